set_option maxRecDepth 20000 in
theorem ggX1_init_Jx4a65c_init_da8c8 : GoodIn wsX1_init wsJx4a65c_init_da8c8 := goodIn_r _ [13, 14, 15, 16, 17, 18, 19, 20, 21, 22, 23, 24, 25, 2, 3, 26, 27, 28] (by decide +kernel) (by decide +kernel)
set_option maxRecDepth 20000 in
theorem gX1_init_Jx4a65c_init_da8c8 : GoodIn wsX1_init (wsJx4a65c_init_da8c8) := ggX1_init_Jx4a65c_init_da8c8
theorem dX1_init_0 : decode cX1_init 0 = .ok (.aload_n 0, 1) := by decide +kernel
theorem dX1_init_1 : decode cX1_init 1 = .ok (.invokespecial 1, 3) := by decide +kernel
theorem dX1_init_4 : decode cX1_init 4 = .ok (.aload_n 0, 1) := by decide +kernel
theorem dX1_init_5 : decode cX1_init 5 = .ok (.new 7, 3) := by decide +kernel
theorem dX1_init_8 : decode cX1_init 8 = .ok (.dup, 1) := by decide +kernel
theorem dX1_init_9 : decode cX1_init 9 = .ok (.invokespecial 9, 3) := by decide +kernel
theorem dX1_init_12 : decode cX1_init 12 = .ok (.putfield 10, 3) := by decide +kernel
theorem dX1_init_15 : decode cX1_init 15 = .ok (.aload_n 0, 1) := by decide +kernel
theorem dX1_init_16 : decode cX1_init 16 = .ok (.iconst 0, 1) := by decide +kernel
theorem dX1_init_17 : decode cX1_init 17 = .ok (.putfield 16, 3) := by decide +kernel
theorem dX1_init_20 : decode cX1_init 20 = .ok (.aload_n 0, 1) := by decide +kernel
theorem dX1_init_21 : decode cX1_init 21 = .ok (.iconst 0, 1) := by decide +kernel
theorem dX1_init_22 : decode cX1_init 22 = .ok (.putfield 20, 3) := by decide +kernel
theorem dX1_init_25 : decode cX1_init 25 = .ok (.aload_n 0, 1) := by decide +kernel
theorem dX1_init_26 : decode cX1_init 26 = .ok (.iconst 0, 1) := by decide +kernel
theorem dX1_init_27 : decode cX1_init 27 = .ok (.putfield 23, 3) := by decide +kernel
theorem dX1_init_30 : decode cX1_init 30 = .ok (.return_, 1) := by decide +kernel
set_option maxRecDepth 20000 in
theorem ggX1_join_Jx4a65c_size_8abf5 : GoodIn wsX1_join wsJx4a65c_size_8abf5 := goodIn_r _ [13, 14, 99, 100, 101] (by decide +kernel) (by decide +kernel)
set_option maxRecDepth 20000 in
theorem gX1_join_Jx4a65c_size_8abf5 : GoodIn wsX1_join (wsV RX1 35 RJx4a65c yJx4a65c_size_8abf5 wsJx4a65c_size_8abf5) := goodIn_app (goodIn_of _ (by decide +kernel)) ggX1_join_Jx4a65c_size_8abf5
set_option maxRecDepth 20000 in
theorem ggX1_join_X0_init : GoodIn wsX1_join wsX0_init := goodIn_r _ [16, 17, 18, 19, 20, 21, 22, 23, 24, 25, 26, 27, 28, 90, 91, 92, 93, 94, 95, 96, 97, 98] (by decide +kernel) (by decide +kernel)
set_option maxRecDepth 20000 in
theorem gX1_join_X0_init_n46 : GoodIn wsX1_join (wsX0_init) := ggX1_join_X0_init
set_option maxRecDepth 20000 in
theorem ggX1_join_X0_putOnOwnHat : GoodIn wsX1_join wsX0_putOnOwnHat := goodIn_r _ [31, 28, 22, 90, 91, 92, 93, 94, 95, 96, 97, 98] (by decide +kernel) (by decide +kernel)
set_option maxRecDepth 20000 in
theorem gX1_join_X0_putOnOwnHat_n49 : GoodIn wsX1_join (wsX0_putOnOwnHat) := ggX1_join_X0_putOnOwnHat
set_option maxRecDepth 20000 in
theorem ggX1_join_Jx4a65c_add_9ea2d : GoodIn wsX1_join wsJx4a65c_add_9ea2d := goodIn_r _ [35, 36, 37, 38, 14, 39, 40, 41, 12, 42, 43, 44, 45, 46, 47, 48, 49, 50, 51, 52, 53, 54, 55, 56, 57, 58, 59, 60, 61, 62, 63, 64, 65, 66, 67, 68, 69, 70, 71, 72, 73, 74, 75, 76, 77, 78, 79, 80, 81, 82, 83, 84, 85, 99, 100, 101] (by decide +kernel) (by decide +kernel)
set_option maxRecDepth 20000 in
theorem gX1_join_Jx4a65c_add_9ea2d : GoodIn wsX1_join (wsV RX1 52 RJx4a65c yJx4a65c_add_9ea2d wsJx4a65c_add_9ea2d) := goodIn_app (goodIn_of _ (by decide +kernel)) ggX1_join_Jx4a65c_add_9ea2d
theorem dX1_join_0 : decode cX1_join 0 = .ok (.iload_n 1, 1) := by decide +kernel
theorem dX1_join_1 : decode cX1_join 1 = .ok (.iconst 1, 1) := by decide +kernel
theorem dX1_join_2 : decode cX1_join 2 = .ok (.if_icmp .lt 9, 3) := by decide +kernel
theorem dX1_join_5 : decode cX1_join 5 = .ok (.iload_n 1, 1) := by decide +kernel
theorem dX1_join_6 : decode cX1_join 6 = .ok (.bipush 99, 2) := by decide +kernel
theorem dX1_join_8 : decode cX1_join 8 = .ok (.if_icmp .le 13, 3) := by decide +kernel
theorem dX1_join_11 : decode cX1_join 11 = .ok (.new 26, 3) := by decide +kernel
theorem dX1_join_14 : decode cX1_join 14 = .ok (.dup, 1) := by decide +kernel
theorem dX1_join_15 : decode cX1_join 15 = .ok (.ldc 28, 2) := by decide +kernel
theorem dX1_join_17 : decode cX1_join 17 = .ok (.invokespecial 30, 3) := by decide +kernel
theorem dX1_join_20 : decode cX1_join 20 = .ok (.athrow, 1) := by decide +kernel
theorem dX1_join_21 : decode cX1_join 21 = .ok (.iload_n 2, 1) := by decide +kernel
theorem dX1_join_22 : decode cX1_join 22 = .ok (.ifCond .lt 9, 3) := by decide +kernel
theorem dX1_join_25 : decode cX1_join 25 = .ok (.iload_n 2, 1) := by decide +kernel
theorem dX1_join_26 : decode cX1_join 26 = .ok (.bipush 20, 2) := by decide +kernel
theorem dX1_join_28 : decode cX1_join 28 = .ok (.if_icmp .le 13, 3) := by decide +kernel
theorem dX1_join_31 : decode cX1_join 31 = .ok (.new 26, 3) := by decide +kernel
theorem dX1_join_34 : decode cX1_join 34 = .ok (.dup, 1) := by decide +kernel
theorem dX1_join_35 : decode cX1_join 35 = .ok (.ldc 33, 2) := by decide +kernel
theorem dX1_join_37 : decode cX1_join 37 = .ok (.invokespecial 30, 3) := by decide +kernel
theorem dX1_join_40 : decode cX1_join 40 = .ok (.athrow, 1) := by decide +kernel
theorem dX1_join_41 : decode cX1_join 41 = .ok (.aload_n 0, 1) := by decide +kernel
theorem dX1_join_42 : decode cX1_join 42 = .ok (.getfield 10, 3) := by decide +kernel
theorem dX1_join_45 : decode cX1_join 45 = .ok (.invokevirtual 35, 3) := by decide +kernel
theorem dX1_join_48 : decode cX1_join 48 = .ok (.bipush 10, 2) := by decide +kernel
theorem dX1_join_50 : decode cX1_join 50 = .ok (.if_icmp .lt 13, 3) := by decide +kernel
theorem dX1_join_53 : decode cX1_join 53 = .ok (.new 39, 3) := by decide +kernel
theorem dX1_join_56 : decode cX1_join 56 = .ok (.dup, 1) := by decide +kernel
theorem dX1_join_57 : decode cX1_join 57 = .ok (.ldc 41, 2) := by decide +kernel
theorem dX1_join_59 : decode cX1_join 59 = .ok (.invokespecial 43, 3) := by decide +kernel
theorem dX1_join_62 : decode cX1_join 62 = .ok (.athrow, 1) := by decide +kernel
theorem dX1_join_63 : decode cX1_join 63 = .ok (.new 44, 3) := by decide +kernel
theorem dX1_join_66 : decode cX1_join 66 = .ok (.dup, 1) := by decide +kernel
theorem dX1_join_67 : decode cX1_join 67 = .ok (.aload_n 0, 1) := by decide +kernel
theorem dX1_join_68 : decode cX1_join 68 = .ok (.getfield 10, 3) := by decide +kernel
theorem dX1_join_71 : decode cX1_join 71 = .ok (.invokevirtual 35, 3) := by decide +kernel
theorem dX1_join_74 : decode cX1_join 74 = .ok (.iload_n 1, 1) := by decide +kernel
theorem dX1_join_75 : decode cX1_join 75 = .ok (.iload_n 2, 1) := by decide +kernel
theorem dX1_join_76 : decode cX1_join 76 = .ok (.invokespecial 46, 3) := by decide +kernel
theorem dX1_join_79 : decode cX1_join 79 = .ok (.astore_n 3, 1) := by decide +kernel
theorem dX1_join_80 : decode cX1_join 80 = .ok (.aload_n 3, 1) := by decide +kernel
theorem dX1_join_81 : decode cX1_join 81 = .ok (.invokevirtual 49, 3) := by decide +kernel
theorem dX1_join_84 : decode cX1_join 84 = .ok (.aload_n 0, 1) := by decide +kernel
theorem dX1_join_85 : decode cX1_join 85 = .ok (.getfield 10, 3) := by decide +kernel
theorem dX1_join_88 : decode cX1_join 88 = .ok (.aload_n 3, 1) := by decide +kernel
theorem dX1_join_89 : decode cX1_join 89 = .ok (.invokevirtual 52, 3) := by decide +kernel
theorem dX1_join_92 : decode cX1_join 92 = .ok (.pop, 1) := by decide +kernel
theorem dX1_join_93 : decode cX1_join 93 = .ok (.aload_n 3, 1) := by decide +kernel
theorem dX1_join_94 : decode cX1_join 94 = .ok (.getfield 56, 3) := by decide +kernel
theorem dX1_join_97 : decode cX1_join 97 = .ok (.ireturn, 1) := by decide +kernel
set_option maxRecDepth 20000 in
theorem ggX1_buyLamp_X1_memberNumbered : GoodIn wsX1_buyLamp wsX1_memberNumbered := goodIn_ca (goodIn_r _ [9, 10, 11, 12, 13, 14, 15, 16, 17, 18, 19, 20, 21, 22, 23, 24, 25, 26, 27, 28, 29, 30, 31, 32, 33, 34, 35, 36, 46, 47, 48, 49, 50, 51, 52] (by decide +kernel) (by decide +kernel)) (goodIn_sub (fun _ h => List.mem_cons_of_mem _ (List.mem_append_right _ h)) (by decide +kernel))
set_option maxRecDepth 20000 in
theorem gX1_buyLamp_X1_memberNumbered : GoodIn wsX1_buyLamp (wsV RX1 59 RX1 yX1_memberNumbered wsX1_memberNumbered) := goodIn_app (goodIn_of _ (by decide +kernel)) ggX1_buyLamp_X1_memberNumbered
theorem dX1_buyLamp_0 : decode cX1_buyLamp 0 = .ok (.aload_n 0, 1) := by decide +kernel
theorem dX1_buyLamp_1 : decode cX1_buyLamp 1 = .ok (.iload_n 1, 1) := by decide +kernel
theorem dX1_buyLamp_2 : decode cX1_buyLamp 2 = .ok (.invokevirtual 59, 3) := by decide +kernel
theorem dX1_buyLamp_5 : decode cX1_buyLamp 5 = .ok (.astore_n 3, 1) := by decide +kernel
theorem dX1_buyLamp_6 : decode cX1_buyLamp 6 = .ok (.iload_n 2, 1) := by decide +kernel
theorem dX1_buyLamp_7 : decode cX1_buyLamp 7 = .ok (.iconst 1, 1) := by decide +kernel
theorem dX1_buyLamp_8 : decode cX1_buyLamp 8 = .ok (.if_icmp .lt 9, 3) := by decide +kernel
theorem dX1_buyLamp_11 : decode cX1_buyLamp 11 = .ok (.iload_n 2, 1) := by decide +kernel
theorem dX1_buyLamp_12 : decode cX1_buyLamp 12 = .ok (.bipush 9, 2) := by decide +kernel
theorem dX1_buyLamp_14 : decode cX1_buyLamp 14 = .ok (.if_icmp .le 13, 3) := by decide +kernel
theorem dX1_buyLamp_17 : decode cX1_buyLamp 17 = .ok (.new 26, 3) := by decide +kernel
theorem dX1_buyLamp_20 : decode cX1_buyLamp 20 = .ok (.dup, 1) := by decide +kernel
theorem dX1_buyLamp_21 : decode cX1_buyLamp 21 = .ok (.ldc 63, 2) := by decide +kernel
theorem dX1_buyLamp_23 : decode cX1_buyLamp 23 = .ok (.invokespecial 30, 3) := by decide +kernel
theorem dX1_buyLamp_26 : decode cX1_buyLamp 26 = .ok (.athrow, 1) := by decide +kernel
theorem dX1_buyLamp_27 : decode cX1_buyLamp 27 = .ok (.aload_n 3, 1) := by decide +kernel
theorem dX1_buyLamp_28 : decode cX1_buyLamp 28 = .ok (.getfield 65, 3) := by decide +kernel
theorem dX1_buyLamp_31 : decode cX1_buyLamp 31 = .ok (.ifCond .le 13, 3) := by decide +kernel
theorem dX1_buyLamp_34 : decode cX1_buyLamp 34 = .ok (.new 39, 3) := by decide +kernel
theorem dX1_buyLamp_37 : decode cX1_buyLamp 37 = .ok (.dup, 1) := by decide +kernel
theorem dX1_buyLamp_38 : decode cX1_buyLamp 38 = .ok (.ldc 68, 2) := by decide +kernel
theorem dX1_buyLamp_40 : decode cX1_buyLamp 40 = .ok (.invokespecial 43, 3) := by decide +kernel
theorem dX1_buyLamp_43 : decode cX1_buyLamp 43 = .ok (.athrow, 1) := by decide +kernel
theorem dX1_buyLamp_44 : decode cX1_buyLamp 44 = .ok (.aload_n 3, 1) := by decide +kernel
theorem dX1_buyLamp_45 : decode cX1_buyLamp 45 = .ok (.getfield 70, 3) := by decide +kernel
theorem dX1_buyLamp_48 : decode cX1_buyLamp 48 = .ok (.iload_n 2, 1) := by decide +kernel
theorem dX1_buyLamp_49 : decode cX1_buyLamp 49 = .ok (.if_icmp .ge 13, 3) := by decide +kernel
theorem dX1_buyLamp_52 : decode cX1_buyLamp 52 = .ok (.new 39, 3) := by decide +kernel
theorem dX1_buyLamp_55 : decode cX1_buyLamp 55 = .ok (.dup, 1) := by decide +kernel
theorem dX1_buyLamp_56 : decode cX1_buyLamp 56 = .ok (.ldc 73, 2) := by decide +kernel
theorem dX1_buyLamp_58 : decode cX1_buyLamp 58 = .ok (.invokespecial 43, 3) := by decide +kernel
theorem dX1_buyLamp_61 : decode cX1_buyLamp 61 = .ok (.athrow, 1) := by decide +kernel
theorem dX1_buyLamp_62 : decode cX1_buyLamp 62 = .ok (.aload_n 3, 1) := by decide +kernel
theorem dX1_buyLamp_63 : decode cX1_buyLamp 63 = .ok (.dup, 1) := by decide +kernel
theorem dX1_buyLamp_64 : decode cX1_buyLamp 64 = .ok (.getfield 70, 3) := by decide +kernel
theorem dX1_buyLamp_67 : decode cX1_buyLamp 67 = .ok (.iload_n 2, 1) := by decide +kernel
theorem dX1_buyLamp_68 : decode cX1_buyLamp 68 = .ok (.isub, 1) := by decide +kernel
theorem dX1_buyLamp_69 : decode cX1_buyLamp 69 = .ok (.putfield 70, 3) := by decide +kernel
theorem dX1_buyLamp_72 : decode cX1_buyLamp 72 = .ok (.aload_n 3, 1) := by decide +kernel
theorem dX1_buyLamp_73 : decode cX1_buyLamp 73 = .ok (.iload_n 2, 1) := by decide +kernel
theorem dX1_buyLamp_74 : decode cX1_buyLamp 74 = .ok (.putfield 65, 3) := by decide +kernel
theorem dX1_buyLamp_77 : decode cX1_buyLamp 77 = .ok (.aload_n 3, 1) := by decide +kernel
theorem dX1_buyLamp_78 : decode cX1_buyLamp 78 = .ok (.getfield 70, 3) := by decide +kernel
theorem dX1_buyLamp_81 : decode cX1_buyLamp 81 = .ok (.ireturn, 1) := by decide +kernel
set_option maxRecDepth 20000 in
theorem ggX1_dropLamp_X1_memberNumbered : GoodIn wsX1_dropLamp wsX1_memberNumbered := goodIn_ca (goodIn_r _ [7, 8, 9, 10, 11, 12, 13, 14, 15, 16, 17, 18, 19, 20, 21, 22, 23, 24, 25, 26, 27, 28, 29, 30, 31, 32, 33, 34, 44, 45, 46, 47, 48, 49, 50] (by decide +kernel) (by decide +kernel)) (goodIn_sub (fun _ h => List.mem_cons_of_mem _ (List.mem_append_right _ h)) (by decide +kernel))
set_option maxRecDepth 20000 in
theorem gX1_dropLamp_X1_memberNumbered : GoodIn wsX1_dropLamp (wsV RX1 59 RX1 yX1_memberNumbered wsX1_memberNumbered) := goodIn_app (goodIn_of _ (by decide +kernel)) ggX1_dropLamp_X1_memberNumbered
theorem dX1_dropLamp_0 : decode cX1_dropLamp 0 = .ok (.aload_n 0, 1) := by decide +kernel
theorem dX1_dropLamp_1 : decode cX1_dropLamp 1 = .ok (.iload_n 1, 1) := by decide +kernel
theorem dX1_dropLamp_2 : decode cX1_dropLamp 2 = .ok (.invokevirtual 59, 3) := by decide +kernel
theorem dX1_dropLamp_5 : decode cX1_dropLamp 5 = .ok (.astore_n 2, 1) := by decide +kernel
theorem dX1_dropLamp_6 : decode cX1_dropLamp 6 = .ok (.aload_n 2, 1) := by decide +kernel
theorem dX1_dropLamp_7 : decode cX1_dropLamp 7 = .ok (.getfield 65, 3) := by decide +kernel
theorem dX1_dropLamp_10 : decode cX1_dropLamp 10 = .ok (.istore_n 3, 1) := by decide +kernel
theorem dX1_dropLamp_11 : decode cX1_dropLamp 11 = .ok (.iload_n 3, 1) := by decide +kernel
theorem dX1_dropLamp_12 : decode cX1_dropLamp 12 = .ok (.ifCond .ne 13, 3) := by decide +kernel
theorem dX1_dropLamp_15 : decode cX1_dropLamp 15 = .ok (.new 39, 3) := by decide +kernel
theorem dX1_dropLamp_18 : decode cX1_dropLamp 18 = .ok (.dup, 1) := by decide +kernel
theorem dX1_dropLamp_19 : decode cX1_dropLamp 19 = .ok (.ldc 75, 2) := by decide +kernel
theorem dX1_dropLamp_21 : decode cX1_dropLamp 21 = .ok (.invokespecial 43, 3) := by decide +kernel
theorem dX1_dropLamp_24 : decode cX1_dropLamp 24 = .ok (.athrow, 1) := by decide +kernel
theorem dX1_dropLamp_25 : decode cX1_dropLamp 25 = .ok (.aload_n 2, 1) := by decide +kernel
theorem dX1_dropLamp_26 : decode cX1_dropLamp 26 = .ok (.iconst 0, 1) := by decide +kernel
theorem dX1_dropLamp_27 : decode cX1_dropLamp 27 = .ok (.putfield 65, 3) := by decide +kernel
theorem dX1_dropLamp_30 : decode cX1_dropLamp 30 = .ok (.iload_n 3, 1) := by decide +kernel
theorem dX1_dropLamp_31 : decode cX1_dropLamp 31 = .ok (.ireturn, 1) := by decide +kernel
set_option maxRecDepth 20000 in
theorem ggX1_borrow_X1_memberNumbered : GoodIn wsX1_borrow wsX1_memberNumbered := goodIn_ca (goodIn_r _ [9, 10, 11, 12, 13, 14, 15, 16, 17, 18, 19, 20, 21, 22, 23, 24, 25, 26, 27, 28, 29, 30, 31, 32, 33, 34, 35, 36, 57, 58, 59, 60, 61, 62, 63] (by decide +kernel) (by decide +kernel)) (goodIn_sub (fun _ h => List.mem_cons_of_mem _ (List.mem_append_right _ h)) (by decide +kernel))
set_option maxRecDepth 20000 in
theorem gX1_borrow_X1_memberNumbered : GoodIn wsX1_borrow (wsV RX1 59 RX1 yX1_memberNumbered wsX1_memberNumbered) := goodIn_app (goodIn_of _ (by decide +kernel)) ggX1_borrow_X1_memberNumbered
set_option maxRecDepth 20000 in
theorem ggX1_borrow_X1_canBorrow : GoodIn wsX1_borrow wsX1_canBorrow := goodIn_r _ [39, 40, 41, 42, 43, 44, 45, 46, 47, 48, 49, 50, 51, 52, 53, 54, 55, 56] (by decide +kernel) (by decide +kernel)
set_option maxRecDepth 20000 in
theorem gX1_borrow_X1_canBorrow : GoodIn wsX1_borrow (va_wsS RX1 79 yX1_canBorrow wsX1_canBorrow) := goodIn_app (goodIn_of _ (by decide +kernel)) ggX1_borrow_X1_canBorrow
theorem dX1_borrow_0 : decode cX1_borrow 0 = .ok (.aload_n 0, 1) := by decide +kernel
theorem dX1_borrow_1 : decode cX1_borrow 1 = .ok (.iload_n 1, 1) := by decide +kernel
theorem dX1_borrow_2 : decode cX1_borrow 2 = .ok (.invokevirtual 59, 3) := by decide +kernel
theorem dX1_borrow_5 : decode cX1_borrow 5 = .ok (.astore_n 3, 1) := by decide +kernel
theorem dX1_borrow_6 : decode cX1_borrow 6 = .ok (.aload_n 0, 1) := by decide +kernel
theorem dX1_borrow_7 : decode cX1_borrow 7 = .ok (.iload_n 2, 1) := by decide +kernel
theorem dX1_borrow_8 : decode cX1_borrow 8 = .ok (.invokevirtual 59, 3) := by decide +kernel
theorem dX1_borrow_11 : decode cX1_borrow 11 = .ok (.astore 4, 2) := by decide +kernel
theorem dX1_borrow_13 : decode cX1_borrow 13 = .ok (.iload_n 1, 1) := by decide +kernel
theorem dX1_borrow_14 : decode cX1_borrow 14 = .ok (.iload_n 2, 1) := by decide +kernel
theorem dX1_borrow_15 : decode cX1_borrow 15 = .ok (.if_icmp .ne 13, 3) := by decide +kernel
theorem dX1_borrow_18 : decode cX1_borrow 18 = .ok (.new 26, 3) := by decide +kernel
theorem dX1_borrow_21 : decode cX1_borrow 21 = .ok (.dup, 1) := by decide +kernel
theorem dX1_borrow_22 : decode cX1_borrow 22 = .ok (.ldc 77, 2) := by decide +kernel
theorem dX1_borrow_24 : decode cX1_borrow 24 = .ok (.invokespecial 30, 3) := by decide +kernel
theorem dX1_borrow_27 : decode cX1_borrow 27 = .ok (.athrow, 1) := by decide +kernel
theorem dX1_borrow_28 : decode cX1_borrow 28 = .ok (.aload_n 3, 1) := by decide +kernel
theorem dX1_borrow_29 : decode cX1_borrow 29 = .ok (.aload 4, 2) := by decide +kernel
theorem dX1_borrow_31 : decode cX1_borrow 31 = .ok (.invokestatic 79, 3) := by decide +kernel
theorem dX1_borrow_34 : decode cX1_borrow 34 = .ok (.ifCond .ne 13, 3) := by decide +kernel
theorem dX1_borrow_37 : decode cX1_borrow 37 = .ok (.new 39, 3) := by decide +kernel
theorem dX1_borrow_40 : decode cX1_borrow 40 = .ok (.dup, 1) := by decide +kernel
theorem dX1_borrow_41 : decode cX1_borrow 41 = .ok (.ldc 83, 2) := by decide +kernel
theorem dX1_borrow_43 : decode cX1_borrow 43 = .ok (.invokespecial 43, 3) := by decide +kernel
theorem dX1_borrow_46 : decode cX1_borrow 46 = .ok (.athrow, 1) := by decide +kernel
theorem dX1_borrow_47 : decode cX1_borrow 47 = .ok (.aload 4, 2) := by decide +kernel
theorem dX1_borrow_49 : decode cX1_borrow 49 = .ok (.aconst_null, 1) := by decide +kernel
theorem dX1_borrow_50 : decode cX1_borrow 50 = .ok (.putfield 85, 3) := by decide +kernel
theorem dX1_borrow_53 : decode cX1_borrow 53 = .ok (.aload_n 3, 1) := by decide +kernel
theorem dX1_borrow_54 : decode cX1_borrow 54 = .ok (.aload 4, 2) := by decide +kernel
theorem dX1_borrow_56 : decode cX1_borrow 56 = .ok (.putfield 85, 3) := by decide +kernel
theorem dX1_borrow_59 : decode cX1_borrow 59 = .ok (.aload 4, 2) := by decide +kernel
theorem dX1_borrow_61 : decode cX1_borrow 61 = .ok (.getfield 89, 3) := by decide +kernel
theorem dX1_borrow_64 : decode cX1_borrow 64 = .ok (.ireturn, 1) := by decide +kernel
set_option maxRecDepth 20000 in
theorem ggX1_giveBack_X1_memberNumbered : GoodIn wsX1_giveBack wsX1_memberNumbered := goodIn_ca (goodIn_r _ [7, 8, 9, 10, 11, 12, 13, 14, 15, 16, 17, 18, 19, 20, 21, 22, 23, 24, 25, 26, 27, 28, 29, 30, 31, 32, 33, 34, 57, 58, 59, 60, 61, 62, 63] (by decide +kernel) (by decide +kernel)) (goodIn_sub (fun _ h => List.mem_cons_of_mem _ (List.mem_append_right _ h)) (by decide +kernel))
set_option maxRecDepth 20000 in
theorem gX1_giveBack_X1_memberNumbered : GoodIn wsX1_giveBack (wsV RX1 59 RX1 yX1_memberNumbered wsX1_memberNumbered) := goodIn_app (goodIn_of _ (by decide +kernel)) ggX1_giveBack_X1_memberNumbered
set_option maxRecDepth 20000 in
theorem ggX1_giveBack_X0_wearsBorrowedHat : GoodIn wsX1_giveBack wsX0_wearsBorrowedHat := goodIn_r _ [38, 39, 48, 49, 50, 51, 52, 53, 54, 55, 56] (by decide +kernel) (by decide +kernel)
set_option maxRecDepth 20000 in
theorem gX1_giveBack_X0_wearsBorrowedHat_n94 : GoodIn wsX1_giveBack (wsX0_wearsBorrowedHat) := ggX1_giveBack_X0_wearsBorrowedHat
set_option maxRecDepth 20000 in
theorem ggX1_giveBack_X0_putOnOwnHat : GoodIn wsX1_giveBack wsX0_putOnOwnHat := goodIn_r _ [42, 43, 39, 48, 49, 50, 51, 52, 53, 54, 55, 56] (by decide +kernel) (by decide +kernel)
set_option maxRecDepth 20000 in
theorem gX1_giveBack_X0_putOnOwnHat_n49 : GoodIn wsX1_giveBack (wsX0_putOnOwnHat) := ggX1_giveBack_X0_putOnOwnHat
set_option maxRecDepth 20000 in
theorem ggX1_giveBack_X1_isHatLent : GoodIn wsX1_giveBack wsX1_isHatLent := goodIn_r _ [47, 10, 11, 12, 13, 14, 15, 16, 17, 18, 19, 20, 21, 22, 23, 24, 25, 26, 27, 28, 29, 30, 31, 32, 33, 34, 57, 58, 59, 60, 48, 49, 50, 51, 52, 53, 54, 55, 56, 61, 62, 63] (by decide +kernel) (by decide +kernel)
set_option maxRecDepth 20000 in
theorem gX1_giveBack_X1_isHatLent : GoodIn wsX1_giveBack (wsV RX1 98 RX1 yX1_isHatLent wsX1_isHatLent) := goodIn_app (goodIn_of _ (by decide +kernel)) ggX1_giveBack_X1_isHatLent
theorem dX1_giveBack_0 : decode cX1_giveBack 0 = .ok (.aload_n 0, 1) := by decide +kernel
theorem dX1_giveBack_1 : decode cX1_giveBack 1 = .ok (.iload_n 1, 1) := by decide +kernel
theorem dX1_giveBack_2 : decode cX1_giveBack 2 = .ok (.invokevirtual 59, 3) := by decide +kernel
theorem dX1_giveBack_5 : decode cX1_giveBack 5 = .ok (.astore_n 2, 1) := by decide +kernel
theorem dX1_giveBack_6 : decode cX1_giveBack 6 = .ok (.aload_n 2, 1) := by decide +kernel
theorem dX1_giveBack_7 : decode cX1_giveBack 7 = .ok (.getfield 85, 3) := by decide +kernel
theorem dX1_giveBack_10 : decode cX1_giveBack 10 = .ok (.astore_n 3, 1) := by decide +kernel
theorem dX1_giveBack_11 : decode cX1_giveBack 11 = .ok (.aload_n 3, 1) := by decide +kernel
theorem dX1_giveBack_12 : decode cX1_giveBack 12 = .ok (.ifnull 8, 3) := by decide +kernel
theorem dX1_giveBack_15 : decode cX1_giveBack 15 = .ok (.aload_n 3, 1) := by decide +kernel
theorem dX1_giveBack_16 : decode cX1_giveBack 16 = .ok (.aload_n 2, 1) := by decide +kernel
theorem dX1_giveBack_17 : decode cX1_giveBack 17 = .ok (.if_acmp .ne 13, 3) := by decide +kernel
theorem dX1_giveBack_20 : decode cX1_giveBack 20 = .ok (.new 39, 3) := by decide +kernel
theorem dX1_giveBack_23 : decode cX1_giveBack 23 = .ok (.dup, 1) := by decide +kernel
theorem dX1_giveBack_24 : decode cX1_giveBack 24 = .ok (.ldc 92, 2) := by decide +kernel
theorem dX1_giveBack_26 : decode cX1_giveBack 26 = .ok (.invokespecial 43, 3) := by decide +kernel
theorem dX1_giveBack_29 : decode cX1_giveBack 29 = .ok (.athrow, 1) := by decide +kernel
theorem dX1_giveBack_30 : decode cX1_giveBack 30 = .ok (.aload_n 2, 1) := by decide +kernel
theorem dX1_giveBack_31 : decode cX1_giveBack 31 = .ok (.aconst_null, 1) := by decide +kernel
theorem dX1_giveBack_32 : decode cX1_giveBack 32 = .ok (.putfield 85, 3) := by decide +kernel
theorem dX1_giveBack_35 : decode cX1_giveBack 35 = .ok (.aload_n 3, 1) := by decide +kernel
theorem dX1_giveBack_36 : decode cX1_giveBack 36 = .ok (.invokevirtual 94, 3) := by decide +kernel
theorem dX1_giveBack_39 : decode cX1_giveBack 39 = .ok (.ifCond .ne 7, 3) := by decide +kernel
theorem dX1_giveBack_42 : decode cX1_giveBack 42 = .ok (.aload_n 3, 1) := by decide +kernel
theorem dX1_giveBack_43 : decode cX1_giveBack 43 = .ok (.invokevirtual 49, 3) := by decide +kernel
theorem dX1_giveBack_46 : decode cX1_giveBack 46 = .ok (.aload_n 0, 1) := by decide +kernel
theorem dX1_giveBack_47 : decode cX1_giveBack 47 = .ok (.aload_n 2, 1) := by decide +kernel
theorem dX1_giveBack_48 : decode cX1_giveBack 48 = .ok (.invokevirtual 98, 3) := by decide +kernel
theorem dX1_giveBack_51 : decode cX1_giveBack 51 = .ok (.ifCond .ne 7, 3) := by decide +kernel
theorem dX1_giveBack_54 : decode cX1_giveBack 54 = .ok (.aload_n 2, 1) := by decide +kernel
theorem dX1_giveBack_55 : decode cX1_giveBack 55 = .ok (.invokevirtual 49, 3) := by decide +kernel
theorem dX1_giveBack_58 : decode cX1_giveBack 58 = .ok (.aload_n 3, 1) := by decide +kernel
theorem dX1_giveBack_59 : decode cX1_giveBack 59 = .ok (.getfield 56, 3) := by decide +kernel
theorem dX1_giveBack_62 : decode cX1_giveBack 62 = .ok (.ireturn, 1) := by decide +kernel
set_option maxRecDepth 20000 in
theorem ggX1_certify_X1_memberNumbered : GoodIn wsX1_certify wsX1_memberNumbered := goodIn_ca (goodIn_r _ [7, 8, 9, 10, 11, 12, 13, 14, 15, 16, 17, 18, 19, 20, 21, 22, 23, 24, 25, 26, 27, 28, 29, 30, 31, 32, 33, 34, 71, 72, 73, 74, 75, 76, 77] (by decide +kernel) (by decide +kernel)) (goodIn_sub (fun _ h => List.mem_cons_of_mem _ (List.mem_append_right _ h)) (by decide +kernel))
set_option maxRecDepth 20000 in
theorem gX1_certify_X1_memberNumbered : GoodIn wsX1_certify (wsV RX1 59 RX1 yX1_memberNumbered wsX1_memberNumbered) := goodIn_app (goodIn_of _ (by decide +kernel)) ggX1_certify_X1_memberNumbered
set_option maxRecDepth 20000 in
theorem ggX1_certify_X0_isOut : GoodIn wsX1_certify wsX0_isOut := goodIn_r _ [38, 39, 62, 63, 64, 65, 66, 67, 68, 69, 70] (by decide +kernel) (by decide +kernel)
set_option maxRecDepth 20000 in
theorem gX1_certify_X0_isOut_n102 : GoodIn wsX1_certify (wsX0_isOut) := ggX1_certify_X0_isOut
set_option maxRecDepth 20000 in
theorem ggX1_certify_X1_hourOfDay : GoodIn wsX1_certify wsX1_hourOfDay := goodIn_r _ [43, 44, 71, 72, 73, 74] (by decide +kernel) (by decide +kernel)
set_option maxRecDepth 20000 in
theorem gX1_certify_X1_hourOfDay : GoodIn wsX1_certify (wsV RX1 107 RX1 yX1_hourOfDay wsX1_hourOfDay) := goodIn_app (goodIn_of _ (by decide +kernel)) ggX1_certify_X1_hourOfDay
set_option maxRecDepth 20000 in
theorem ggX1_certify_X0_shadowAt : GoodIn wsX1_certify wsX0_shadowAt := goodIn_r _ [47, 48, 49, 50, 51, 52, 36, 53, 54, 55, 56, 6, 57, 58, 59, 60, 61, 62, 63, 64, 65, 66, 67, 68, 69, 70] (by decide +kernel) (by decide +kernel)
set_option maxRecDepth 20000 in
theorem gX1_certify_X0_shadowAt_n113 : GoodIn wsX1_certify (wsX0_shadowAt) := ggX1_certify_X0_shadowAt
theorem dX1_certify_0 : decode cX1_certify 0 = .ok (.aload_n 0, 1) := by decide +kernel
theorem dX1_certify_1 : decode cX1_certify 1 = .ok (.iload_n 1, 1) := by decide +kernel
theorem dX1_certify_2 : decode cX1_certify 2 = .ok (.invokevirtual 59, 3) := by decide +kernel
theorem dX1_certify_5 : decode cX1_certify 5 = .ok (.astore_n 2, 1) := by decide +kernel
theorem dX1_certify_6 : decode cX1_certify 6 = .ok (.aload_n 2, 1) := by decide +kernel
theorem dX1_certify_7 : decode cX1_certify 7 = .ok (.invokevirtual 102, 3) := by decide +kernel
theorem dX1_certify_10 : decode cX1_certify 10 = .ok (.ifCond .eq 13, 3) := by decide +kernel
theorem dX1_certify_13 : decode cX1_certify 13 = .ok (.new 39, 3) := by decide +kernel
theorem dX1_certify_16 : decode cX1_certify 16 = .ok (.dup, 1) := by decide +kernel
theorem dX1_certify_17 : decode cX1_certify 17 = .ok (.ldc 105, 2) := by decide +kernel
theorem dX1_certify_19 : decode cX1_certify 19 = .ok (.invokespecial 43, 3) := by decide +kernel
theorem dX1_certify_22 : decode cX1_certify 22 = .ok (.athrow, 1) := by decide +kernel
theorem dX1_certify_23 : decode cX1_certify 23 = .ok (.aload_n 2, 1) := by decide +kernel
theorem dX1_certify_24 : decode cX1_certify 24 = .ok (.aload_n 0, 1) := by decide +kernel
theorem dX1_certify_25 : decode cX1_certify 25 = .ok (.invokevirtual 107, 3) := by decide +kernel
theorem dX1_certify_28 : decode cX1_certify 28 = .ok (.putfield 110, 3) := by decide +kernel
theorem dX1_certify_31 : decode cX1_certify 31 = .ok (.aload_n 2, 1) := by decide +kernel
theorem dX1_certify_32 : decode cX1_certify 32 = .ok (.aload_n 2, 1) := by decide +kernel
theorem dX1_certify_33 : decode cX1_certify 33 = .ok (.aload_n 0, 1) := by decide +kernel
theorem dX1_certify_34 : decode cX1_certify 34 = .ok (.invokevirtual 107, 3) := by decide +kernel
theorem dX1_certify_37 : decode cX1_certify 37 = .ok (.invokevirtual 113, 3) := by decide +kernel
theorem dX1_certify_40 : decode cX1_certify 40 = .ok (.putfield 117, 3) := by decide +kernel
theorem dX1_certify_43 : decode cX1_certify 43 = .ok (.aload_n 2, 1) := by decide +kernel
theorem dX1_certify_44 : decode cX1_certify 44 = .ok (.getfield 117, 3) := by decide +kernel
theorem dX1_certify_47 : decode cX1_certify 47 = .ok (.ireturn, 1) := by decide +kernel
set_option maxRecDepth 20000 in
theorem ggX1_pass_X1_passOneHour : GoodIn wsX1_pass wsX1_passOneHour := goodIn_r _ [8, 9, 10, 11, 12, 7, 13, 14, 15, 16, 17, 18, 19, 20, 21, 22, 23, 24, 25, 26, 27, 28, 29, 30, 31, 32, 33, 34, 35, 36, 37, 38, 39, 40, 41, 42, 43, 44, 45, 46, 47, 48, 49, 50, 51, 52, 53, 54, 55, 56, 57, 58, 59, 60, 61, 3, 62, 63, 64, 65, 66, 67, 68, 69, 70, 71, 72, 73, 74, 75, 76, 77, 78, 79, 80, 81, 82, 83, 84, 85, 86, 87, 88, 89, 90, 91, 92, 93, 94, 95, 96, 97, 98, 99, 100, 101] (by decide +kernel) (by decide +kernel)
set_option maxRecDepth 20000 in
theorem gX1_pass_X1_passOneHour : GoodIn wsX1_pass (wsV RX1 122 RX1 yX1_passOneHour wsX1_passOneHour) := goodIn_app (goodIn_of _ (by decide +kernel)) ggX1_pass_X1_passOneHour
theorem dX1_pass_0 : decode cX1_pass 0 = .ok (.iload_n 1, 1) := by decide +kernel
theorem dX1_pass_1 : decode cX1_pass 1 = .ok (.iconst 1, 1) := by decide +kernel
theorem dX1_pass_2 : decode cX1_pass 2 = .ok (.if_icmp .lt 9, 3) := by decide +kernel
theorem dX1_pass_5 : decode cX1_pass 5 = .ok (.iload_n 1, 1) := by decide +kernel
theorem dX1_pass_6 : decode cX1_pass 6 = .ok (.bipush 72, 2) := by decide +kernel
theorem dX1_pass_8 : decode cX1_pass 8 = .ok (.if_icmp .le 13, 3) := by decide +kernel
theorem dX1_pass_11 : decode cX1_pass 11 = .ok (.new 26, 3) := by decide +kernel
theorem dX1_pass_14 : decode cX1_pass 14 = .ok (.dup, 1) := by decide +kernel
theorem dX1_pass_15 : decode cX1_pass 15 = .ok (.ldc 120, 2) := by decide +kernel
theorem dX1_pass_17 : decode cX1_pass 17 = .ok (.invokespecial 30, 3) := by decide +kernel
theorem dX1_pass_20 : decode cX1_pass 20 = .ok (.athrow, 1) := by decide +kernel
theorem dX1_pass_21 : decode cX1_pass 21 = .ok (.aload_n 0, 1) := by decide +kernel
theorem dX1_pass_22 : decode cX1_pass 22 = .ok (.getfield 23, 3) := by decide +kernel
theorem dX1_pass_25 : decode cX1_pass 25 = .ok (.istore_n 2, 1) := by decide +kernel
theorem dX1_pass_26 : decode cX1_pass 26 = .ok (.iconst 0, 1) := by decide +kernel
theorem dX1_pass_27 : decode cX1_pass 27 = .ok (.istore_n 3, 1) := by decide +kernel
theorem dX1_pass_28 : decode cX1_pass 28 = .ok (.iload_n 3, 1) := by decide +kernel
theorem dX1_pass_29 : decode cX1_pass 29 = .ok (.iload_n 1, 1) := by decide +kernel
theorem dX1_pass_30 : decode cX1_pass 30 = .ok (.if_icmp .ge 13, 3) := by decide +kernel
theorem dX1_pass_33 : decode cX1_pass 33 = .ok (.aload_n 0, 1) := by decide +kernel
theorem dX1_pass_34 : decode cX1_pass 34 = .ok (.invokevirtual 122, 3) := by decide +kernel
theorem dX1_pass_37 : decode cX1_pass 37 = .ok (.iinc 3 1, 3) := by decide +kernel
theorem dX1_pass_40 : decode cX1_pass 40 = .ok (.goto (-12), 3) := by decide +kernel
theorem dX1_pass_43 : decode cX1_pass 43 = .ok (.aload_n 0, 1) := by decide +kernel
theorem dX1_pass_44 : decode cX1_pass 44 = .ok (.getfield 23, 3) := by decide +kernel
theorem dX1_pass_47 : decode cX1_pass 47 = .ok (.iload_n 2, 1) := by decide +kernel
theorem dX1_pass_48 : decode cX1_pass 48 = .ok (.isub, 1) := by decide +kernel
theorem dX1_pass_49 : decode cX1_pass 49 = .ok (.ireturn, 1) := by decide +kernel
set_option maxRecDepth 20000 in
theorem ggX1_members_Jx4a65c_size_8abf5 : GoodIn wsX1_members wsJx4a65c_size_8abf5 := goodIn_r _ [6, 7, 12, 13, 14] (by decide +kernel) (by decide +kernel)
set_option maxRecDepth 20000 in
theorem gX1_members_Jx4a65c_size_8abf5 : GoodIn wsX1_members (wsV RX1 35 RJx4a65c yJx4a65c_size_8abf5 wsJx4a65c_size_8abf5) := goodIn_app (goodIn_of _ (by decide +kernel)) ggX1_members_Jx4a65c_size_8abf5
theorem dX1_members_0 : decode cX1_members 0 = .ok (.aload_n 0, 1) := by decide +kernel
theorem dX1_members_1 : decode cX1_members 1 = .ok (.getfield 10, 3) := by decide +kernel
theorem dX1_members_4 : decode cX1_members 4 = .ok (.invokevirtual 35, 3) := by decide +kernel
theorem dX1_members_7 : decode cX1_members 7 = .ok (.ireturn, 1) := by decide +kernel
theorem dX1_hour_0 : decode cX1_hour 0 = .ok (.aload_n 0, 1) := by decide +kernel
theorem dX1_hour_1 : decode cX1_hour 1 = .ok (.getfield 16, 3) := by decide +kernel
theorem dX1_hour_4 : decode cX1_hour 4 = .ok (.ireturn, 1) := by decide +kernel
theorem dX1_hourOfDay_0 : decode cX1_hourOfDay 0 = .ok (.aload_n 0, 1) := by decide +kernel
theorem dX1_hourOfDay_1 : decode cX1_hourOfDay 1 = .ok (.getfield 16, 3) := by decide +kernel
theorem dX1_hourOfDay_4 : decode cX1_hourOfDay 4 = .ok (.bipush 24, 2) := by decide +kernel
theorem dX1_hourOfDay_6 : decode cX1_hourOfDay 6 = .ok (.irem, 1) := by decide +kernel
theorem dX1_hourOfDay_7 : decode cX1_hourOfDay 7 = .ok (.ireturn, 1) := by decide +kernel
theorem dX1_seized_0 : decode cX1_seized 0 = .ok (.aload_n 0, 1) := by decide +kernel
theorem dX1_seized_1 : decode cX1_seized 1 = .ok (.getfield 20, 3) := by decide +kernel
theorem dX1_seized_4 : decode cX1_seized 4 = .ok (.ireturn, 1) := by decide +kernel
theorem dX1_revoked_0 : decode cX1_revoked 0 = .ok (.aload_n 0, 1) := by decide +kernel
theorem dX1_revoked_1 : decode cX1_revoked 1 = .ok (.getfield 23, 3) := by decide +kernel
theorem dX1_revoked_4 : decode cX1_revoked 4 = .ok (.ireturn, 1) := by decide +kernel
set_option maxRecDepth 20000 in
theorem ggX1_certificates_Jx4a65c_size_8abf5 : GoodIn wsX1_certificates wsJx4a65c_size_8abf5 := goodIn_r _ [7, 8, 35, 36, 37] (by decide +kernel) (by decide +kernel)
set_option maxRecDepth 20000 in
theorem gX1_certificates_Jx4a65c_size_8abf5 : GoodIn wsX1_certificates (wsV RX1 35 RJx4a65c yJx4a65c_size_8abf5 wsJx4a65c_size_8abf5) := goodIn_app (goodIn_of _ (by decide +kernel)) ggX1_certificates_Jx4a65c_size_8abf5
set_option maxRecDepth 20000 in
theorem ggX1_certificates_Jx4a65c_get_915e3 : GoodIn wsX1_certificates wsJx4a65c_get_915e3 := goodIn_r _ [12, 8, 13, 14, 15, 16, 17, 18, 19, 20, 21, 22, 23, 6, 24, 25, 35, 36, 37] (by decide +kernel) (by decide +kernel)
set_option maxRecDepth 20000 in
theorem gX1_certificates_Jx4a65c_get_915e3 : GoodIn wsX1_certificates (wsV RX1 125 RJx4a65c yJx4a65c_get_915e3 wsJx4a65c_get_915e3) := goodIn_app (goodIn_of _ (by decide +kernel)) ggX1_certificates_Jx4a65c_get_915e3
set_option maxRecDepth 20000 in
theorem ggX1_certificates_X0_hasCertificate : GoodIn wsX1_certificates wsX0_hasCertificate := goodIn_r _ [29, 30, 38, 39, 40, 41, 42, 43, 44, 45, 46] (by decide +kernel) (by decide +kernel)
set_option maxRecDepth 20000 in
theorem gX1_certificates_X0_hasCertificate_n129 : GoodIn wsX1_certificates (wsX0_hasCertificate) := ggX1_certificates_X0_hasCertificate
theorem dX1_certificates_0 : decode cX1_certificates 0 = .ok (.iconst 0, 1) := by decide +kernel
theorem dX1_certificates_1 : decode cX1_certificates 1 = .ok (.istore_n 1, 1) := by decide +kernel
theorem dX1_certificates_2 : decode cX1_certificates 2 = .ok (.iconst 0, 1) := by decide +kernel
theorem dX1_certificates_3 : decode cX1_certificates 3 = .ok (.istore_n 2, 1) := by decide +kernel
theorem dX1_certificates_4 : decode cX1_certificates 4 = .ok (.iload_n 2, 1) := by decide +kernel
theorem dX1_certificates_5 : decode cX1_certificates 5 = .ok (.aload_n 0, 1) := by decide +kernel
theorem dX1_certificates_6 : decode cX1_certificates 6 = .ok (.getfield 10, 3) := by decide +kernel
theorem dX1_certificates_9 : decode cX1_certificates 9 = .ok (.invokevirtual 35, 3) := by decide +kernel
theorem dX1_certificates_12 : decode cX1_certificates 12 = .ok (.if_icmp .ge 29, 3) := by decide +kernel
theorem dX1_certificates_15 : decode cX1_certificates 15 = .ok (.aload_n 0, 1) := by decide +kernel
theorem dX1_certificates_16 : decode cX1_certificates 16 = .ok (.getfield 10, 3) := by decide +kernel
theorem dX1_certificates_19 : decode cX1_certificates 19 = .ok (.iload_n 2, 1) := by decide +kernel
theorem dX1_certificates_20 : decode cX1_certificates 20 = .ok (.invokevirtual 125, 3) := by decide +kernel
theorem dX1_certificates_23 : decode cX1_certificates 23 = .ok (.checkcast 44, 3) := by decide +kernel
theorem dX1_certificates_26 : decode cX1_certificates 26 = .ok (.invokevirtual 129, 3) := by decide +kernel
theorem dX1_certificates_29 : decode cX1_certificates 29 = .ok (.ifCond .eq 6, 3) := by decide +kernel
theorem dX1_certificates_32 : decode cX1_certificates 32 = .ok (.iinc 1 1, 3) := by decide +kernel
theorem dX1_certificates_35 : decode cX1_certificates 35 = .ok (.iinc 2 1, 3) := by decide +kernel
theorem dX1_certificates_38 : decode cX1_certificates 38 = .ok (.goto (-34), 3) := by decide +kernel
theorem dX1_certificates_41 : decode cX1_certificates 41 = .ok (.iload_n 1, 1) := by decide +kernel
theorem dX1_certificates_42 : decode cX1_certificates 42 = .ok (.ireturn, 1) := by decide +kernel
set_option maxRecDepth 20000 in
theorem ggX1_honestOnes_Jx4a65c_size_8abf5 : GoodIn wsX1_honestOnes wsJx4a65c_size_8abf5 := goodIn_r _ [7, 8, 53, 54, 55] (by decide +kernel) (by decide +kernel)
set_option maxRecDepth 20000 in
theorem gX1_honestOnes_Jx4a65c_size_8abf5 : GoodIn wsX1_honestOnes (wsV RX1 35 RJx4a65c yJx4a65c_size_8abf5 wsJx4a65c_size_8abf5) := goodIn_app (goodIn_of _ (by decide +kernel)) ggX1_honestOnes_Jx4a65c_size_8abf5
set_option maxRecDepth 20000 in
theorem ggX1_honestOnes_Jx4a65c_get_915e3 : GoodIn wsX1_honestOnes wsJx4a65c_get_915e3 := goodIn_r _ [12, 8, 13, 14, 15, 16, 17, 18, 19, 20, 21, 22, 23, 6, 24, 25, 53, 54, 55] (by decide +kernel) (by decide +kernel)
set_option maxRecDepth 20000 in
theorem gX1_honestOnes_Jx4a65c_get_915e3 : GoodIn wsX1_honestOnes (wsV RX1 125 RJx4a65c yJx4a65c_get_915e3 wsJx4a65c_get_915e3) := goodIn_app (goodIn_of _ (by decide +kernel)) ggX1_honestOnes_Jx4a65c_get_915e3
set_option maxRecDepth 20000 in
theorem ggX1_honestOnes_X0_hasHonestCertificate : GoodIn wsX1_honestOnes wsX0_hasHonestCertificate := goodIn_r _ [29, 30, 31, 32, 33, 34, 27, 35, 36, 37, 38, 39, 40, 41, 42, 43, 44, 45, 46, 47, 48, 56, 57, 58, 59, 60, 61, 62, 63, 64] (by decide +kernel) (by decide +kernel)
set_option maxRecDepth 20000 in
theorem gX1_honestOnes_X0_hasHonestCertificate_n132 : GoodIn wsX1_honestOnes (wsX0_hasHonestCertificate) := ggX1_honestOnes_X0_hasHonestCertificate
theorem dX1_honestOnes_0 : decode cX1_honestOnes 0 = .ok (.iconst 0, 1) := by decide +kernel
theorem dX1_honestOnes_1 : decode cX1_honestOnes 1 = .ok (.istore_n 1, 1) := by decide +kernel
theorem dX1_honestOnes_2 : decode cX1_honestOnes 2 = .ok (.iconst 0, 1) := by decide +kernel
theorem dX1_honestOnes_3 : decode cX1_honestOnes 3 = .ok (.istore_n 2, 1) := by decide +kernel
theorem dX1_honestOnes_4 : decode cX1_honestOnes 4 = .ok (.iload_n 2, 1) := by decide +kernel
theorem dX1_honestOnes_5 : decode cX1_honestOnes 5 = .ok (.aload_n 0, 1) := by decide +kernel
theorem dX1_honestOnes_6 : decode cX1_honestOnes 6 = .ok (.getfield 10, 3) := by decide +kernel
theorem dX1_honestOnes_9 : decode cX1_honestOnes 9 = .ok (.invokevirtual 35, 3) := by decide +kernel
theorem dX1_honestOnes_12 : decode cX1_honestOnes 12 = .ok (.if_icmp .ge 29, 3) := by decide +kernel
theorem dX1_honestOnes_15 : decode cX1_honestOnes 15 = .ok (.aload_n 0, 1) := by decide +kernel
theorem dX1_honestOnes_16 : decode cX1_honestOnes 16 = .ok (.getfield 10, 3) := by decide +kernel
theorem dX1_honestOnes_19 : decode cX1_honestOnes 19 = .ok (.iload_n 2, 1) := by decide +kernel
theorem dX1_honestOnes_20 : decode cX1_honestOnes 20 = .ok (.invokevirtual 125, 3) := by decide +kernel
theorem dX1_honestOnes_23 : decode cX1_honestOnes 23 = .ok (.checkcast 44, 3) := by decide +kernel
theorem dX1_honestOnes_26 : decode cX1_honestOnes 26 = .ok (.invokevirtual 132, 3) := by decide +kernel
theorem dX1_honestOnes_29 : decode cX1_honestOnes 29 = .ok (.ifCond .eq 6, 3) := by decide +kernel
theorem dX1_honestOnes_32 : decode cX1_honestOnes 32 = .ok (.iinc 1 1, 3) := by decide +kernel
theorem dX1_honestOnes_35 : decode cX1_honestOnes 35 = .ok (.iinc 2 1, 3) := by decide +kernel
theorem dX1_honestOnes_38 : decode cX1_honestOnes 38 = .ok (.goto (-34), 3) := by decide +kernel
theorem dX1_honestOnes_41 : decode cX1_honestOnes 41 = .ok (.iload_n 1, 1) := by decide +kernel
theorem dX1_honestOnes_42 : decode cX1_honestOnes 42 = .ok (.ireturn, 1) := by decide +kernel
set_option maxRecDepth 20000 in
theorem ggX1_lampOf_X1_memberNumbered : GoodIn wsX1_lampOf wsX1_memberNumbered := goodIn_ca (goodIn_r _ [5, 6, 7, 8, 9, 10, 11, 12, 13, 14, 15, 16, 17, 18, 19, 20, 21, 22, 23, 24, 25, 26, 27, 28, 29, 30, 31, 32, 42, 43, 44, 45, 46, 47, 48] (by decide +kernel) (by decide +kernel)) (goodIn_sub (fun _ h => List.mem_cons_of_mem _ (List.mem_append_right _ h)) (by decide +kernel))
set_option maxRecDepth 20000 in
theorem gX1_lampOf_X1_memberNumbered : GoodIn wsX1_lampOf (wsV RX1 59 RX1 yX1_memberNumbered wsX1_memberNumbered) := goodIn_app (goodIn_of _ (by decide +kernel)) ggX1_lampOf_X1_memberNumbered
theorem dX1_lampOf_0 : decode cX1_lampOf 0 = .ok (.aload_n 0, 1) := by decide +kernel
theorem dX1_lampOf_1 : decode cX1_lampOf 1 = .ok (.iload_n 1, 1) := by decide +kernel
theorem dX1_lampOf_2 : decode cX1_lampOf 2 = .ok (.invokevirtual 59, 3) := by decide +kernel
theorem dX1_lampOf_5 : decode cX1_lampOf 5 = .ok (.getfield 65, 3) := by decide +kernel
theorem dX1_lampOf_8 : decode cX1_lampOf 8 = .ok (.ireturn, 1) := by decide +kernel
set_option maxRecDepth 20000 in
theorem ggX1_purseOf_X1_memberNumbered : GoodIn wsX1_purseOf wsX1_memberNumbered := goodIn_ca (goodIn_r _ [5, 6, 7, 8, 9, 10, 11, 12, 13, 14, 15, 16, 17, 18, 19, 20, 21, 22, 23, 24, 25, 26, 27, 28, 29, 30, 31, 32, 42, 43, 44, 45, 46, 47, 48] (by decide +kernel) (by decide +kernel)) (goodIn_sub (fun _ h => List.mem_cons_of_mem _ (List.mem_append_right _ h)) (by decide +kernel))
set_option maxRecDepth 20000 in
theorem gX1_purseOf_X1_memberNumbered : GoodIn wsX1_purseOf (wsV RX1 59 RX1 yX1_memberNumbered wsX1_memberNumbered) := goodIn_app (goodIn_of _ (by decide +kernel)) ggX1_purseOf_X1_memberNumbered
theorem dX1_purseOf_0 : decode cX1_purseOf 0 = .ok (.aload_n 0, 1) := by decide +kernel
theorem dX1_purseOf_1 : decode cX1_purseOf 1 = .ok (.iload_n 1, 1) := by decide +kernel
theorem dX1_purseOf_2 : decode cX1_purseOf 2 = .ok (.invokevirtual 59, 3) := by decide +kernel
theorem dX1_purseOf_5 : decode cX1_purseOf 5 = .ok (.getfield 70, 3) := by decide +kernel
theorem dX1_purseOf_8 : decode cX1_purseOf 8 = .ok (.ireturn, 1) := by decide +kernel
set_option maxRecDepth 20000 in
theorem ggX1_wears_X1_memberNumbered : GoodIn wsX1_wears wsX1_memberNumbered := goodIn_ca (goodIn_r _ [5, 6, 7, 8, 9, 10, 11, 12, 13, 14, 15, 16, 17, 18, 19, 20, 21, 22, 23, 24, 25, 26, 27, 28, 29, 30, 31, 32, 39, 40, 41, 42, 43, 44, 45] (by decide +kernel) (by decide +kernel)) (goodIn_sub (fun _ h => List.mem_cons_of_mem _ (List.mem_append_right _ h)) (by decide +kernel))
set_option maxRecDepth 20000 in
theorem gX1_wears_X1_memberNumbered : GoodIn wsX1_wears (wsV RX1 59 RX1 yX1_memberNumbered wsX1_memberNumbered) := goodIn_app (goodIn_of _ (by decide +kernel)) ggX1_wears_X1_memberNumbered
set_option maxRecDepth 20000 in
theorem ggX1_wears_X0_numberOfHatOwner : GoodIn wsX1_wears wsX0_numberOfHatOwner := goodIn_r _ [36, 37, 38, 46, 47, 48, 49, 50, 51, 52, 53, 54] (by decide +kernel) (by decide +kernel)
set_option maxRecDepth 20000 in
theorem gX1_wears_X0_numberOfHatOwner_n135 : GoodIn wsX1_wears (wsX0_numberOfHatOwner) := ggX1_wears_X0_numberOfHatOwner
theorem dX1_wears_0 : decode cX1_wears 0 = .ok (.aload_n 0, 1) := by decide +kernel
theorem dX1_wears_1 : decode cX1_wears 1 = .ok (.iload_n 1, 1) := by decide +kernel
theorem dX1_wears_2 : decode cX1_wears 2 = .ok (.invokevirtual 59, 3) := by decide +kernel
theorem dX1_wears_5 : decode cX1_wears 5 = .ok (.invokevirtual 135, 3) := by decide +kernel
theorem dX1_wears_8 : decode cX1_wears 8 = .ok (.ireturn, 1) := by decide +kernel
set_option maxRecDepth 20000 in
theorem ggX1_hatOn_X1_memberNumbered : GoodIn wsX1_hatOn wsX1_memberNumbered := goodIn_ca (goodIn_r _ [5, 6, 7, 8, 9, 10, 11, 12, 13, 14, 15, 16, 17, 18, 19, 20, 21, 22, 23, 24, 25, 26, 27, 28, 29, 30, 31, 32, 39, 40, 41, 42, 43, 44, 45] (by decide +kernel) (by decide +kernel)) (goodIn_sub (fun _ h => List.mem_cons_of_mem _ (List.mem_append_right _ h)) (by decide +kernel))
set_option maxRecDepth 20000 in
theorem gX1_hatOn_X1_memberNumbered : GoodIn wsX1_hatOn (wsV RX1 59 RX1 yX1_memberNumbered wsX1_memberNumbered) := goodIn_app (goodIn_of _ (by decide +kernel)) ggX1_hatOn_X1_memberNumbered
set_option maxRecDepth 20000 in
theorem ggX1_hatOn_X0_heightOfWornHat : GoodIn wsX1_hatOn wsX0_heightOfWornHat := goodIn_r _ [36, 37, 38, 46, 47, 48, 49, 50, 51, 52, 53, 54] (by decide +kernel) (by decide +kernel)
set_option maxRecDepth 20000 in
theorem gX1_hatOn_X0_heightOfWornHat_n138 : GoodIn wsX1_hatOn (wsX0_heightOfWornHat) := ggX1_hatOn_X0_heightOfWornHat
theorem dX1_hatOn_0 : decode cX1_hatOn 0 = .ok (.aload_n 0, 1) := by decide +kernel
theorem dX1_hatOn_1 : decode cX1_hatOn 1 = .ok (.iload_n 1, 1) := by decide +kernel
theorem dX1_hatOn_2 : decode cX1_hatOn 2 = .ok (.invokevirtual 59, 3) := by decide +kernel
theorem dX1_hatOn_5 : decode cX1_hatOn 5 = .ok (.invokevirtual 138, 3) := by decide +kernel
theorem dX1_hatOn_8 : decode cX1_hatOn 8 = .ok (.ireturn, 1) := by decide +kernel
set_option maxRecDepth 20000 in
theorem ggX1_hasLent_X1_memberNumbered : GoodIn wsX1_hasLent wsX1_memberNumbered := goodIn_ca (goodIn_r _ [5, 6, 7, 8, 9, 10, 11, 12, 13, 14, 15, 16, 17, 18, 19, 20, 21, 22, 23, 24, 25, 26, 27, 28, 29, 30, 31, 32, 37, 38, 39, 40, 41, 42, 43] (by decide +kernel) (by decide +kernel)) (goodIn_sub (fun _ h => List.mem_cons_of_mem _ (List.mem_append_right _ h)) (by decide +kernel))
set_option maxRecDepth 20000 in
theorem gX1_hasLent_X1_memberNumbered : GoodIn wsX1_hasLent (wsV RX1 59 RX1 yX1_memberNumbered wsX1_memberNumbered) := goodIn_app (goodIn_of _ (by decide +kernel)) ggX1_hasLent_X1_memberNumbered
set_option maxRecDepth 20000 in
theorem ggX1_hasLent_X1_isHatLent : GoodIn wsX1_hasLent wsX1_isHatLent := goodIn_r _ [36, 8, 9, 10, 11, 12, 13, 14, 15, 16, 17, 18, 19, 20, 21, 22, 23, 24, 25, 26, 27, 28, 29, 30, 31, 32, 37, 38, 39, 40, 44, 45, 46, 47, 48, 49, 50, 51, 52, 41, 42, 43] (by decide +kernel) (by decide +kernel)
set_option maxRecDepth 20000 in
theorem gX1_hasLent_X1_isHatLent : GoodIn wsX1_hasLent (wsV RX1 98 RX1 yX1_isHatLent wsX1_isHatLent) := goodIn_app (goodIn_of _ (by decide +kernel)) ggX1_hasLent_X1_isHatLent
theorem dX1_hasLent_0 : decode cX1_hasLent 0 = .ok (.aload_n 0, 1) := by decide +kernel
theorem dX1_hasLent_1 : decode cX1_hasLent 1 = .ok (.aload_n 0, 1) := by decide +kernel
theorem dX1_hasLent_2 : decode cX1_hasLent 2 = .ok (.iload_n 1, 1) := by decide +kernel
theorem dX1_hasLent_3 : decode cX1_hasLent 3 = .ok (.invokevirtual 59, 3) := by decide +kernel
theorem dX1_hasLent_6 : decode cX1_hasLent 6 = .ok (.invokevirtual 98, 3) := by decide +kernel
theorem dX1_hasLent_9 : decode cX1_hasLent 9 = .ok (.ireturn, 1) := by decide +kernel
set_option maxRecDepth 20000 in
theorem ggX1_isExpelled_X1_memberNumbered : GoodIn wsX1_isExpelled wsX1_memberNumbered := goodIn_ca (goodIn_r _ [5, 6, 7, 8, 9, 10, 11, 12, 13, 14, 15, 16, 17, 18, 19, 20, 21, 22, 23, 24, 25, 26, 27, 28, 29, 30, 31, 32, 38, 39, 40, 41, 42, 43, 44] (by decide +kernel) (by decide +kernel)) (goodIn_sub (fun _ h => List.mem_cons_of_mem _ (List.mem_append_right _ h)) (by decide +kernel))
set_option maxRecDepth 20000 in
theorem gX1_isExpelled_X1_memberNumbered : GoodIn wsX1_isExpelled (wsV RX1 59 RX1 yX1_memberNumbered wsX1_memberNumbered) := goodIn_app (goodIn_of _ (by decide +kernel)) ggX1_isExpelled_X1_memberNumbered
set_option maxRecDepth 20000 in
theorem ggX1_isExpelled_X0_isOut : GoodIn wsX1_isExpelled wsX0_isOut := goodIn_r _ [36, 37, 45, 46, 47, 48, 49, 50, 51, 52, 53] (by decide +kernel) (by decide +kernel)
set_option maxRecDepth 20000 in
theorem gX1_isExpelled_X0_isOut_n102 : GoodIn wsX1_isExpelled (wsX0_isOut) := ggX1_isExpelled_X0_isOut
theorem dX1_isExpelled_0 : decode cX1_isExpelled 0 = .ok (.aload_n 0, 1) := by decide +kernel
theorem dX1_isExpelled_1 : decode cX1_isExpelled 1 = .ok (.iload_n 1, 1) := by decide +kernel
theorem dX1_isExpelled_2 : decode cX1_isExpelled 2 = .ok (.invokevirtual 59, 3) := by decide +kernel
theorem dX1_isExpelled_5 : decode cX1_isExpelled 5 = .ok (.invokevirtual 102, 3) := by decide +kernel
theorem dX1_isExpelled_8 : decode cX1_isExpelled 8 = .ok (.ireturn, 1) := by decide +kernel
set_option maxRecDepth 20000 in
theorem ggX1_shadowOf_X1_memberNumbered : GoodIn wsX1_shadowOf wsX1_memberNumbered := goodIn_ca (goodIn_r _ [5, 6, 7, 8, 9, 10, 11, 12, 13, 14, 15, 16, 17, 18, 19, 20, 21, 22, 23, 24, 25, 26, 27, 28, 29, 30, 31, 32, 56, 57, 58, 59, 60, 61, 62] (by decide +kernel) (by decide +kernel)) (goodIn_sub (fun _ h => List.mem_cons_of_mem _ (List.mem_append_right _ h)) (by decide +kernel))
set_option maxRecDepth 20000 in
theorem gX1_shadowOf_X1_memberNumbered : GoodIn wsX1_shadowOf (wsV RX1 59 RX1 yX1_memberNumbered wsX1_memberNumbered) := goodIn_app (goodIn_of _ (by decide +kernel)) ggX1_shadowOf_X1_memberNumbered
set_option maxRecDepth 20000 in
theorem ggX1_shadowOf_X1_hourOfDay : GoodIn wsX1_shadowOf wsX1_hourOfDay := goodIn_r _ [36, 37, 56, 57, 58, 59] (by decide +kernel) (by decide +kernel)
set_option maxRecDepth 20000 in
theorem gX1_shadowOf_X1_hourOfDay : GoodIn wsX1_shadowOf (wsV RX1 107 RX1 yX1_hourOfDay wsX1_hourOfDay) := goodIn_app (goodIn_of _ (by decide +kernel)) ggX1_shadowOf_X1_hourOfDay
set_option maxRecDepth 20000 in
theorem ggX1_shadowOf_X0_shadowAt : GoodIn wsX1_shadowOf wsX0_shadowAt := goodIn_r _ [41, 42, 43, 44, 45, 46, 39, 47, 48, 49, 50, 4, 51, 52, 53, 54, 55, 63, 64, 65, 66, 67, 68, 69, 70, 71] (by decide +kernel) (by decide +kernel)
set_option maxRecDepth 20000 in
theorem gX1_shadowOf_X0_shadowAt_n113 : GoodIn wsX1_shadowOf (wsX0_shadowAt) := ggX1_shadowOf_X0_shadowAt
theorem dX1_shadowOf_0 : decode cX1_shadowOf 0 = .ok (.aload_n 0, 1) := by decide +kernel
theorem dX1_shadowOf_1 : decode cX1_shadowOf 1 = .ok (.iload_n 1, 1) := by decide +kernel
theorem dX1_shadowOf_2 : decode cX1_shadowOf 2 = .ok (.invokevirtual 59, 3) := by decide +kernel
theorem dX1_shadowOf_5 : decode cX1_shadowOf 5 = .ok (.aload_n 0, 1) := by decide +kernel
theorem dX1_shadowOf_6 : decode cX1_shadowOf 6 = .ok (.invokevirtual 107, 3) := by decide +kernel
theorem dX1_shadowOf_9 : decode cX1_shadowOf 9 = .ok (.invokevirtual 113, 3) := by decide +kernel
theorem dX1_shadowOf_12 : decode cX1_shadowOf 12 = .ok (.ireturn, 1) := by decide +kernel
set_option maxRecDepth 20000 in
theorem ggX1_honestShadow_X1_memberNumbered : GoodIn wsX1_honestShadow wsX1_memberNumbered := goodIn_ca (goodIn_r _ [7, 1, 2, 8, 9, 10, 11, 12, 13, 14, 15, 16, 17, 18, 19, 20, 21, 22, 23, 24, 25, 26, 27, 28, 29, 30, 31, 32, 45, 46, 47, 48, 49, 50, 51] (by decide +kernel) (by decide +kernel)) (goodIn_sub (fun _ h => List.mem_cons_of_mem _ (List.mem_append_right _ h)) (by decide +kernel))
set_option maxRecDepth 20000 in
theorem gX1_honestShadow_X1_memberNumbered : GoodIn wsX1_honestShadow (wsV RX1 59 RX1 yX1_memberNumbered wsX1_memberNumbered) := goodIn_app (goodIn_of _ (by decide +kernel)) ggX1_honestShadow_X1_memberNumbered
set_option maxRecDepth 20000 in
theorem ggX1_honestShadow_X0_honestShadowAt : GoodIn wsX1_honestShadow wsX0_honestShadowAt := goodIn_r _ [36, 37, 38, 39, 6, 40, 41, 42, 43, 44, 52, 53, 54, 55, 56, 57, 58, 59, 60] (by decide +kernel) (by decide +kernel)
set_option maxRecDepth 20000 in
theorem gX1_honestShadow_X0_honestShadowAt_n146 : GoodIn wsX1_honestShadow (wsX0_honestShadowAt) := ggX1_honestShadow_X0_honestShadowAt
theorem dX1_honestShadow_0 : decode cX1_honestShadow 0 = .ok (.aload_n 0, 1) := by decide +kernel
theorem dX1_honestShadow_1 : decode cX1_honestShadow 1 = .ok (.iload_n 1, 1) := by decide +kernel
theorem dX1_honestShadow_2 : decode cX1_honestShadow 2 = .ok (.invokevirtual 59, 3) := by decide +kernel
theorem dX1_honestShadow_5 : decode cX1_honestShadow 5 = .ok (.astore_n 3, 1) := by decide +kernel
theorem dX1_honestShadow_6 : decode cX1_honestShadow 6 = .ok (.iload_n 2, 1) := by decide +kernel
theorem dX1_honestShadow_7 : decode cX1_honestShadow 7 = .ok (.ifCond .lt 9, 3) := by decide +kernel
theorem dX1_honestShadow_10 : decode cX1_honestShadow 10 = .ok (.iload_n 2, 1) := by decide +kernel
theorem dX1_honestShadow_11 : decode cX1_honestShadow 11 = .ok (.bipush 24, 2) := by decide +kernel
theorem dX1_honestShadow_13 : decode cX1_honestShadow 13 = .ok (.if_icmp .lt 13, 3) := by decide +kernel
theorem dX1_honestShadow_16 : decode cX1_honestShadow 16 = .ok (.new 141, 3) := by decide +kernel
theorem dX1_honestShadow_19 : decode cX1_honestShadow 19 = .ok (.dup, 1) := by decide +kernel
theorem dX1_honestShadow_20 : decode cX1_honestShadow 20 = .ok (.ldc 143, 2) := by decide +kernel
theorem dX1_honestShadow_22 : decode cX1_honestShadow 22 = .ok (.invokespecial 145, 3) := by decide +kernel
theorem dX1_honestShadow_25 : decode cX1_honestShadow 25 = .ok (.athrow, 1) := by decide +kernel
theorem dX1_honestShadow_26 : decode cX1_honestShadow 26 = .ok (.aload_n 3, 1) := by decide +kernel
theorem dX1_honestShadow_27 : decode cX1_honestShadow 27 = .ok (.iload_n 2, 1) := by decide +kernel
theorem dX1_honestShadow_28 : decode cX1_honestShadow 28 = .ok (.invokevirtual 146, 3) := by decide +kernel
theorem dX1_honestShadow_31 : decode cX1_honestShadow 31 = .ok (.ireturn, 1) := by decide +kernel
set_option maxRecDepth 20000 in
theorem ggX1_certified_X1_memberNumbered : GoodIn wsX1_certified wsX1_memberNumbered := goodIn_ca (goodIn_r _ [5, 6, 7, 8, 9, 10, 11, 12, 13, 14, 15, 16, 17, 18, 19, 20, 21, 22, 23, 24, 25, 26, 27, 28, 29, 30, 31, 32, 42, 43, 44, 45, 46, 47, 48] (by decide +kernel) (by decide +kernel)) (goodIn_sub (fun _ h => List.mem_cons_of_mem _ (List.mem_append_right _ h)) (by decide +kernel))
set_option maxRecDepth 20000 in
theorem gX1_certified_X1_memberNumbered : GoodIn wsX1_certified (wsV RX1 59 RX1 yX1_memberNumbered wsX1_memberNumbered) := goodIn_app (goodIn_of _ (by decide +kernel)) ggX1_certified_X1_memberNumbered
theorem dX1_certified_0 : decode cX1_certified 0 = .ok (.aload_n 0, 1) := by decide +kernel
theorem dX1_certified_1 : decode cX1_certified 1 = .ok (.iload_n 1, 1) := by decide +kernel
theorem dX1_certified_2 : decode cX1_certified 2 = .ok (.invokevirtual 59, 3) := by decide +kernel
theorem dX1_certified_5 : decode cX1_certified 5 = .ok (.getfield 117, 3) := by decide +kernel
theorem dX1_certified_8 : decode cX1_certified 8 = .ok (.ireturn, 1) := by decide +kernel
set_option maxRecDepth 20000 in
theorem ggX1_isHonest_X1_memberNumbered : GoodIn wsX1_isHonest wsX1_memberNumbered := goodIn_ca (goodIn_r _ [7, 8, 9, 10, 11, 12, 13, 14, 15, 16, 17, 18, 19, 20, 21, 22, 23, 24, 25, 26, 27, 28, 29, 30, 31, 32, 33, 34, 57, 58, 59, 60, 61, 62, 63] (by decide +kernel) (by decide +kernel)) (goodIn_sub (fun _ h => List.mem_cons_of_mem _ (List.mem_append_right _ h)) (by decide +kernel))
set_option maxRecDepth 20000 in
theorem gX1_isHonest_X1_memberNumbered : GoodIn wsX1_isHonest (wsV RX1 59 RX1 yX1_memberNumbered wsX1_memberNumbered) := goodIn_app (goodIn_of _ (by decide +kernel)) ggX1_isHonest_X1_memberNumbered
set_option maxRecDepth 20000 in
theorem ggX1_isHonest_X0_hasCertificate : GoodIn wsX1_isHonest wsX0_hasCertificate := goodIn_r _ [38, 39, 64, 65, 66, 67, 68, 69, 70, 71, 72] (by decide +kernel) (by decide +kernel)
set_option maxRecDepth 20000 in
theorem gX1_isHonest_X0_hasCertificate_n129 : GoodIn wsX1_isHonest (wsX0_hasCertificate) := ggX1_isHonest_X0_hasCertificate
set_option maxRecDepth 20000 in
theorem ggX1_isHonest_X0_hasHonestCertificate : GoodIn wsX1_isHonest wsX0_hasHonestCertificate := goodIn_r _ [42, 39, 43, 44, 35, 37, 36, 38, 45, 46, 47, 48, 49, 50, 51, 6, 52, 53, 54, 55, 56, 64, 65, 66, 67, 68, 69, 70, 71, 72] (by decide +kernel) (by decide +kernel)
set_option maxRecDepth 20000 in
theorem gX1_isHonest_X0_hasHonestCertificate_n132 : GoodIn wsX1_isHonest (wsX0_hasHonestCertificate) := ggX1_isHonest_X0_hasHonestCertificate
theorem dX1_isHonest_0 : decode cX1_isHonest 0 = .ok (.aload_n 0, 1) := by decide +kernel
theorem dX1_isHonest_1 : decode cX1_isHonest 1 = .ok (.iload_n 1, 1) := by decide +kernel
theorem dX1_isHonest_2 : decode cX1_isHonest 2 = .ok (.invokevirtual 59, 3) := by decide +kernel
theorem dX1_isHonest_5 : decode cX1_isHonest 5 = .ok (.astore_n 2, 1) := by decide +kernel
theorem dX1_isHonest_6 : decode cX1_isHonest 6 = .ok (.aload_n 2, 1) := by decide +kernel
theorem dX1_isHonest_7 : decode cX1_isHonest 7 = .ok (.invokevirtual 129, 3) := by decide +kernel
theorem dX1_isHonest_10 : decode cX1_isHonest 10 = .ok (.ifCond .ne 13, 3) := by decide +kernel
theorem dX1_isHonest_13 : decode cX1_isHonest 13 = .ok (.new 39, 3) := by decide +kernel
theorem dX1_isHonest_16 : decode cX1_isHonest 16 = .ok (.dup, 1) := by decide +kernel
theorem dX1_isHonest_17 : decode cX1_isHonest 17 = .ok (.ldc 149, 2) := by decide +kernel
theorem dX1_isHonest_19 : decode cX1_isHonest 19 = .ok (.invokespecial 43, 3) := by decide +kernel
theorem dX1_isHonest_22 : decode cX1_isHonest 22 = .ok (.athrow, 1) := by decide +kernel
theorem dX1_isHonest_23 : decode cX1_isHonest 23 = .ok (.aload_n 2, 1) := by decide +kernel
theorem dX1_isHonest_24 : decode cX1_isHonest 24 = .ok (.invokevirtual 132, 3) := by decide +kernel
theorem dX1_isHonest_27 : decode cX1_isHonest 27 = .ok (.ireturn, 1) := by decide +kernel
set_option maxRecDepth 20000 in
theorem ggX1_longest_Jx4a65c_size_8abf5 : GoodIn wsX1_longest wsJx4a65c_size_8abf5 := goodIn_r _ [7, 8, 54, 55, 56] (by decide +kernel) (by decide +kernel)
set_option maxRecDepth 20000 in
theorem gX1_longest_Jx4a65c_size_8abf5 : GoodIn wsX1_longest (wsV RX1 35 RJx4a65c yJx4a65c_size_8abf5 wsJx4a65c_size_8abf5) := goodIn_app (goodIn_of _ (by decide +kernel)) ggX1_longest_Jx4a65c_size_8abf5
set_option maxRecDepth 20000 in
theorem ggX1_longest_Jx4a65c_get_915e3 : GoodIn wsX1_longest wsJx4a65c_get_915e3 := goodIn_r _ [12, 8, 13, 14, 15, 16, 17, 18, 19, 20, 21, 22, 23, 6, 24, 25, 54, 55, 56] (by decide +kernel) (by decide +kernel)
set_option maxRecDepth 20000 in
theorem gX1_longest_Jx4a65c_get_915e3 : GoodIn wsX1_longest (wsV RX1 125 RJx4a65c yJx4a65c_get_915e3 wsJx4a65c_get_915e3) := goodIn_app (goodIn_of _ (by decide +kernel)) ggX1_longest_Jx4a65c_get_915e3
set_option maxRecDepth 20000 in
theorem ggX1_longest_X1_hourOfDay : GoodIn wsX1_longest wsX1_hourOfDay := goodIn_r _ [30, 31, 50, 51, 52, 53] (by decide +kernel) (by decide +kernel)
set_option maxRecDepth 20000 in
theorem gX1_longest_X1_hourOfDay : GoodIn wsX1_longest (wsV RX1 107 RX1 yX1_hourOfDay wsX1_hourOfDay) := goodIn_app (goodIn_of _ (by decide +kernel)) ggX1_longest_X1_hourOfDay
set_option maxRecDepth 20000 in
theorem ggX1_longest_X0_shadowAt : GoodIn wsX1_longest wsX0_shadowAt := goodIn_r _ [35, 36, 37, 38, 39, 40, 33, 41, 42, 43, 44, 29, 45, 46, 47, 48, 49, 57, 58, 59, 60, 61, 62, 63, 64, 65] (by decide +kernel) (by decide +kernel)
set_option maxRecDepth 20000 in
theorem gX1_longest_X0_shadowAt_n113 : GoodIn wsX1_longest (wsX0_shadowAt) := ggX1_longest_X0_shadowAt
theorem dX1_longest_0 : decode cX1_longest 0 = .ok (.iconst (-1), 1) := by decide +kernel
theorem dX1_longest_1 : decode cX1_longest 1 = .ok (.istore_n 1, 1) := by decide +kernel
theorem dX1_longest_2 : decode cX1_longest 2 = .ok (.iconst 0, 1) := by decide +kernel
theorem dX1_longest_3 : decode cX1_longest 3 = .ok (.istore_n 2, 1) := by decide +kernel
theorem dX1_longest_4 : decode cX1_longest 4 = .ok (.iconst 0, 1) := by decide +kernel
theorem dX1_longest_5 : decode cX1_longest 5 = .ok (.istore_n 3, 1) := by decide +kernel
theorem dX1_longest_6 : decode cX1_longest 6 = .ok (.iload_n 3, 1) := by decide +kernel
theorem dX1_longest_7 : decode cX1_longest 7 = .ok (.aload_n 0, 1) := by decide +kernel
theorem dX1_longest_8 : decode cX1_longest 8 = .ok (.getfield 10, 3) := by decide +kernel
theorem dX1_longest_11 : decode cX1_longest 11 = .ok (.invokevirtual 35, 3) := by decide +kernel
theorem dX1_longest_14 : decode cX1_longest 14 = .ok (.if_icmp .ge 45, 3) := by decide +kernel
theorem dX1_longest_17 : decode cX1_longest 17 = .ok (.aload_n 0, 1) := by decide +kernel
theorem dX1_longest_18 : decode cX1_longest 18 = .ok (.getfield 10, 3) := by decide +kernel
theorem dX1_longest_21 : decode cX1_longest 21 = .ok (.iload_n 3, 1) := by decide +kernel
theorem dX1_longest_22 : decode cX1_longest 22 = .ok (.invokevirtual 125, 3) := by decide +kernel
theorem dX1_longest_25 : decode cX1_longest 25 = .ok (.checkcast 44, 3) := by decide +kernel
theorem dX1_longest_28 : decode cX1_longest 28 = .ok (.aload_n 0, 1) := by decide +kernel
theorem dX1_longest_29 : decode cX1_longest 29 = .ok (.invokevirtual 107, 3) := by decide +kernel
theorem dX1_longest_32 : decode cX1_longest 32 = .ok (.invokevirtual 113, 3) := by decide +kernel
theorem dX1_longest_35 : decode cX1_longest 35 = .ok (.istore 4, 2) := by decide +kernel
theorem dX1_longest_37 : decode cX1_longest 37 = .ok (.iload_n 1, 1) := by decide +kernel
theorem dX1_longest_38 : decode cX1_longest 38 = .ok (.iconst (-1), 1) := by decide +kernel
theorem dX1_longest_39 : decode cX1_longest 39 = .ok (.if_icmp .eq 9, 3) := by decide +kernel
theorem dX1_longest_42 : decode cX1_longest 42 = .ok (.iload 4, 2) := by decide +kernel
theorem dX1_longest_44 : decode cX1_longest 44 = .ok (.iload_n 2, 1) := by decide +kernel
theorem dX1_longest_45 : decode cX1_longest 45 = .ok (.if_icmp .le 8, 3) := by decide +kernel
theorem dX1_longest_48 : decode cX1_longest 48 = .ok (.iload_n 3, 1) := by decide +kernel
theorem dX1_longest_49 : decode cX1_longest 49 = .ok (.istore_n 1, 1) := by decide +kernel
theorem dX1_longest_50 : decode cX1_longest 50 = .ok (.iload 4, 2) := by decide +kernel
theorem dX1_longest_52 : decode cX1_longest 52 = .ok (.istore_n 2, 1) := by decide +kernel
theorem dX1_longest_53 : decode cX1_longest 53 = .ok (.iinc 3 1, 3) := by decide +kernel
theorem dX1_longest_56 : decode cX1_longest 56 = .ok (.goto (-50), 3) := by decide +kernel
theorem dX1_longest_59 : decode cX1_longest 59 = .ok (.iload_n 1, 1) := by decide +kernel
theorem dX1_longest_60 : decode cX1_longest 60 = .ok (.ireturn, 1) := by decide +kernel
set_option maxRecDepth 20000 in
theorem ggX1_hoursUntilAudit_X1_hourOfDay : GoodIn wsX1_hoursUntilAudit wsX1_hourOfDay := goodIn_r _ [5, 6, 7, 8, 9, 10] (by decide +kernel) (by decide +kernel)
set_option maxRecDepth 20000 in
theorem gX1_hoursUntilAudit_X1_hourOfDay : GoodIn wsX1_hoursUntilAudit (wsV RX1 107 RX1 yX1_hourOfDay wsX1_hourOfDay) := goodIn_app (goodIn_of _ (by decide +kernel)) ggX1_hoursUntilAudit_X1_hourOfDay
theorem dX1_hoursUntilAudit_0 : decode cX1_hoursUntilAudit 0 = .ok (.aload_n 0, 1) := by decide +kernel
theorem dX1_hoursUntilAudit_1 : decode cX1_hoursUntilAudit 1 = .ok (.invokevirtual 107, 3) := by decide +kernel
theorem dX1_hoursUntilAudit_4 : decode cX1_hoursUntilAudit 4 = .ok (.istore_n 1, 1) := by decide +kernel
theorem dX1_hoursUntilAudit_5 : decode cX1_hoursUntilAudit 5 = .ok (.iload_n 1, 1) := by decide +kernel
theorem dX1_hoursUntilAudit_6 : decode cX1_hoursUntilAudit 6 = .ok (.bipush 12, 2) := by decide +kernel
theorem dX1_hoursUntilAudit_8 : decode cX1_hoursUntilAudit 8 = .ok (.if_icmp .ge 10, 3) := by decide +kernel
theorem dX1_hoursUntilAudit_11 : decode cX1_hoursUntilAudit 11 = .ok (.bipush 12, 2) := by decide +kernel
theorem dX1_hoursUntilAudit_13 : decode cX1_hoursUntilAudit 13 = .ok (.iload_n 1, 1) := by decide +kernel
theorem dX1_hoursUntilAudit_14 : decode cX1_hoursUntilAudit 14 = .ok (.isub, 1) := by decide +kernel
theorem dX1_hoursUntilAudit_15 : decode cX1_hoursUntilAudit 15 = .ok (.goto 7, 3) := by decide +kernel
theorem dX1_hoursUntilAudit_18 : decode cX1_hoursUntilAudit 18 = .ok (.bipush 36, 2) := by decide +kernel
theorem dX1_hoursUntilAudit_20 : decode cX1_hoursUntilAudit 20 = .ok (.iload_n 1, 1) := by decide +kernel
theorem dX1_hoursUntilAudit_21 : decode cX1_hoursUntilAudit 21 = .ok (.isub, 1) := by decide +kernel
theorem dX1_hoursUntilAudit_22 : decode cX1_hoursUntilAudit 22 = .ok (.ireturn, 1) := by decide +kernel
set_option maxRecDepth 20000 in
theorem ggX1_auditBrings_X1_memberNumbered : GoodIn wsX1_auditBrings wsX1_memberNumbered := goodIn_ca (goodIn_r _ [5, 6, 7, 8, 9, 10, 11, 12, 13, 14, 15, 16, 17, 18, 19, 20, 21, 22, 23, 24, 25, 26, 27, 28, 29, 30, 31, 32, 68, 69, 70, 71, 72, 73, 74] (by decide +kernel) (by decide +kernel)) (goodIn_sub (fun _ h => List.mem_cons_of_mem _ (List.mem_append_right _ h)) (by decide +kernel))
set_option maxRecDepth 20000 in
theorem gX1_auditBrings_X1_memberNumbered : GoodIn wsX1_auditBrings (wsV RX1 59 RX1 yX1_memberNumbered wsX1_memberNumbered) := goodIn_app (goodIn_of _ (by decide +kernel)) ggX1_auditBrings_X1_memberNumbered
set_option maxRecDepth 20000 in
theorem ggX1_auditBrings_X0_gainAtAudit : GoodIn wsX1_auditBrings wsX0_gainAtAudit := goodIn_r _ [36, 37, 38, 39, 34, 40, 41, 42, 43, 44, 45, 46, 47, 48, 49, 50, 51, 52, 53, 54, 55, 56, 57, 4, 58, 59, 60, 61, 62, 63, 64, 65, 66, 67, 75, 76, 77, 78, 79, 80, 81, 82, 83] (by decide +kernel) (by decide +kernel)
set_option maxRecDepth 20000 in
theorem gX1_auditBrings_X0_gainAtAudit_n151 : GoodIn wsX1_auditBrings (wsX0_gainAtAudit) := ggX1_auditBrings_X0_gainAtAudit
theorem dX1_auditBrings_0 : decode cX1_auditBrings 0 = .ok (.aload_n 0, 1) := by decide +kernel
theorem dX1_auditBrings_1 : decode cX1_auditBrings 1 = .ok (.iload_n 1, 1) := by decide +kernel
theorem dX1_auditBrings_2 : decode cX1_auditBrings 2 = .ok (.invokevirtual 59, 3) := by decide +kernel
theorem dX1_auditBrings_5 : decode cX1_auditBrings 5 = .ok (.invokevirtual 151, 3) := by decide +kernel
theorem dX1_auditBrings_8 : decode cX1_auditBrings 8 = .ok (.ireturn, 1) := by decide +kernel
set_option maxRecDepth 20000 in
theorem ggX1_richestThen_Jx4a65c_size_8abf5 : GoodIn wsX1_richestThen wsJx4a65c_size_8abf5 := goodIn_r _ [7, 8, 75, 76, 77] (by decide +kernel) (by decide +kernel)
set_option maxRecDepth 20000 in
theorem gX1_richestThen_Jx4a65c_size_8abf5 : GoodIn wsX1_richestThen (wsV RX1 35 RJx4a65c yJx4a65c_size_8abf5 wsJx4a65c_size_8abf5) := goodIn_app (goodIn_of _ (by decide +kernel)) ggX1_richestThen_Jx4a65c_size_8abf5
set_option maxRecDepth 20000 in
theorem ggX1_richestThen_Jx4a65c_get_915e3 : GoodIn wsX1_richestThen wsJx4a65c_get_915e3 := goodIn_r _ [12, 8, 13, 14, 15, 16, 17, 18, 19, 20, 21, 22, 23, 6, 24, 25, 75, 76, 77] (by decide +kernel) (by decide +kernel)
set_option maxRecDepth 20000 in
theorem gX1_richestThen_Jx4a65c_get_915e3 : GoodIn wsX1_richestThen (wsV RX1 125 RJx4a65c yJx4a65c_get_915e3 wsJx4a65c_get_915e3) := goodIn_app (goodIn_of _ (by decide +kernel)) ggX1_richestThen_Jx4a65c_get_915e3
set_option maxRecDepth 20000 in
theorem ggX1_richestThen_X0_gainAtAudit : GoodIn wsX1_richestThen wsX0_gainAtAudit := goodIn_r _ [29, 30, 31, 32, 27, 33, 34, 35, 36, 37, 38, 39, 40, 41, 42, 43, 44, 45, 46, 47, 48, 49, 50, 51, 52, 53, 54, 55, 56, 57, 58, 59, 60, 61, 66, 67, 68, 69, 70, 71, 72, 73, 74] (by decide +kernel) (by decide +kernel)
set_option maxRecDepth 20000 in
theorem gX1_richestThen_X0_gainAtAudit_n151 : GoodIn wsX1_richestThen (wsX0_gainAtAudit) := ggX1_richestThen_X0_gainAtAudit
theorem dX1_richestThen_0 : decode cX1_richestThen 0 = .ok (.iconst (-1), 1) := by decide +kernel
theorem dX1_richestThen_1 : decode cX1_richestThen 1 = .ok (.istore_n 1, 1) := by decide +kernel
theorem dX1_richestThen_2 : decode cX1_richestThen 2 = .ok (.iconst 0, 1) := by decide +kernel
theorem dX1_richestThen_3 : decode cX1_richestThen 3 = .ok (.istore_n 2, 1) := by decide +kernel
theorem dX1_richestThen_4 : decode cX1_richestThen 4 = .ok (.iconst 0, 1) := by decide +kernel
theorem dX1_richestThen_5 : decode cX1_richestThen 5 = .ok (.istore_n 3, 1) := by decide +kernel
theorem dX1_richestThen_6 : decode cX1_richestThen 6 = .ok (.iload_n 3, 1) := by decide +kernel
theorem dX1_richestThen_7 : decode cX1_richestThen 7 = .ok (.aload_n 0, 1) := by decide +kernel
theorem dX1_richestThen_8 : decode cX1_richestThen 8 = .ok (.getfield 10, 3) := by decide +kernel
theorem dX1_richestThen_11 : decode cX1_richestThen 11 = .ok (.invokevirtual 35, 3) := by decide +kernel
theorem dX1_richestThen_14 : decode cX1_richestThen 14 = .ok (.if_icmp .ge 51, 3) := by decide +kernel
theorem dX1_richestThen_17 : decode cX1_richestThen 17 = .ok (.aload_n 0, 1) := by decide +kernel
theorem dX1_richestThen_18 : decode cX1_richestThen 18 = .ok (.getfield 10, 3) := by decide +kernel
theorem dX1_richestThen_21 : decode cX1_richestThen 21 = .ok (.iload_n 3, 1) := by decide +kernel
theorem dX1_richestThen_22 : decode cX1_richestThen 22 = .ok (.invokevirtual 125, 3) := by decide +kernel
theorem dX1_richestThen_25 : decode cX1_richestThen 25 = .ok (.checkcast 44, 3) := by decide +kernel
theorem dX1_richestThen_28 : decode cX1_richestThen 28 = .ok (.astore 4, 2) := by decide +kernel
theorem dX1_richestThen_30 : decode cX1_richestThen 30 = .ok (.aload 4, 2) := by decide +kernel
theorem dX1_richestThen_32 : decode cX1_richestThen 32 = .ok (.getfield 70, 3) := by decide +kernel
theorem dX1_richestThen_35 : decode cX1_richestThen 35 = .ok (.aload 4, 2) := by decide +kernel
theorem dX1_richestThen_37 : decode cX1_richestThen 37 = .ok (.invokevirtual 151, 3) := by decide +kernel
theorem dX1_richestThen_40 : decode cX1_richestThen 40 = .ok (.iadd, 1) := by decide +kernel
theorem dX1_richestThen_41 : decode cX1_richestThen 41 = .ok (.istore 5, 2) := by decide +kernel
theorem dX1_richestThen_43 : decode cX1_richestThen 43 = .ok (.iload_n 1, 1) := by decide +kernel
theorem dX1_richestThen_44 : decode cX1_richestThen 44 = .ok (.iconst (-1), 1) := by decide +kernel
theorem dX1_richestThen_45 : decode cX1_richestThen 45 = .ok (.if_icmp .eq 9, 3) := by decide +kernel
theorem dX1_richestThen_48 : decode cX1_richestThen 48 = .ok (.iload 5, 2) := by decide +kernel
theorem dX1_richestThen_50 : decode cX1_richestThen 50 = .ok (.iload_n 2, 1) := by decide +kernel
theorem dX1_richestThen_51 : decode cX1_richestThen 51 = .ok (.if_icmp .le 8, 3) := by decide +kernel
theorem dX1_richestThen_54 : decode cX1_richestThen 54 = .ok (.iload_n 3, 1) := by decide +kernel
theorem dX1_richestThen_55 : decode cX1_richestThen 55 = .ok (.istore_n 1, 1) := by decide +kernel
theorem dX1_richestThen_56 : decode cX1_richestThen 56 = .ok (.iload 5, 2) := by decide +kernel
theorem dX1_richestThen_58 : decode cX1_richestThen 58 = .ok (.istore_n 2, 1) := by decide +kernel
theorem dX1_richestThen_59 : decode cX1_richestThen 59 = .ok (.iinc 3 1, 3) := by decide +kernel
theorem dX1_richestThen_62 : decode cX1_richestThen 62 = .ok (.goto (-56), 3) := by decide +kernel
theorem dX1_richestThen_65 : decode cX1_richestThen 65 = .ok (.iload_n 1, 1) := by decide +kernel
theorem dX1_richestThen_66 : decode cX1_richestThen 66 = .ok (.ireturn, 1) := by decide +kernel
set_option maxRecDepth 20000 in
theorem ggX1_bestHat_X1_memberNumbered : GoodIn wsX1_bestHat wsX1_memberNumbered := goodIn_ca (goodIn_r _ [5, 6, 7, 8, 9, 10, 11, 12, 13, 14, 15, 16, 17, 18, 19, 20, 21, 22, 23, 24, 25, 26, 27, 28, 29, 30, 31, 32, 60, 61, 62, 63, 64, 65, 66] (by decide +kernel) (by decide +kernel)) (goodIn_sub (fun _ h => List.mem_cons_of_mem _ (List.mem_append_right _ h)) (by decide +kernel))
set_option maxRecDepth 20000 in
theorem gX1_bestHat_X1_memberNumbered : GoodIn wsX1_bestHat (wsV RX1 59 RX1 yX1_memberNumbered wsX1_memberNumbered) := goodIn_app (goodIn_of _ (by decide +kernel)) ggX1_bestHat_X1_memberNumbered
set_option maxRecDepth 20000 in
theorem ggX1_bestHat_X1_bestHatFor : GoodIn wsX1_bestHat wsX1_bestHatFor := goodIn_r _ [36, 8, 9, 10, 11, 12, 13, 14, 15, 16, 17, 18, 19, 20, 21, 22, 23, 24, 25, 26, 27, 28, 29, 30, 31, 32, 37, 38, 4, 39, 40, 41, 42, 43, 44, 45, 46, 47, 48, 49, 50, 51, 52, 53, 54, 55, 56, 57, 58, 59, 60, 61, 62, 63, 67, 68, 69, 70, 71, 72, 73, 74, 75, 64, 65, 66] (by decide +kernel) (by decide +kernel)
set_option maxRecDepth 20000 in
theorem gX1_bestHat_X1_bestHatFor : GoodIn wsX1_bestHat (wsV RX1 154 RX1 yX1_bestHatFor wsX1_bestHatFor) := goodIn_app (goodIn_of _ (by decide +kernel)) ggX1_bestHat_X1_bestHatFor
theorem dX1_bestHat_0 : decode cX1_bestHat 0 = .ok (.aload_n 0, 1) := by decide +kernel
theorem dX1_bestHat_1 : decode cX1_bestHat 1 = .ok (.aload_n 0, 1) := by decide +kernel
theorem dX1_bestHat_2 : decode cX1_bestHat 2 = .ok (.iload_n 1, 1) := by decide +kernel
theorem dX1_bestHat_3 : decode cX1_bestHat 3 = .ok (.invokevirtual 59, 3) := by decide +kernel
theorem dX1_bestHat_6 : decode cX1_bestHat 6 = .ok (.invokevirtual 154, 3) := by decide +kernel
theorem dX1_bestHat_9 : decode cX1_bestHat 9 = .ok (.ireturn, 1) := by decide +kernel
set_option maxRecDepth 20000 in
theorem ggX1_longestIn_X1_memberNumbered : GoodIn wsX1_longestIn wsX1_memberNumbered := goodIn_ca (goodIn_r _ [5, 6, 7, 8, 9, 10, 11, 12, 13, 14, 15, 16, 17, 18, 19, 20, 21, 22, 23, 24, 25, 26, 27, 28, 29, 30, 31, 32, 71, 72, 73, 74, 75, 76, 77] (by decide +kernel) (by decide +kernel)) (goodIn_sub (fun _ h => List.mem_cons_of_mem _ (List.mem_append_right _ h)) (by decide +kernel))
set_option maxRecDepth 20000 in
theorem gX1_longestIn_X1_memberNumbered : GoodIn wsX1_longestIn (wsV RX1 59 RX1 yX1_memberNumbered wsX1_memberNumbered) := goodIn_app (goodIn_of _ (by decide +kernel)) ggX1_longestIn_X1_memberNumbered
set_option maxRecDepth 20000 in
theorem ggX1_longestIn_X1_hoursToLongestShadow : GoodIn wsX1_longestIn wsX1_hoursToLongestShadow := goodIn_r _ [36, 37, 38, 39, 4, 40, 41, 42, 43, 44, 45, 46, 47, 48, 49, 50, 51, 52, 53, 54, 55, 56, 57, 58, 59, 60, 61, 62, 63, 64, 65, 66, 67, 68, 69, 70, 71, 72, 73, 74, 78, 79, 80, 81, 82, 83, 84, 85, 86] (by decide +kernel) (by decide +kernel)
set_option maxRecDepth 20000 in
theorem gX1_longestIn_X1_hoursToLongestShadow : GoodIn wsX1_longestIn (wsV RX1 158 RX1 yX1_hoursToLongestShadow wsX1_hoursToLongestShadow) := goodIn_app (goodIn_of _ (by decide +kernel)) ggX1_longestIn_X1_hoursToLongestShadow
theorem dX1_longestIn_0 : decode cX1_longestIn 0 = .ok (.aload_n 0, 1) := by decide +kernel
theorem dX1_longestIn_1 : decode cX1_longestIn 1 = .ok (.aload_n 0, 1) := by decide +kernel
theorem dX1_longestIn_2 : decode cX1_longestIn 2 = .ok (.iload_n 1, 1) := by decide +kernel
theorem dX1_longestIn_3 : decode cX1_longestIn 3 = .ok (.invokevirtual 59, 3) := by decide +kernel
theorem dX1_longestIn_6 : decode cX1_longestIn 6 = .ok (.invokevirtual 158, 3) := by decide +kernel
theorem dX1_longestIn_9 : decode cX1_longestIn 9 = .ok (.ireturn, 1) := by decide +kernel
set_option maxRecDepth 20000 in
theorem ggX1_meanShadow_Jx4a65c_isEmpty_aae02 : GoodIn wsX1_meanShadow wsJx4a65c_isEmpty_aae02 := goodIn_r _ [7, 8, 58, 59, 60] (by decide +kernel) (by decide +kernel)
set_option maxRecDepth 20000 in
theorem gX1_meanShadow_Jx4a65c_isEmpty_aae02 : GoodIn wsX1_meanShadow (wsV RX1 161 RJx4a65c yJx4a65c_isEmpty_aae02 wsJx4a65c_isEmpty_aae02) := goodIn_app (goodIn_of _ (by decide +kernel)) ggX1_meanShadow_Jx4a65c_isEmpty_aae02
set_option maxRecDepth 20000 in
theorem ggX1_meanShadow_Jx4a65c_size_8abf5 : GoodIn wsX1_meanShadow wsJx4a65c_size_8abf5 := goodIn_r _ [12, 8, 58, 59, 60] (by decide +kernel) (by decide +kernel)
set_option maxRecDepth 20000 in
theorem gX1_meanShadow_Jx4a65c_size_8abf5 : GoodIn wsX1_meanShadow (wsV RX1 35 RJx4a65c yJx4a65c_size_8abf5 wsJx4a65c_size_8abf5) := goodIn_app (goodIn_of _ (by decide +kernel)) ggX1_meanShadow_Jx4a65c_size_8abf5
set_option maxRecDepth 20000 in
theorem ggX1_meanShadow_Jx4a65c_get_915e3 : GoodIn wsX1_meanShadow wsJx4a65c_get_915e3 := goodIn_r _ [16, 8, 17, 18, 19, 20, 21, 22, 23, 24, 25, 26, 27, 6, 28, 29, 58, 59, 60] (by decide +kernel) (by decide +kernel)
set_option maxRecDepth 20000 in
theorem gX1_meanShadow_Jx4a65c_get_915e3 : GoodIn wsX1_meanShadow (wsV RX1 125 RJx4a65c yJx4a65c_get_915e3 wsJx4a65c_get_915e3) := goodIn_app (goodIn_of _ (by decide +kernel)) ggX1_meanShadow_Jx4a65c_get_915e3
set_option maxRecDepth 20000 in
theorem ggX1_meanShadow_X1_hourOfDay : GoodIn wsX1_meanShadow wsX1_hourOfDay := goodIn_r _ [34, 35, 54, 55, 56, 57] (by decide +kernel) (by decide +kernel)
set_option maxRecDepth 20000 in
theorem gX1_meanShadow_X1_hourOfDay : GoodIn wsX1_meanShadow (wsV RX1 107 RX1 yX1_hourOfDay wsX1_hourOfDay) := goodIn_app (goodIn_of _ (by decide +kernel)) ggX1_meanShadow_X1_hourOfDay
set_option maxRecDepth 20000 in
theorem ggX1_meanShadow_X0_shadowAt : GoodIn wsX1_meanShadow wsX0_shadowAt := goodIn_r _ [39, 40, 41, 42, 43, 44, 37, 45, 46, 47, 48, 33, 49, 50, 51, 52, 53, 61, 62, 63, 64, 65, 66, 67, 68, 69] (by decide +kernel) (by decide +kernel)
set_option maxRecDepth 20000 in
theorem gX1_meanShadow_X0_shadowAt_n113 : GoodIn wsX1_meanShadow (wsX0_shadowAt) := ggX1_meanShadow_X0_shadowAt
theorem dX1_meanShadow_0 : decode cX1_meanShadow 0 = .ok (.aload_n 0, 1) := by decide +kernel
theorem dX1_meanShadow_1 : decode cX1_meanShadow 1 = .ok (.getfield 10, 3) := by decide +kernel
theorem dX1_meanShadow_4 : decode cX1_meanShadow 4 = .ok (.invokevirtual 161, 3) := by decide +kernel
theorem dX1_meanShadow_7 : decode cX1_meanShadow 7 = .ok (.ifCond .eq 5, 3) := by decide +kernel
theorem dX1_meanShadow_10 : decode cX1_meanShadow 10 = .ok (.dconst 0, 1) := by decide +kernel
theorem dX1_meanShadow_11 : decode cX1_meanShadow 11 = .ok (.dreturn, 1) := by decide +kernel
theorem dX1_meanShadow_12 : decode cX1_meanShadow 12 = .ok (.iconst 0, 1) := by decide +kernel
theorem dX1_meanShadow_13 : decode cX1_meanShadow 13 = .ok (.istore_n 1, 1) := by decide +kernel
theorem dX1_meanShadow_14 : decode cX1_meanShadow 14 = .ok (.iconst 0, 1) := by decide +kernel
theorem dX1_meanShadow_15 : decode cX1_meanShadow 15 = .ok (.istore_n 2, 1) := by decide +kernel
theorem dX1_meanShadow_16 : decode cX1_meanShadow 16 = .ok (.iload_n 2, 1) := by decide +kernel
theorem dX1_meanShadow_17 : decode cX1_meanShadow 17 = .ok (.aload_n 0, 1) := by decide +kernel
theorem dX1_meanShadow_18 : decode cX1_meanShadow 18 = .ok (.getfield 10, 3) := by decide +kernel
theorem dX1_meanShadow_21 : decode cX1_meanShadow 21 = .ok (.invokevirtual 35, 3) := by decide +kernel
theorem dX1_meanShadow_24 : decode cX1_meanShadow 24 = .ok (.if_icmp .ge 30, 3) := by decide +kernel
theorem dX1_meanShadow_27 : decode cX1_meanShadow 27 = .ok (.iload_n 1, 1) := by decide +kernel
theorem dX1_meanShadow_28 : decode cX1_meanShadow 28 = .ok (.aload_n 0, 1) := by decide +kernel
theorem dX1_meanShadow_29 : decode cX1_meanShadow 29 = .ok (.getfield 10, 3) := by decide +kernel
theorem dX1_meanShadow_32 : decode cX1_meanShadow 32 = .ok (.iload_n 2, 1) := by decide +kernel
theorem dX1_meanShadow_33 : decode cX1_meanShadow 33 = .ok (.invokevirtual 125, 3) := by decide +kernel
theorem dX1_meanShadow_36 : decode cX1_meanShadow 36 = .ok (.checkcast 44, 3) := by decide +kernel
theorem dX1_meanShadow_39 : decode cX1_meanShadow 39 = .ok (.aload_n 0, 1) := by decide +kernel
theorem dX1_meanShadow_40 : decode cX1_meanShadow 40 = .ok (.invokevirtual 107, 3) := by decide +kernel
theorem dX1_meanShadow_43 : decode cX1_meanShadow 43 = .ok (.invokevirtual 113, 3) := by decide +kernel
theorem dX1_meanShadow_46 : decode cX1_meanShadow 46 = .ok (.iadd, 1) := by decide +kernel
theorem dX1_meanShadow_47 : decode cX1_meanShadow 47 = .ok (.istore_n 1, 1) := by decide +kernel
theorem dX1_meanShadow_48 : decode cX1_meanShadow 48 = .ok (.iinc 2 1, 3) := by decide +kernel
theorem dX1_meanShadow_51 : decode cX1_meanShadow 51 = .ok (.goto (-35), 3) := by decide +kernel
theorem dX1_meanShadow_54 : decode cX1_meanShadow 54 = .ok (.iload_n 1, 1) := by decide +kernel
theorem dX1_meanShadow_55 : decode cX1_meanShadow 55 = .ok (.i2d, 1) := by decide +kernel
theorem dX1_meanShadow_56 : decode cX1_meanShadow 56 = .ok (.aload_n 0, 1) := by decide +kernel
theorem dX1_meanShadow_57 : decode cX1_meanShadow 57 = .ok (.getfield 10, 3) := by decide +kernel
theorem dX1_meanShadow_60 : decode cX1_meanShadow 60 = .ok (.invokevirtual 35, 3) := by decide +kernel
theorem dX1_meanShadow_63 : decode cX1_meanShadow 63 = .ok (.i2d, 1) := by decide +kernel
theorem dX1_meanShadow_64 : decode cX1_meanShadow 64 = .ok (.ddiv, 1) := by decide +kernel
theorem dX1_meanShadow_65 : decode cX1_meanShadow 65 = .ok (.dreturn, 1) := by decide +kernel
set_option maxRecDepth 20000 in
theorem ggX1_digest_X1_members : GoodIn wsX1_digest wsX1_members := goodIn_r _ [8, 2, 9, 10, 11, 12, 13, 14, 156, 157, 158, 159, 160, 161, 162] (by decide +kernel) (by decide +kernel)
set_option maxRecDepth 20000 in
theorem gX1_digest_X1_members : GoodIn wsX1_digest (wsV RX1 166 RX1 yX1_members wsX1_members) := goodIn_app (goodIn_of _ (by decide +kernel)) ggX1_digest_X1_members
set_option maxRecDepth 20000 in
theorem ggX1_digest_X1_mixed : GoodIn wsX1_digest wsX1_mixed := goodIn_r _ [17, 18] (by decide +kernel) (by decide +kernel)
set_option maxRecDepth 20000 in
theorem gX1_digest_X1_mixed : GoodIn wsX1_digest (va_wsS RX1 169 yX1_mixed wsX1_mixed) := goodIn_app (goodIn_of _ (by decide +kernel)) ggX1_digest_X1_mixed
set_option maxRecDepth 20000 in
theorem ggX1_digest_X1_hour : GoodIn wsX1_digest wsX1_hour := goodIn_r _ [22, 23, 156, 157, 158, 159] (by decide +kernel) (by decide +kernel)
set_option maxRecDepth 20000 in
theorem gX1_digest_X1_hour : GoodIn wsX1_digest (wsV RX1 173 RX1 yX1_hour wsX1_hour) := goodIn_app (goodIn_of _ (by decide +kernel)) ggX1_digest_X1_hour
set_option maxRecDepth 20000 in
theorem ggX1_digest_X1_seized : GoodIn wsX1_digest wsX1_seized := goodIn_r _ [27, 28, 156, 157, 158, 159] (by decide +kernel) (by decide +kernel)
set_option maxRecDepth 20000 in
theorem gX1_digest_X1_seized : GoodIn wsX1_digest (wsV RX1 176 RX1 yX1_seized wsX1_seized) := goodIn_app (goodIn_of _ (by decide +kernel)) ggX1_digest_X1_seized
set_option maxRecDepth 20000 in
theorem ggX1_digest_X1_revoked : GoodIn wsX1_digest wsX1_revoked := goodIn_r _ [32, 33, 156, 157, 158, 159] (by decide +kernel) (by decide +kernel)
set_option maxRecDepth 20000 in
theorem gX1_digest_X1_revoked : GoodIn wsX1_digest (wsV RX1 179 RX1 yX1_revoked wsX1_revoked) := goodIn_app (goodIn_of _ (by decide +kernel)) ggX1_digest_X1_revoked
set_option maxRecDepth 20000 in
theorem ggX1_digest_X1_certificates : GoodIn wsX1_digest wsX1_certificates := goodIn_r _ [37, 2, 3, 9, 10, 11, 12, 13, 14, 38, 39, 40, 41, 42, 43, 44, 45, 46, 47, 48, 49, 50, 51, 52, 53, 54, 55, 56, 57, 58, 59, 156, 157, 158, 159, 160, 161, 162, 163, 164, 165, 166, 167, 168, 169, 170, 171] (by decide +kernel) (by decide +kernel)
set_option maxRecDepth 20000 in
theorem gX1_digest_X1_certificates : GoodIn wsX1_digest (wsV RX1 182 RX1 yX1_certificates wsX1_certificates) := goodIn_app (goodIn_of _ (by decide +kernel)) ggX1_digest_X1_certificates
set_option maxRecDepth 20000 in
theorem ggX1_digest_X1_honestOnes : GoodIn wsX1_digest wsX1_honestOnes := goodIn_r _ [63, 2, 3, 9, 10, 11, 12, 13, 14, 38, 39, 40, 41, 42, 43, 44, 45, 46, 47, 48, 49, 50, 51, 52, 53, 54, 64, 56, 65, 66, 59, 67, 68, 55, 57, 58, 69, 70, 71, 72, 73, 74, 75, 7, 76, 77, 78, 79, 80, 156, 157, 158, 159, 160, 161, 162, 163, 164, 165, 166, 167, 168, 169, 170, 171] (by decide +kernel) (by decide +kernel)
set_option maxRecDepth 20000 in
theorem gX1_digest_X1_honestOnes : GoodIn wsX1_digest (wsV RX1 185 RX1 yX1_honestOnes wsX1_honestOnes) := goodIn_app (goodIn_of _ (by decide +kernel)) ggX1_digest_X1_honestOnes
set_option maxRecDepth 20000 in
theorem ggX1_digest_X1_longest : GoodIn wsX1_digest wsX1_longest := goodIn_r _ [84, 2, 3, 9, 10, 11, 12, 13, 14, 38, 39, 40, 41, 42, 43, 44, 45, 46, 47, 48, 49, 50, 51, 52, 53, 54, 85, 86, 87, 7, 88, 23, 89, 56, 90, 91, 73, 92, 93, 94, 95, 96, 97, 74, 75, 76, 77, 78, 79, 80, 156, 157, 158, 159, 160, 161, 162, 163, 164, 165, 166, 167, 168, 169, 170, 171] (by decide +kernel) (by decide +kernel)
set_option maxRecDepth 20000 in
theorem gX1_digest_X1_longest : GoodIn wsX1_digest (wsV RX1 188 RX1 yX1_longest wsX1_longest) := goodIn_app (goodIn_of _ (by decide +kernel)) ggX1_digest_X1_longest
set_option maxRecDepth 20000 in
theorem ggX1_digest_X1_richestThen : GoodIn wsX1_digest wsX1_richestThen := goodIn_r _ [101, 2, 3, 9, 10, 11, 12, 13, 14, 38, 39, 40, 41, 42, 43, 44, 45, 46, 47, 48, 49, 50, 51, 52, 53, 54, 102, 56, 103, 104, 105, 106, 107, 108, 68, 55, 57, 58, 59, 109, 64, 65, 66, 67, 69, 70, 71, 72, 73, 74, 75, 7, 76, 77, 78, 79, 80, 110, 111, 112, 113, 92, 156, 157, 158, 159, 163, 164, 165, 166, 167, 168, 169, 170, 171, 160, 161, 162] (by decide +kernel) (by decide +kernel)
set_option maxRecDepth 20000 in
theorem gX1_digest_X1_richestThen : GoodIn wsX1_digest (wsV RX1 191 RX1 yX1_richestThen wsX1_richestThen) := goodIn_app (goodIn_of _ (by decide +kernel)) ggX1_digest_X1_richestThen
set_option maxRecDepth 20000 in
theorem ggX1_digest_Jx4a65c_size_8abf5 : GoodIn wsX1_digest wsJx4a65c_size_8abf5 := goodIn_r _ [13, 14, 160, 161, 162] (by decide +kernel) (by decide +kernel)
set_option maxRecDepth 20000 in
theorem gX1_digest_Jx4a65c_size_8abf5 : GoodIn wsX1_digest (wsV RX1 35 RJx4a65c yJx4a65c_size_8abf5 wsJx4a65c_size_8abf5) := goodIn_app (goodIn_of _ (by decide +kernel)) ggX1_digest_Jx4a65c_size_8abf5
set_option maxRecDepth 20000 in
theorem ggX1_digest_Jx4a65c_get_915e3 : GoodIn wsX1_digest wsJx4a65c_get_915e3 := goodIn_r _ [41, 14, 42, 43, 44, 45, 46, 47, 48, 49, 50, 51, 52, 12, 53, 54, 160, 161, 162] (by decide +kernel) (by decide +kernel)
set_option maxRecDepth 20000 in
theorem gX1_digest_Jx4a65c_get_915e3 : GoodIn wsX1_digest (wsV RX1 125 RJx4a65c yJx4a65c_get_915e3 wsJx4a65c_get_915e3) := goodIn_app (goodIn_of _ (by decide +kernel)) ggX1_digest_Jx4a65c_get_915e3
set_option maxRecDepth 20000 in
theorem ggX1_digest_X1_mixedWithMember : GoodIn wsX1_digest wsX1_mixedWithMember := goodIn_r _ [117, 15, 16, 7, 17, 18, 118, 56, 119, 120, 97, 121, 94, 95, 96, 74, 122, 123, 124, 125, 2, 3, 9, 10, 11, 12, 13, 14, 38, 39, 40, 41, 42, 43, 44, 45, 46, 47, 48, 49, 50, 51, 52, 53, 54, 126, 127, 128, 129, 85, 86, 87, 88, 23, 89, 90, 91, 73, 92, 93, 75, 76, 77, 78, 79, 80, 102, 103, 104, 105, 106, 107, 108, 68, 55, 57, 58, 59, 109, 64, 65, 66, 67, 69, 70, 71, 72, 110, 111, 112, 113, 130, 131, 132, 133, 134, 135, 136, 137, 138, 139, 140, 141, 142, 143, 144, 145, 146, 147, 148, 149, 150, 151, 152, 153, 154, 155, 163, 164, 165, 166, 167, 168, 169, 170, 171, 156, 157, 158, 159, 160, 161, 162] (by decide +kernel) (by decide +kernel)
set_option maxRecDepth 20000 in
theorem gX1_digest_X1_mixedWithMember : GoodIn wsX1_digest (wsV RX1 194 RX1 yX1_mixedWithMember wsX1_mixedWithMember) := goodIn_app (goodIn_of _ (by decide +kernel)) ggX1_digest_X1_mixedWithMember
theorem dX1_digest_0 : decode cX1_digest 0 = .ok (.ldc2_w 164, 3) := by decide +kernel
theorem dX1_digest_3 : decode cX1_digest 3 = .ok (.lstore_n 1, 1) := by decide +kernel
theorem dX1_digest_4 : decode cX1_digest 4 = .ok (.lload_n 1, 1) := by decide +kernel
theorem dX1_digest_5 : decode cX1_digest 5 = .ok (.aload_n 0, 1) := by decide +kernel
theorem dX1_digest_6 : decode cX1_digest 6 = .ok (.invokevirtual 166, 3) := by decide +kernel
theorem dX1_digest_9 : decode cX1_digest 9 = .ok (.i2l, 1) := by decide +kernel
theorem dX1_digest_10 : decode cX1_digest 10 = .ok (.invokestatic 169, 3) := by decide +kernel
theorem dX1_digest_13 : decode cX1_digest 13 = .ok (.lstore_n 1, 1) := by decide +kernel
theorem dX1_digest_14 : decode cX1_digest 14 = .ok (.lload_n 1, 1) := by decide +kernel
theorem dX1_digest_15 : decode cX1_digest 15 = .ok (.aload_n 0, 1) := by decide +kernel
theorem dX1_digest_16 : decode cX1_digest 16 = .ok (.invokevirtual 173, 3) := by decide +kernel
theorem dX1_digest_19 : decode cX1_digest 19 = .ok (.i2l, 1) := by decide +kernel
theorem dX1_digest_20 : decode cX1_digest 20 = .ok (.invokestatic 169, 3) := by decide +kernel
theorem dX1_digest_23 : decode cX1_digest 23 = .ok (.lstore_n 1, 1) := by decide +kernel
theorem dX1_digest_24 : decode cX1_digest 24 = .ok (.lload_n 1, 1) := by decide +kernel
theorem dX1_digest_25 : decode cX1_digest 25 = .ok (.aload_n 0, 1) := by decide +kernel
theorem dX1_digest_26 : decode cX1_digest 26 = .ok (.invokevirtual 176, 3) := by decide +kernel
theorem dX1_digest_29 : decode cX1_digest 29 = .ok (.i2l, 1) := by decide +kernel
theorem dX1_digest_30 : decode cX1_digest 30 = .ok (.invokestatic 169, 3) := by decide +kernel
theorem dX1_digest_33 : decode cX1_digest 33 = .ok (.lstore_n 1, 1) := by decide +kernel
theorem dX1_digest_34 : decode cX1_digest 34 = .ok (.lload_n 1, 1) := by decide +kernel
theorem dX1_digest_35 : decode cX1_digest 35 = .ok (.aload_n 0, 1) := by decide +kernel
theorem dX1_digest_36 : decode cX1_digest 36 = .ok (.invokevirtual 179, 3) := by decide +kernel
theorem dX1_digest_39 : decode cX1_digest 39 = .ok (.i2l, 1) := by decide +kernel
theorem dX1_digest_40 : decode cX1_digest 40 = .ok (.invokestatic 169, 3) := by decide +kernel
theorem dX1_digest_43 : decode cX1_digest 43 = .ok (.lstore_n 1, 1) := by decide +kernel
theorem dX1_digest_44 : decode cX1_digest 44 = .ok (.lload_n 1, 1) := by decide +kernel
theorem dX1_digest_45 : decode cX1_digest 45 = .ok (.aload_n 0, 1) := by decide +kernel
theorem dX1_digest_46 : decode cX1_digest 46 = .ok (.invokevirtual 182, 3) := by decide +kernel
theorem dX1_digest_49 : decode cX1_digest 49 = .ok (.i2l, 1) := by decide +kernel
theorem dX1_digest_50 : decode cX1_digest 50 = .ok (.invokestatic 169, 3) := by decide +kernel
theorem dX1_digest_53 : decode cX1_digest 53 = .ok (.lstore_n 1, 1) := by decide +kernel
theorem dX1_digest_54 : decode cX1_digest 54 = .ok (.lload_n 1, 1) := by decide +kernel
theorem dX1_digest_55 : decode cX1_digest 55 = .ok (.aload_n 0, 1) := by decide +kernel
theorem dX1_digest_56 : decode cX1_digest 56 = .ok (.invokevirtual 185, 3) := by decide +kernel
theorem dX1_digest_59 : decode cX1_digest 59 = .ok (.i2l, 1) := by decide +kernel
theorem dX1_digest_60 : decode cX1_digest 60 = .ok (.invokestatic 169, 3) := by decide +kernel
theorem dX1_digest_63 : decode cX1_digest 63 = .ok (.lstore_n 1, 1) := by decide +kernel
theorem dX1_digest_64 : decode cX1_digest 64 = .ok (.lload_n 1, 1) := by decide +kernel
theorem dX1_digest_65 : decode cX1_digest 65 = .ok (.aload_n 0, 1) := by decide +kernel
theorem dX1_digest_66 : decode cX1_digest 66 = .ok (.invokevirtual 188, 3) := by decide +kernel
theorem dX1_digest_69 : decode cX1_digest 69 = .ok (.i2l, 1) := by decide +kernel
theorem dX1_digest_70 : decode cX1_digest 70 = .ok (.invokestatic 169, 3) := by decide +kernel
theorem dX1_digest_73 : decode cX1_digest 73 = .ok (.lstore_n 1, 1) := by decide +kernel
theorem dX1_digest_74 : decode cX1_digest 74 = .ok (.lload_n 1, 1) := by decide +kernel
theorem dX1_digest_75 : decode cX1_digest 75 = .ok (.aload_n 0, 1) := by decide +kernel
theorem dX1_digest_76 : decode cX1_digest 76 = .ok (.invokevirtual 191, 3) := by decide +kernel
theorem dX1_digest_79 : decode cX1_digest 79 = .ok (.i2l, 1) := by decide +kernel
theorem dX1_digest_80 : decode cX1_digest 80 = .ok (.invokestatic 169, 3) := by decide +kernel
theorem dX1_digest_83 : decode cX1_digest 83 = .ok (.lstore_n 1, 1) := by decide +kernel
theorem dX1_digest_84 : decode cX1_digest 84 = .ok (.iconst 0, 1) := by decide +kernel
theorem dX1_digest_85 : decode cX1_digest 85 = .ok (.istore_n 3, 1) := by decide +kernel
theorem dX1_digest_86 : decode cX1_digest 86 = .ok (.iload_n 3, 1) := by decide +kernel
theorem dX1_digest_87 : decode cX1_digest 87 = .ok (.aload_n 0, 1) := by decide +kernel
theorem dX1_digest_88 : decode cX1_digest 88 = .ok (.getfield 10, 3) := by decide +kernel
theorem dX1_digest_91 : decode cX1_digest 91 = .ok (.invokevirtual 35, 3) := by decide +kernel
theorem dX1_digest_94 : decode cX1_digest 94 = .ok (.if_icmp .ge 26, 3) := by decide +kernel
theorem dX1_digest_97 : decode cX1_digest 97 = .ok (.aload_n 0, 1) := by decide +kernel
theorem dX1_digest_98 : decode cX1_digest 98 = .ok (.lload_n 1, 1) := by decide +kernel
theorem dX1_digest_99 : decode cX1_digest 99 = .ok (.aload_n 0, 1) := by decide +kernel
theorem dX1_digest_100 : decode cX1_digest 100 = .ok (.getfield 10, 3) := by decide +kernel
theorem dX1_digest_103 : decode cX1_digest 103 = .ok (.iload_n 3, 1) := by decide +kernel
theorem dX1_digest_104 : decode cX1_digest 104 = .ok (.invokevirtual 125, 3) := by decide +kernel
theorem dX1_digest_107 : decode cX1_digest 107 = .ok (.checkcast 44, 3) := by decide +kernel
theorem dX1_digest_110 : decode cX1_digest 110 = .ok (.invokevirtual 194, 3) := by decide +kernel
theorem dX1_digest_113 : decode cX1_digest 113 = .ok (.lstore_n 1, 1) := by decide +kernel
theorem dX1_digest_114 : decode cX1_digest 114 = .ok (.iinc 3 1, 3) := by decide +kernel
theorem dX1_digest_117 : decode cX1_digest 117 = .ok (.goto (-31), 3) := by decide +kernel
theorem dX1_digest_120 : decode cX1_digest 120 = .ok (.lload_n 1, 1) := by decide +kernel
theorem dX1_digest_121 : decode cX1_digest 121 = .ok (.lreturn, 1) := by decide +kernel
set_option maxRecDepth 20000 in
theorem ggX1_memberNumbered_Jx4a65c_size_8abf5 : GoodIn wsX1_memberNumbered wsJx4a65c_size_8abf5 := goodIn_r _ [9, 10, 32, 33, 34] (by decide +kernel) (by decide +kernel)
set_option maxRecDepth 20000 in
theorem gX1_memberNumbered_Jx4a65c_size_8abf5 : GoodIn wsX1_memberNumbered (wsV RX1 35 RJx4a65c yJx4a65c_size_8abf5 wsJx4a65c_size_8abf5) := goodIn_app (goodIn_of _ (by decide +kernel)) ggX1_memberNumbered_Jx4a65c_size_8abf5
set_option maxRecDepth 20000 in
theorem ggX1_memberNumbered_Jx4a65c_get_915e3 : GoodIn wsX1_memberNumbered wsJx4a65c_get_915e3 := goodIn_r _ [14, 10, 15, 16, 17, 18, 19, 20, 21, 22, 23, 24, 25, 8, 26, 27, 32, 33, 34] (by decide +kernel) (by decide +kernel)
set_option maxRecDepth 20000 in
theorem gX1_memberNumbered_Jx4a65c_get_915e3 : GoodIn wsX1_memberNumbered (wsV RX1 125 RJx4a65c yJx4a65c_get_915e3 wsJx4a65c_get_915e3) := goodIn_app (goodIn_of _ (by decide +kernel)) ggX1_memberNumbered_Jx4a65c_get_915e3
theorem dX1_memberNumbered_0 : decode cX1_memberNumbered 0 = .ok (.iload_n 1, 1) := by decide +kernel
theorem dX1_memberNumbered_1 : decode cX1_memberNumbered 1 = .ok (.ifCond .lt 14, 3) := by decide +kernel
theorem dX1_memberNumbered_4 : decode cX1_memberNumbered 4 = .ok (.iload_n 1, 1) := by decide +kernel
theorem dX1_memberNumbered_5 : decode cX1_memberNumbered 5 = .ok (.aload_n 0, 1) := by decide +kernel
theorem dX1_memberNumbered_6 : decode cX1_memberNumbered 6 = .ok (.getfield 10, 3) := by decide +kernel
theorem dX1_memberNumbered_9 : decode cX1_memberNumbered 9 = .ok (.invokevirtual 35, 3) := by decide +kernel
theorem dX1_memberNumbered_12 : decode cX1_memberNumbered 12 = .ok (.if_icmp .lt 13, 3) := by decide +kernel
theorem dX1_memberNumbered_15 : decode cX1_memberNumbered 15 = .ok (.new 141, 3) := by decide +kernel
theorem dX1_memberNumbered_18 : decode cX1_memberNumbered 18 = .ok (.dup, 1) := by decide +kernel
theorem dX1_memberNumbered_19 : decode cX1_memberNumbered 19 = .ok (.ldc 198, 2) := by decide +kernel
theorem dX1_memberNumbered_21 : decode cX1_memberNumbered 21 = .ok (.invokespecial 145, 3) := by decide +kernel
theorem dX1_memberNumbered_24 : decode cX1_memberNumbered 24 = .ok (.athrow, 1) := by decide +kernel
theorem dX1_memberNumbered_25 : decode cX1_memberNumbered 25 = .ok (.aload_n 0, 1) := by decide +kernel
theorem dX1_memberNumbered_26 : decode cX1_memberNumbered 26 = .ok (.getfield 10, 3) := by decide +kernel
theorem dX1_memberNumbered_29 : decode cX1_memberNumbered 29 = .ok (.iload_n 1, 1) := by decide +kernel
theorem dX1_memberNumbered_30 : decode cX1_memberNumbered 30 = .ok (.invokevirtual 125, 3) := by decide +kernel
theorem dX1_memberNumbered_33 : decode cX1_memberNumbered 33 = .ok (.checkcast 44, 3) := by decide +kernel
theorem dX1_memberNumbered_36 : decode cX1_memberNumbered 36 = .ok (.areturn, 1) := by decide +kernel
set_option maxRecDepth 20000 in
theorem ggX1_canBorrow_X0_wearsOwnHat : GoodIn wsX1_canBorrow wsX0_wearsOwnHat := goodIn_r _ [4, 5, 9, 10, 11, 12, 13, 14, 15, 16, 17] (by decide +kernel) (by decide +kernel)
set_option maxRecDepth 20000 in
theorem gX1_canBorrow_X0_wearsOwnHat_n200 : GoodIn wsX1_canBorrow (wsX0_wearsOwnHat) := ggX1_canBorrow_X0_wearsOwnHat
set_option maxRecDepth 20000 in
theorem ggX1_canBorrow_X0_wearsBorrowedHat : GoodIn wsX1_canBorrow wsX0_wearsBorrowedHat := goodIn_r _ [8, 5, 9, 10, 11, 12, 13, 14, 15, 16, 17] (by decide +kernel) (by decide +kernel)
set_option maxRecDepth 20000 in
theorem gX1_canBorrow_X0_wearsBorrowedHat_n94 : GoodIn wsX1_canBorrow (wsX0_wearsBorrowedHat) := ggX1_canBorrow_X0_wearsBorrowedHat
theorem dX1_canBorrow_0 : decode cX1_canBorrow 0 = .ok (.aload_n 0, 1) := by decide +kernel
theorem dX1_canBorrow_1 : decode cX1_canBorrow 1 = .ok (.aload_n 1, 1) := by decide +kernel
theorem dX1_canBorrow_2 : decode cX1_canBorrow 2 = .ok (.if_acmp .eq 21, 3) := by decide +kernel
theorem dX1_canBorrow_5 : decode cX1_canBorrow 5 = .ok (.aload_n 1, 1) := by decide +kernel
theorem dX1_canBorrow_6 : decode cX1_canBorrow 6 = .ok (.invokevirtual 200, 3) := by decide +kernel
theorem dX1_canBorrow_9 : decode cX1_canBorrow 9 = .ok (.ifCond .eq 14, 3) := by decide +kernel
theorem dX1_canBorrow_12 : decode cX1_canBorrow 12 = .ok (.aload_n 0, 1) := by decide +kernel
theorem dX1_canBorrow_13 : decode cX1_canBorrow 13 = .ok (.invokevirtual 94, 3) := by decide +kernel
theorem dX1_canBorrow_16 : decode cX1_canBorrow 16 = .ok (.ifCond .ne 7, 3) := by decide +kernel
theorem dX1_canBorrow_19 : decode cX1_canBorrow 19 = .ok (.iconst 1, 1) := by decide +kernel
theorem dX1_canBorrow_20 : decode cX1_canBorrow 20 = .ok (.goto 4, 3) := by decide +kernel
theorem dX1_canBorrow_23 : decode cX1_canBorrow 23 = .ok (.iconst 0, 1) := by decide +kernel
theorem dX1_canBorrow_24 : decode cX1_canBorrow 24 = .ok (.ireturn, 1) := by decide +kernel
set_option maxRecDepth 20000 in
theorem ggX1_isHatLent_Jx4a65c_size_8abf5 : GoodIn wsX1_isHatLent wsJx4a65c_size_8abf5 := goodIn_r _ [7, 8, 39, 40, 41] (by decide +kernel) (by decide +kernel)
set_option maxRecDepth 20000 in
theorem gX1_isHatLent_Jx4a65c_size_8abf5 : GoodIn wsX1_isHatLent (wsV RX1 35 RJx4a65c yJx4a65c_size_8abf5 wsJx4a65c_size_8abf5) := goodIn_app (goodIn_of _ (by decide +kernel)) ggX1_isHatLent_Jx4a65c_size_8abf5
set_option maxRecDepth 20000 in
theorem ggX1_isHatLent_Jx4a65c_get_915e3 : GoodIn wsX1_isHatLent wsJx4a65c_get_915e3 := goodIn_r _ [12, 8, 13, 14, 15, 16, 17, 18, 19, 20, 21, 22, 23, 6, 24, 25, 39, 40, 41] (by decide +kernel) (by decide +kernel)
set_option maxRecDepth 20000 in
theorem gX1_isHatLent_Jx4a65c_get_915e3 : GoodIn wsX1_isHatLent (wsV RX1 125 RJx4a65c yJx4a65c_get_915e3 wsJx4a65c_get_915e3) := goodIn_app (goodIn_of _ (by decide +kernel)) ggX1_isHatLent_Jx4a65c_get_915e3
theorem dX1_isHatLent_0 : decode cX1_isHatLent 0 = .ok (.iconst 0, 1) := by decide +kernel
theorem dX1_isHatLent_1 : decode cX1_isHatLent 1 = .ok (.istore_n 2, 1) := by decide +kernel
theorem dX1_isHatLent_2 : decode cX1_isHatLent 2 = .ok (.iload_n 2, 1) := by decide +kernel
theorem dX1_isHatLent_3 : decode cX1_isHatLent 3 = .ok (.aload_n 0, 1) := by decide +kernel
theorem dX1_isHatLent_4 : decode cX1_isHatLent 4 = .ok (.getfield 10, 3) := by decide +kernel
theorem dX1_isHatLent_7 : decode cX1_isHatLent 7 = .ok (.invokevirtual 35, 3) := by decide +kernel
theorem dX1_isHatLent_10 : decode cX1_isHatLent 10 = .ok (.if_icmp .ge 36, 3) := by decide +kernel
theorem dX1_isHatLent_13 : decode cX1_isHatLent 13 = .ok (.aload_n 0, 1) := by decide +kernel
theorem dX1_isHatLent_14 : decode cX1_isHatLent 14 = .ok (.getfield 10, 3) := by decide +kernel
theorem dX1_isHatLent_17 : decode cX1_isHatLent 17 = .ok (.iload_n 2, 1) := by decide +kernel
theorem dX1_isHatLent_18 : decode cX1_isHatLent 18 = .ok (.invokevirtual 125, 3) := by decide +kernel
theorem dX1_isHatLent_21 : decode cX1_isHatLent 21 = .ok (.checkcast 44, 3) := by decide +kernel
theorem dX1_isHatLent_24 : decode cX1_isHatLent 24 = .ok (.astore_n 3, 1) := by decide +kernel
theorem dX1_isHatLent_25 : decode cX1_isHatLent 25 = .ok (.aload_n 3, 1) := by decide +kernel
theorem dX1_isHatLent_26 : decode cX1_isHatLent 26 = .ok (.aload_n 1, 1) := by decide +kernel
theorem dX1_isHatLent_27 : decode cX1_isHatLent 27 = .ok (.if_acmp .eq 13, 3) := by decide +kernel
theorem dX1_isHatLent_30 : decode cX1_isHatLent 30 = .ok (.aload_n 3, 1) := by decide +kernel
theorem dX1_isHatLent_31 : decode cX1_isHatLent 31 = .ok (.getfield 85, 3) := by decide +kernel
theorem dX1_isHatLent_34 : decode cX1_isHatLent 34 = .ok (.aload_n 1, 1) := by decide +kernel
theorem dX1_isHatLent_35 : decode cX1_isHatLent 35 = .ok (.if_acmp .ne 5, 3) := by decide +kernel
theorem dX1_isHatLent_38 : decode cX1_isHatLent 38 = .ok (.iconst 1, 1) := by decide +kernel
theorem dX1_isHatLent_39 : decode cX1_isHatLent 39 = .ok (.ireturn, 1) := by decide +kernel
theorem dX1_isHatLent_40 : decode cX1_isHatLent 40 = .ok (.iinc 2 1, 3) := by decide +kernel
theorem dX1_isHatLent_43 : decode cX1_isHatLent 43 = .ok (.goto (-41), 3) := by decide +kernel
theorem dX1_isHatLent_46 : decode cX1_isHatLent 46 = .ok (.iconst 0, 1) := by decide +kernel
theorem dX1_isHatLent_47 : decode cX1_isHatLent 47 = .ok (.ireturn, 1) := by decide +kernel
set_option maxRecDepth 20000 in
theorem ggX1_passOneHour_X1_hourOfDay : GoodIn wsX1_passOneHour wsX1_hourOfDay := goodIn_r _ [6, 1, 80, 81, 82, 83] (by decide +kernel) (by decide +kernel)
set_option maxRecDepth 20000 in
theorem gX1_passOneHour_X1_hourOfDay : GoodIn wsX1_passOneHour (wsV RX1 107 RX1 yX1_hourOfDay wsX1_hourOfDay) := goodIn_app (goodIn_of _ (by decide +kernel)) ggX1_passOneHour_X1_hourOfDay
set_option maxRecDepth 20000 in
theorem ggX1_passOneHour_X1_seizeLamps : GoodIn wsX1_passOneHour wsX1_seizeLamps := goodIn_r _ [10, 11, 12, 13, 14, 15, 16, 17, 18, 19, 20, 21, 22, 23, 24, 25, 26, 27, 28, 29, 30, 31, 32, 33, 34, 35, 36, 37, 38, 39, 40, 41, 80, 81, 82, 83, 84, 85, 86, 87, 88, 89, 90, 91, 92, 93, 94, 95] (by decide +kernel) (by decide +kernel)
set_option maxRecDepth 20000 in
theorem gX1_passOneHour_X1_seizeLamps : GoodIn wsX1_passOneHour (wsV RX1 203 RX1 yX1_seizeLamps wsX1_seizeLamps) := goodIn_app (goodIn_of _ (by decide +kernel)) ggX1_passOneHour_X1_seizeLamps
set_option maxRecDepth 20000 in
theorem ggX1_passOneHour_X1_sendHatsBack : GoodIn wsX1_passOneHour wsX1_sendHatsBack := goodIn_r _ [45, 11, 12, 14, 15, 16, 17, 18, 19, 20, 21, 22, 23, 24, 25, 26, 27, 28, 29, 30, 31, 32, 33, 34, 35, 36, 46, 38, 47, 48, 49, 50, 80, 81, 82, 83, 93, 94, 95, 84, 85, 86, 87, 88, 89, 90, 91, 92] (by decide +kernel) (by decide +kernel)
set_option maxRecDepth 20000 in
theorem gX1_passOneHour_X1_sendHatsBack : GoodIn wsX1_passOneHour (wsV RX1 206 RX1 yX1_sendHatsBack wsX1_sendHatsBack) := goodIn_app (goodIn_of _ (by decide +kernel)) ggX1_passOneHour_X1_sendHatsBack
set_option maxRecDepth 20000 in
theorem ggX1_passOneHour_X1_judgeCertificates : GoodIn wsX1_passOneHour wsX1_judgeCertificates := goodIn_r _ [54, 11, 12, 55, 14, 15, 16, 17, 18, 19, 20, 21, 22, 23, 24, 25, 26, 27, 28, 29, 30, 31, 32, 33, 34, 35, 36, 56, 38, 57, 58, 59, 60, 61, 62, 63, 64, 65, 66, 67, 68, 69, 49, 70, 5, 71, 72, 73, 74, 75, 76, 77, 78, 79, 80, 81, 82, 83, 84, 85, 86, 87, 88, 89, 90, 91, 92, 93, 94, 95] (by decide +kernel) (by decide +kernel)
set_option maxRecDepth 20000 in
theorem gX1_passOneHour_X1_judgeCertificates : GoodIn wsX1_passOneHour (wsV RX1 209 RX1 yX1_judgeCertificates wsX1_judgeCertificates) := goodIn_app (goodIn_of _ (by decide +kernel)) ggX1_passOneHour_X1_judgeCertificates
theorem dX1_passOneHour_0 : decode cX1_passOneHour 0 = .ok (.aload_n 0, 1) := by decide +kernel
theorem dX1_passOneHour_1 : decode cX1_passOneHour 1 = .ok (.dup, 1) := by decide +kernel
theorem dX1_passOneHour_2 : decode cX1_passOneHour 2 = .ok (.getfield 16, 3) := by decide +kernel
theorem dX1_passOneHour_5 : decode cX1_passOneHour 5 = .ok (.iconst 1, 1) := by decide +kernel
theorem dX1_passOneHour_6 : decode cX1_passOneHour 6 = .ok (.iadd, 1) := by decide +kernel
theorem dX1_passOneHour_7 : decode cX1_passOneHour 7 = .ok (.putfield 16, 3) := by decide +kernel
theorem dX1_passOneHour_10 : decode cX1_passOneHour 10 = .ok (.aload_n 0, 1) := by decide +kernel
theorem dX1_passOneHour_11 : decode cX1_passOneHour 11 = .ok (.invokevirtual 107, 3) := by decide +kernel
theorem dX1_passOneHour_14 : decode cX1_passOneHour 14 = .ok (.bipush 12, 2) := by decide +kernel
theorem dX1_passOneHour_16 : decode cX1_passOneHour 16 = .ok (.if_icmp .ne 15, 3) := by decide +kernel
theorem dX1_passOneHour_19 : decode cX1_passOneHour 19 = .ok (.aload_n 0, 1) := by decide +kernel
theorem dX1_passOneHour_20 : decode cX1_passOneHour 20 = .ok (.invokevirtual 203, 3) := by decide +kernel
theorem dX1_passOneHour_23 : decode cX1_passOneHour 23 = .ok (.aload_n 0, 1) := by decide +kernel
theorem dX1_passOneHour_24 : decode cX1_passOneHour 24 = .ok (.invokevirtual 206, 3) := by decide +kernel
theorem dX1_passOneHour_27 : decode cX1_passOneHour 27 = .ok (.aload_n 0, 1) := by decide +kernel
theorem dX1_passOneHour_28 : decode cX1_passOneHour 28 = .ok (.invokevirtual 209, 3) := by decide +kernel
theorem dX1_passOneHour_31 : decode cX1_passOneHour 31 = .ok (.return_, 1) := by decide +kernel
set_option maxRecDepth 20000 in
theorem ggX1_seizeLamps_Jx4a65c_size_8abf5 : GoodIn wsX1_seizeLamps wsJx4a65c_size_8abf5 := goodIn_r _ [8, 9, 45, 46, 47] (by decide +kernel) (by decide +kernel)
set_option maxRecDepth 20000 in
theorem gX1_seizeLamps_Jx4a65c_size_8abf5 : GoodIn wsX1_seizeLamps (wsV RX1 35 RJx4a65c yJx4a65c_size_8abf5 wsJx4a65c_size_8abf5) := goodIn_app (goodIn_of _ (by decide +kernel)) ggX1_seizeLamps_Jx4a65c_size_8abf5
set_option maxRecDepth 20000 in
theorem ggX1_seizeLamps_Jx4a65c_get_915e3 : GoodIn wsX1_seizeLamps wsJx4a65c_get_915e3 := goodIn_r _ [13, 9, 14, 15, 16, 17, 18, 19, 20, 21, 22, 23, 24, 7, 25, 26, 45, 46, 47] (by decide +kernel) (by decide +kernel)
set_option maxRecDepth 20000 in
theorem gX1_seizeLamps_Jx4a65c_get_915e3 : GoodIn wsX1_seizeLamps (wsV RX1 125 RJx4a65c yJx4a65c_get_915e3 wsJx4a65c_get_915e3) := goodIn_app (goodIn_of _ (by decide +kernel)) ggX1_seizeLamps_Jx4a65c_get_915e3
set_option maxRecDepth 20000 in
theorem ggX1_seizeLamps_X0_fineForLamp : GoodIn wsX1_seizeLamps wsX0_fineForLamp := goodIn_r _ [30, 31, 36, 37, 38, 39, 40, 41, 42, 43, 44] (by decide +kernel) (by decide +kernel)
set_option maxRecDepth 20000 in
theorem gX1_seizeLamps_X0_fineForLamp_n212 : GoodIn wsX1_seizeLamps (wsX0_fineForLamp) := ggX1_seizeLamps_X0_fineForLamp
theorem dX1_seizeLamps_0 : decode cX1_seizeLamps 0 = .ok (.iconst 0, 1) := by decide +kernel
theorem dX1_seizeLamps_1 : decode cX1_seizeLamps 1 = .ok (.istore_n 1, 1) := by decide +kernel
theorem dX1_seizeLamps_2 : decode cX1_seizeLamps 2 = .ok (.iload_n 1, 1) := by decide +kernel
theorem dX1_seizeLamps_3 : decode cX1_seizeLamps 3 = .ok (.aload_n 0, 1) := by decide +kernel
theorem dX1_seizeLamps_4 : decode cX1_seizeLamps 4 = .ok (.getfield 10, 3) := by decide +kernel
theorem dX1_seizeLamps_7 : decode cX1_seizeLamps 7 = .ok (.invokevirtual 35, 3) := by decide +kernel
theorem dX1_seizeLamps_10 : decode cX1_seizeLamps 10 = .ok (.if_icmp .ge 56, 3) := by decide +kernel
theorem dX1_seizeLamps_13 : decode cX1_seizeLamps 13 = .ok (.aload_n 0, 1) := by decide +kernel
theorem dX1_seizeLamps_14 : decode cX1_seizeLamps 14 = .ok (.getfield 10, 3) := by decide +kernel
theorem dX1_seizeLamps_17 : decode cX1_seizeLamps 17 = .ok (.iload_n 1, 1) := by decide +kernel
theorem dX1_seizeLamps_18 : decode cX1_seizeLamps 18 = .ok (.invokevirtual 125, 3) := by decide +kernel
theorem dX1_seizeLamps_21 : decode cX1_seizeLamps 21 = .ok (.checkcast 44, 3) := by decide +kernel
theorem dX1_seizeLamps_24 : decode cX1_seizeLamps 24 = .ok (.astore_n 2, 1) := by decide +kernel
theorem dX1_seizeLamps_25 : decode cX1_seizeLamps 25 = .ok (.aload_n 2, 1) := by decide +kernel
theorem dX1_seizeLamps_26 : decode cX1_seizeLamps 26 = .ok (.getfield 65, 3) := by decide +kernel
theorem dX1_seizeLamps_29 : decode cX1_seizeLamps 29 = .ok (.ifCond .le 31, 3) := by decide +kernel
theorem dX1_seizeLamps_32 : decode cX1_seizeLamps 32 = .ok (.aload_n 2, 1) := by decide +kernel
theorem dX1_seizeLamps_33 : decode cX1_seizeLamps 33 = .ok (.dup, 1) := by decide +kernel
theorem dX1_seizeLamps_34 : decode cX1_seizeLamps 34 = .ok (.getfield 70, 3) := by decide +kernel
theorem dX1_seizeLamps_37 : decode cX1_seizeLamps 37 = .ok (.aload_n 2, 1) := by decide +kernel
theorem dX1_seizeLamps_38 : decode cX1_seizeLamps 38 = .ok (.invokevirtual 212, 3) := by decide +kernel
theorem dX1_seizeLamps_41 : decode cX1_seizeLamps 41 = .ok (.isub, 1) := by decide +kernel
theorem dX1_seizeLamps_42 : decode cX1_seizeLamps 42 = .ok (.putfield 70, 3) := by decide +kernel
theorem dX1_seizeLamps_45 : decode cX1_seizeLamps 45 = .ok (.aload_n 2, 1) := by decide +kernel
theorem dX1_seizeLamps_46 : decode cX1_seizeLamps 46 = .ok (.iconst 0, 1) := by decide +kernel
theorem dX1_seizeLamps_47 : decode cX1_seizeLamps 47 = .ok (.putfield 65, 3) := by decide +kernel
theorem dX1_seizeLamps_50 : decode cX1_seizeLamps 50 = .ok (.aload_n 0, 1) := by decide +kernel
theorem dX1_seizeLamps_51 : decode cX1_seizeLamps 51 = .ok (.dup, 1) := by decide +kernel
theorem dX1_seizeLamps_52 : decode cX1_seizeLamps 52 = .ok (.getfield 20, 3) := by decide +kernel
theorem dX1_seizeLamps_55 : decode cX1_seizeLamps 55 = .ok (.iconst 1, 1) := by decide +kernel
theorem dX1_seizeLamps_56 : decode cX1_seizeLamps 56 = .ok (.iadd, 1) := by decide +kernel
theorem dX1_seizeLamps_57 : decode cX1_seizeLamps 57 = .ok (.putfield 20, 3) := by decide +kernel
theorem dX1_seizeLamps_60 : decode cX1_seizeLamps 60 = .ok (.iinc 1 1, 3) := by decide +kernel
theorem dX1_seizeLamps_63 : decode cX1_seizeLamps 63 = .ok (.goto (-61), 3) := by decide +kernel
theorem dX1_seizeLamps_66 : decode cX1_seizeLamps 66 = .ok (.return_, 1) := by decide +kernel
set_option maxRecDepth 20000 in
theorem ggX1_sendHatsBack_Jx4a65c_size_8abf5 : GoodIn wsX1_sendHatsBack wsJx4a65c_size_8abf5 := goodIn_r _ [7, 8, 36, 37, 38] (by decide +kernel) (by decide +kernel)
set_option maxRecDepth 20000 in
theorem gX1_sendHatsBack_Jx4a65c_size_8abf5 : GoodIn wsX1_sendHatsBack (wsV RX1 35 RJx4a65c yJx4a65c_size_8abf5 wsJx4a65c_size_8abf5) := goodIn_app (goodIn_of _ (by decide +kernel)) ggX1_sendHatsBack_Jx4a65c_size_8abf5
set_option maxRecDepth 20000 in
theorem ggX1_sendHatsBack_Jx4a65c_get_915e3 : GoodIn wsX1_sendHatsBack wsJx4a65c_get_915e3 := goodIn_r _ [12, 8, 13, 14, 15, 16, 17, 18, 19, 20, 21, 22, 23, 6, 24, 25, 36, 37, 38] (by decide +kernel) (by decide +kernel)
set_option maxRecDepth 20000 in
theorem gX1_sendHatsBack_Jx4a65c_get_915e3 : GoodIn wsX1_sendHatsBack (wsV RX1 125 RJx4a65c yJx4a65c_get_915e3 wsJx4a65c_get_915e3) := goodIn_app (goodIn_of _ (by decide +kernel)) ggX1_sendHatsBack_Jx4a65c_get_915e3
set_option maxRecDepth 20000 in
theorem ggX1_sendHatsBack_X0_putOnOwnHat : GoodIn wsX1_sendHatsBack wsX0_putOnOwnHat := goodIn_r _ [29, 30, 31, 39, 40, 41, 42, 43, 44, 45, 46, 47] (by decide +kernel) (by decide +kernel)
set_option maxRecDepth 20000 in
theorem gX1_sendHatsBack_X0_putOnOwnHat_n49 : GoodIn wsX1_sendHatsBack (wsX0_putOnOwnHat) := ggX1_sendHatsBack_X0_putOnOwnHat
theorem dX1_sendHatsBack_0 : decode cX1_sendHatsBack 0 = .ok (.iconst 0, 1) := by decide +kernel
theorem dX1_sendHatsBack_1 : decode cX1_sendHatsBack 1 = .ok (.istore_n 1, 1) := by decide +kernel
theorem dX1_sendHatsBack_2 : decode cX1_sendHatsBack 2 = .ok (.iload_n 1, 1) := by decide +kernel
theorem dX1_sendHatsBack_3 : decode cX1_sendHatsBack 3 = .ok (.aload_n 0, 1) := by decide +kernel
theorem dX1_sendHatsBack_4 : decode cX1_sendHatsBack 4 = .ok (.getfield 10, 3) := by decide +kernel
theorem dX1_sendHatsBack_7 : decode cX1_sendHatsBack 7 = .ok (.invokevirtual 35, 3) := by decide +kernel
theorem dX1_sendHatsBack_10 : decode cX1_sendHatsBack 10 = .ok (.if_icmp .ge 23, 3) := by decide +kernel
theorem dX1_sendHatsBack_13 : decode cX1_sendHatsBack 13 = .ok (.aload_n 0, 1) := by decide +kernel
theorem dX1_sendHatsBack_14 : decode cX1_sendHatsBack 14 = .ok (.getfield 10, 3) := by decide +kernel
theorem dX1_sendHatsBack_17 : decode cX1_sendHatsBack 17 = .ok (.iload_n 1, 1) := by decide +kernel
theorem dX1_sendHatsBack_18 : decode cX1_sendHatsBack 18 = .ok (.invokevirtual 125, 3) := by decide +kernel
theorem dX1_sendHatsBack_21 : decode cX1_sendHatsBack 21 = .ok (.checkcast 44, 3) := by decide +kernel
theorem dX1_sendHatsBack_24 : decode cX1_sendHatsBack 24 = .ok (.invokevirtual 49, 3) := by decide +kernel
theorem dX1_sendHatsBack_27 : decode cX1_sendHatsBack 27 = .ok (.iinc 1 1, 3) := by decide +kernel
theorem dX1_sendHatsBack_30 : decode cX1_sendHatsBack 30 = .ok (.goto (-28), 3) := by decide +kernel
theorem dX1_sendHatsBack_33 : decode cX1_sendHatsBack 33 = .ok (.return_, 1) := by decide +kernel
set_option maxRecDepth 20000 in
theorem ggX1_judgeCertificates_Jx4a65c_size_8abf5 : GoodIn wsX1_judgeCertificates wsJx4a65c_size_8abf5 := goodIn_r _ [8, 9, 67, 68, 69] (by decide +kernel) (by decide +kernel)
set_option maxRecDepth 20000 in
theorem gX1_judgeCertificates_Jx4a65c_size_8abf5 : GoodIn wsX1_judgeCertificates (wsV RX1 35 RJx4a65c yJx4a65c_size_8abf5 wsJx4a65c_size_8abf5) := goodIn_app (goodIn_of _ (by decide +kernel)) ggX1_judgeCertificates_Jx4a65c_size_8abf5
set_option maxRecDepth 20000 in
theorem ggX1_judgeCertificates_Jx4a65c_get_915e3 : GoodIn wsX1_judgeCertificates wsJx4a65c_get_915e3 := goodIn_r _ [13, 9, 14, 15, 16, 17, 18, 19, 20, 21, 22, 23, 24, 7, 25, 26, 67, 68, 69] (by decide +kernel) (by decide +kernel)
set_option maxRecDepth 20000 in
theorem gX1_judgeCertificates_Jx4a65c_get_915e3 : GoodIn wsX1_judgeCertificates (wsV RX1 125 RJx4a65c yJx4a65c_get_915e3 wsJx4a65c_get_915e3) := goodIn_app (goodIn_of _ (by decide +kernel)) ggX1_judgeCertificates_Jx4a65c_get_915e3
set_option maxRecDepth 20000 in
theorem ggX1_judgeCertificates_X0_hasCertificate : GoodIn wsX1_judgeCertificates wsX0_hasCertificate := goodIn_r _ [30, 31, 58, 59, 60, 61, 62, 63, 64, 65, 66] (by decide +kernel) (by decide +kernel)
set_option maxRecDepth 20000 in
theorem gX1_judgeCertificates_X0_hasCertificate_n129 : GoodIn wsX1_judgeCertificates (wsX0_hasCertificate) := ggX1_judgeCertificates_X0_hasCertificate
set_option maxRecDepth 20000 in
theorem ggX1_judgeCertificates_X0_hasHonestCertificate : GoodIn wsX1_judgeCertificates wsX0_hasHonestCertificate := goodIn_r _ [34, 31, 35, 36, 27, 29, 28, 30, 37, 38, 39, 40, 41, 42, 43, 44, 45, 46, 47, 48, 49, 58, 59, 60, 61, 62, 63, 64, 65, 66] (by decide +kernel) (by decide +kernel)
set_option maxRecDepth 20000 in
theorem gX1_judgeCertificates_X0_hasHonestCertificate_n132 : GoodIn wsX1_judgeCertificates (wsX0_hasHonestCertificate) := ggX1_judgeCertificates_X0_hasHonestCertificate
set_option maxRecDepth 20000 in
theorem ggX1_judgeCertificates_X0_gainOfCertificate : GoodIn wsX1_judgeCertificates wsX0_gainOfCertificate := goodIn_r _ [52, 36, 27, 29, 28, 30, 31, 53, 32, 33, 34, 35, 37, 38, 39, 40, 41, 42, 43, 44, 45, 46, 47, 48, 49, 58, 59, 60, 61, 62, 63, 64, 65, 66] (by decide +kernel) (by decide +kernel)
set_option maxRecDepth 20000 in
theorem gX1_judgeCertificates_X0_gainOfCertificate_n215 : GoodIn wsX1_judgeCertificates (wsX0_gainOfCertificate) := ggX1_judgeCertificates_X0_gainOfCertificate
theorem dX1_judgeCertificates_0 : decode cX1_judgeCertificates 0 = .ok (.iconst 0, 1) := by decide +kernel
theorem dX1_judgeCertificates_1 : decode cX1_judgeCertificates 1 = .ok (.istore_n 1, 1) := by decide +kernel
theorem dX1_judgeCertificates_2 : decode cX1_judgeCertificates 2 = .ok (.iload_n 1, 1) := by decide +kernel
theorem dX1_judgeCertificates_3 : decode cX1_judgeCertificates 3 = .ok (.aload_n 0, 1) := by decide +kernel
theorem dX1_judgeCertificates_4 : decode cX1_judgeCertificates 4 = .ok (.getfield 10, 3) := by decide +kernel
theorem dX1_judgeCertificates_7 : decode cX1_judgeCertificates 7 = .ok (.invokevirtual 35, 3) := by decide +kernel
theorem dX1_judgeCertificates_10 : decode cX1_judgeCertificates 10 = .ok (.if_icmp .ge 83, 3) := by decide +kernel
theorem dX1_judgeCertificates_13 : decode cX1_judgeCertificates 13 = .ok (.aload_n 0, 1) := by decide +kernel
theorem dX1_judgeCertificates_14 : decode cX1_judgeCertificates 14 = .ok (.getfield 10, 3) := by decide +kernel
theorem dX1_judgeCertificates_17 : decode cX1_judgeCertificates 17 = .ok (.iload_n 1, 1) := by decide +kernel
theorem dX1_judgeCertificates_18 : decode cX1_judgeCertificates 18 = .ok (.invokevirtual 125, 3) := by decide +kernel
theorem dX1_judgeCertificates_21 : decode cX1_judgeCertificates 21 = .ok (.checkcast 44, 3) := by decide +kernel
theorem dX1_judgeCertificates_24 : decode cX1_judgeCertificates 24 = .ok (.astore_n 2, 1) := by decide +kernel
theorem dX1_judgeCertificates_25 : decode cX1_judgeCertificates 25 = .ok (.aload_n 2, 1) := by decide +kernel
theorem dX1_judgeCertificates_26 : decode cX1_judgeCertificates 26 = .ok (.invokevirtual 129, 3) := by decide +kernel
theorem dX1_judgeCertificates_29 : decode cX1_judgeCertificates 29 = .ok (.ifCond .eq 14, 3) := by decide +kernel
theorem dX1_judgeCertificates_32 : decode cX1_judgeCertificates 32 = .ok (.aload_n 2, 1) := by decide +kernel
theorem dX1_judgeCertificates_33 : decode cX1_judgeCertificates 33 = .ok (.invokevirtual 132, 3) := by decide +kernel
theorem dX1_judgeCertificates_36 : decode cX1_judgeCertificates 36 = .ok (.ifCond .ne 7, 3) := by decide +kernel
theorem dX1_judgeCertificates_39 : decode cX1_judgeCertificates 39 = .ok (.iconst 1, 1) := by decide +kernel
theorem dX1_judgeCertificates_40 : decode cX1_judgeCertificates 40 = .ok (.goto 4, 3) := by decide +kernel
theorem dX1_judgeCertificates_43 : decode cX1_judgeCertificates 43 = .ok (.iconst 0, 1) := by decide +kernel
theorem dX1_judgeCertificates_44 : decode cX1_judgeCertificates 44 = .ok (.istore_n 3, 1) := by decide +kernel
theorem dX1_judgeCertificates_45 : decode cX1_judgeCertificates 45 = .ok (.aload_n 2, 1) := by decide +kernel
theorem dX1_judgeCertificates_46 : decode cX1_judgeCertificates 46 = .ok (.dup, 1) := by decide +kernel
theorem dX1_judgeCertificates_47 : decode cX1_judgeCertificates 47 = .ok (.getfield 70, 3) := by decide +kernel
theorem dX1_judgeCertificates_50 : decode cX1_judgeCertificates 50 = .ok (.aload_n 2, 1) := by decide +kernel
theorem dX1_judgeCertificates_51 : decode cX1_judgeCertificates 51 = .ok (.invokevirtual 215, 3) := by decide +kernel
theorem dX1_judgeCertificates_54 : decode cX1_judgeCertificates 54 = .ok (.iadd, 1) := by decide +kernel
theorem dX1_judgeCertificates_55 : decode cX1_judgeCertificates 55 = .ok (.putfield 70, 3) := by decide +kernel
theorem dX1_judgeCertificates_58 : decode cX1_judgeCertificates 58 = .ok (.iload_n 3, 1) := by decide +kernel
theorem dX1_judgeCertificates_59 : decode cX1_judgeCertificates 59 = .ok (.ifCond .eq 28, 3) := by decide +kernel
theorem dX1_judgeCertificates_62 : decode cX1_judgeCertificates 62 = .ok (.aload_n 2, 1) := by decide +kernel
theorem dX1_judgeCertificates_63 : decode cX1_judgeCertificates 63 = .ok (.iconst (-1), 1) := by decide +kernel
theorem dX1_judgeCertificates_64 : decode cX1_judgeCertificates 64 = .ok (.putfield 117, 3) := by decide +kernel
theorem dX1_judgeCertificates_67 : decode cX1_judgeCertificates 67 = .ok (.aload_n 2, 1) := by decide +kernel
theorem dX1_judgeCertificates_68 : decode cX1_judgeCertificates 68 = .ok (.dup, 1) := by decide +kernel
theorem dX1_judgeCertificates_69 : decode cX1_judgeCertificates 69 = .ok (.getfield 218, 3) := by decide +kernel
theorem dX1_judgeCertificates_72 : decode cX1_judgeCertificates 72 = .ok (.iconst 1, 1) := by decide +kernel
theorem dX1_judgeCertificates_73 : decode cX1_judgeCertificates 73 = .ok (.iadd, 1) := by decide +kernel
theorem dX1_judgeCertificates_74 : decode cX1_judgeCertificates 74 = .ok (.putfield 218, 3) := by decide +kernel
theorem dX1_judgeCertificates_77 : decode cX1_judgeCertificates 77 = .ok (.aload_n 0, 1) := by decide +kernel
theorem dX1_judgeCertificates_78 : decode cX1_judgeCertificates 78 = .ok (.dup, 1) := by decide +kernel
theorem dX1_judgeCertificates_79 : decode cX1_judgeCertificates 79 = .ok (.getfield 23, 3) := by decide +kernel
theorem dX1_judgeCertificates_82 : decode cX1_judgeCertificates 82 = .ok (.iconst 1, 1) := by decide +kernel
theorem dX1_judgeCertificates_83 : decode cX1_judgeCertificates 83 = .ok (.iadd, 1) := by decide +kernel
theorem dX1_judgeCertificates_84 : decode cX1_judgeCertificates 84 = .ok (.putfield 23, 3) := by decide +kernel
theorem dX1_judgeCertificates_87 : decode cX1_judgeCertificates 87 = .ok (.iinc 1 1, 3) := by decide +kernel
theorem dX1_judgeCertificates_90 : decode cX1_judgeCertificates 90 = .ok (.goto (-88), 3) := by decide +kernel
theorem dX1_judgeCertificates_93 : decode cX1_judgeCertificates 93 = .ok (.return_, 1) := by decide +kernel
set_option maxRecDepth 20000 in
theorem ggX1_bestHatFor_Jx4a65c_size_8abf5 : GoodIn wsX1_bestHatFor wsJx4a65c_size_8abf5 := goodIn_r _ [7, 8, 63, 64, 65] (by decide +kernel) (by decide +kernel)
set_option maxRecDepth 20000 in
theorem gX1_bestHatFor_Jx4a65c_size_8abf5 : GoodIn wsX1_bestHatFor (wsV RX1 35 RJx4a65c yJx4a65c_size_8abf5 wsJx4a65c_size_8abf5) := goodIn_app (goodIn_of _ (by decide +kernel)) ggX1_bestHatFor_Jx4a65c_size_8abf5
set_option maxRecDepth 20000 in
theorem ggX1_bestHatFor_Jx4a65c_get_915e3 : GoodIn wsX1_bestHatFor wsJx4a65c_get_915e3 := goodIn_r _ [12, 8, 13, 14, 15, 16, 17, 18, 19, 20, 21, 22, 23, 6, 24, 25, 63, 64, 65] (by decide +kernel) (by decide +kernel)
set_option maxRecDepth 20000 in
theorem gX1_bestHatFor_Jx4a65c_get_915e3 : GoodIn wsX1_bestHatFor (wsV RX1 125 RJx4a65c yJx4a65c_get_915e3 wsJx4a65c_get_915e3) := goodIn_app (goodIn_of _ (by decide +kernel)) ggX1_bestHatFor_Jx4a65c_get_915e3
set_option maxRecDepth 20000 in
theorem ggX1_bestHatFor_X1_canBorrow : GoodIn wsX1_bestHatFor wsX1_canBorrow := goodIn_r _ [29, 30, 31, 32, 33, 34, 35, 36, 37, 54, 55, 56, 57, 58, 59, 60, 61, 62] (by decide +kernel) (by decide +kernel)
set_option maxRecDepth 20000 in
theorem gX1_bestHatFor_X1_canBorrow : GoodIn wsX1_bestHatFor (va_wsS RX1 79 yX1_canBorrow wsX1_canBorrow) := goodIn_app (goodIn_of _ (by decide +kernel)) ggX1_bestHatFor_X1_canBorrow
set_option maxRecDepth 20000 in
theorem ggX1_bestHatFor_X1_hourOfDay : GoodIn wsX1_bestHatFor wsX1_hourOfDay := goodIn_r _ [41, 42, 50, 51, 52, 53] (by decide +kernel) (by decide +kernel)
set_option maxRecDepth 20000 in
theorem gX1_bestHatFor_X1_hourOfDay : GoodIn wsX1_bestHatFor (wsV RX1 107 RX1 yX1_hourOfDay wsX1_hourOfDay) := goodIn_app (goodIn_of _ (by decide +kernel)) ggX1_bestHatFor_X1_hourOfDay
set_option maxRecDepth 20000 in
theorem ggX1_bestHatFor_X1_naturalShadow : GoodIn wsX1_bestHatFor wsX1_naturalShadow := goodIn_r _ [45, 46, 47, 48, 49] (by decide +kernel) (by decide +kernel)
set_option maxRecDepth 20000 in
theorem gX1_bestHatFor_X1_naturalShadow : GoodIn wsX1_bestHatFor (va_wsS RX1 224 yX1_naturalShadow wsX1_naturalShadow) := goodIn_app (goodIn_of _ (by decide +kernel)) ggX1_bestHatFor_X1_naturalShadow
theorem dX1_bestHatFor_0 : decode cX1_bestHatFor 0 = .ok (.iconst (-1), 1) := by decide +kernel
theorem dX1_bestHatFor_1 : decode cX1_bestHatFor 1 = .ok (.istore_n 2, 1) := by decide +kernel
theorem dX1_bestHatFor_2 : decode cX1_bestHatFor 2 = .ok (.iconst 0, 1) := by decide +kernel
theorem dX1_bestHatFor_3 : decode cX1_bestHatFor 3 = .ok (.istore_n 3, 1) := by decide +kernel
theorem dX1_bestHatFor_4 : decode cX1_bestHatFor 4 = .ok (.iconst 0, 1) := by decide +kernel
theorem dX1_bestHatFor_5 : decode cX1_bestHatFor 5 = .ok (.istore 4, 2) := by decide +kernel
theorem dX1_bestHatFor_7 : decode cX1_bestHatFor 7 = .ok (.iload 4, 2) := by decide +kernel
theorem dX1_bestHatFor_9 : decode cX1_bestHatFor 9 = .ok (.aload_n 0, 1) := by decide +kernel
theorem dX1_bestHatFor_10 : decode cX1_bestHatFor 10 = .ok (.getfield 10, 3) := by decide +kernel
theorem dX1_bestHatFor_13 : decode cX1_bestHatFor 13 = .ok (.invokevirtual 35, 3) := by decide +kernel
theorem dX1_bestHatFor_16 : decode cX1_bestHatFor 16 = .ok (.if_icmp .ge 68, 3) := by decide +kernel
theorem dX1_bestHatFor_19 : decode cX1_bestHatFor 19 = .ok (.aload_n 0, 1) := by decide +kernel
theorem dX1_bestHatFor_20 : decode cX1_bestHatFor 20 = .ok (.getfield 10, 3) := by decide +kernel
theorem dX1_bestHatFor_23 : decode cX1_bestHatFor 23 = .ok (.iload 4, 2) := by decide +kernel
theorem dX1_bestHatFor_25 : decode cX1_bestHatFor 25 = .ok (.invokevirtual 125, 3) := by decide +kernel
theorem dX1_bestHatFor_28 : decode cX1_bestHatFor 28 = .ok (.checkcast 44, 3) := by decide +kernel
theorem dX1_bestHatFor_31 : decode cX1_bestHatFor 31 = .ok (.astore 5, 2) := by decide +kernel
theorem dX1_bestHatFor_33 : decode cX1_bestHatFor 33 = .ok (.aload_n 1, 1) := by decide +kernel
theorem dX1_bestHatFor_34 : decode cX1_bestHatFor 34 = .ok (.aload 5, 2) := by decide +kernel
theorem dX1_bestHatFor_36 : decode cX1_bestHatFor 36 = .ok (.invokestatic 79, 3) := by decide +kernel
theorem dX1_bestHatFor_39 : decode cX1_bestHatFor 39 = .ok (.ifCond .eq 39, 3) := by decide +kernel
theorem dX1_bestHatFor_42 : decode cX1_bestHatFor 42 = .ok (.aload_n 1, 1) := by decide +kernel
theorem dX1_bestHatFor_43 : decode cX1_bestHatFor 43 = .ok (.getfield 221, 3) := by decide +kernel
theorem dX1_bestHatFor_46 : decode cX1_bestHatFor 46 = .ok (.aload 5, 2) := by decide +kernel
theorem dX1_bestHatFor_48 : decode cX1_bestHatFor 48 = .ok (.getfield 89, 3) := by decide +kernel
theorem dX1_bestHatFor_51 : decode cX1_bestHatFor 51 = .ok (.iadd, 1) := by decide +kernel
theorem dX1_bestHatFor_52 : decode cX1_bestHatFor 52 = .ok (.aload_n 0, 1) := by decide +kernel
theorem dX1_bestHatFor_53 : decode cX1_bestHatFor 53 = .ok (.invokevirtual 107, 3) := by decide +kernel
theorem dX1_bestHatFor_56 : decode cX1_bestHatFor 56 = .ok (.invokestatic 224, 3) := by decide +kernel
theorem dX1_bestHatFor_59 : decode cX1_bestHatFor 59 = .ok (.istore 6, 2) := by decide +kernel
theorem dX1_bestHatFor_61 : decode cX1_bestHatFor 61 = .ok (.iload_n 2, 1) := by decide +kernel
theorem dX1_bestHatFor_62 : decode cX1_bestHatFor 62 = .ok (.iconst (-1), 1) := by decide +kernel
theorem dX1_bestHatFor_63 : decode cX1_bestHatFor 63 = .ok (.if_icmp .eq 9, 3) := by decide +kernel
theorem dX1_bestHatFor_66 : decode cX1_bestHatFor 66 = .ok (.iload 6, 2) := by decide +kernel
theorem dX1_bestHatFor_68 : decode cX1_bestHatFor 68 = .ok (.iload_n 3, 1) := by decide +kernel
theorem dX1_bestHatFor_69 : decode cX1_bestHatFor 69 = .ok (.if_icmp .le 9, 3) := by decide +kernel
theorem dX1_bestHatFor_72 : decode cX1_bestHatFor 72 = .ok (.iload 4, 2) := by decide +kernel
theorem dX1_bestHatFor_74 : decode cX1_bestHatFor 74 = .ok (.istore_n 2, 1) := by decide +kernel
theorem dX1_bestHatFor_75 : decode cX1_bestHatFor 75 = .ok (.iload 6, 2) := by decide +kernel
theorem dX1_bestHatFor_77 : decode cX1_bestHatFor 77 = .ok (.istore_n 3, 1) := by decide +kernel
theorem dX1_bestHatFor_78 : decode cX1_bestHatFor 78 = .ok (.iinc 4 1, 3) := by decide +kernel
theorem dX1_bestHatFor_81 : decode cX1_bestHatFor 81 = .ok (.goto (-74), 3) := by decide +kernel
theorem dX1_bestHatFor_84 : decode cX1_bestHatFor 84 = .ok (.iload_n 2, 1) := by decide +kernel
theorem dX1_bestHatFor_85 : decode cX1_bestHatFor 85 = .ok (.ireturn, 1) := by decide +kernel
set_option maxRecDepth 20000 in
theorem ggX1_hoursToLongestShadow_X1_hourOfDay : GoodIn wsX1_hoursToLongestShadow wsX1_hourOfDay := goodIn_r _ [5, 6, 36, 37, 38, 39] (by decide +kernel) (by decide +kernel)
set_option maxRecDepth 20000 in
theorem gX1_hoursToLongestShadow_X1_hourOfDay : GoodIn wsX1_hoursToLongestShadow (wsV RX1 107 RX1 yX1_hourOfDay wsX1_hourOfDay) := goodIn_app (goodIn_of _ (by decide +kernel)) ggX1_hoursToLongestShadow_X1_hourOfDay
set_option maxRecDepth 20000 in
theorem ggX1_hoursToLongestShadow_X0_shadowAt : GoodIn wsX1_hoursToLongestShadow wsX0_shadowAt := goodIn_r _ [10, 11, 12, 13, 14, 15, 8, 16, 17, 18, 19, 4, 20, 21, 22, 23, 24, 40, 41, 42, 43, 44, 45, 46, 47, 48] (by decide +kernel) (by decide +kernel)
set_option maxRecDepth 20000 in
theorem gX1_hoursToLongestShadow_X0_shadowAt_n113 : GoodIn wsX1_hoursToLongestShadow (wsX0_shadowAt) := ggX1_hoursToLongestShadow_X0_shadowAt
set_option maxRecDepth 20000 in
theorem ggX1_hoursToLongestShadow_X1_shadowAhead : GoodIn wsX1_hoursToLongestShadow wsX1_shadowAhead := goodIn_r _ [28, 1, 2, 3, 4, 5, 6, 29, 30, 31, 32, 7, 8, 9, 10, 11, 12, 13, 14, 15, 16, 17, 18, 19, 20, 21, 22, 23, 24, 33, 34, 35, 36, 37, 38, 39, 40, 41, 42, 43, 44, 45, 46, 47, 48] (by decide +kernel) (by decide +kernel)
set_option maxRecDepth 20000 in
theorem gX1_hoursToLongestShadow_X1_shadowAhead : GoodIn wsX1_hoursToLongestShadow (wsV RX1 228 RX1 yX1_shadowAhead wsX1_shadowAhead) := goodIn_app (goodIn_of _ (by decide +kernel)) ggX1_hoursToLongestShadow_X1_shadowAhead
theorem dX1_hoursToLongestShadow_0 : decode cX1_hoursToLongestShadow 0 = .ok (.iconst 0, 1) := by decide +kernel
theorem dX1_hoursToLongestShadow_1 : decode cX1_hoursToLongestShadow 1 = .ok (.istore_n 2, 1) := by decide +kernel
theorem dX1_hoursToLongestShadow_2 : decode cX1_hoursToLongestShadow 2 = .ok (.aload_n 1, 1) := by decide +kernel
theorem dX1_hoursToLongestShadow_3 : decode cX1_hoursToLongestShadow 3 = .ok (.aload_n 0, 1) := by decide +kernel
theorem dX1_hoursToLongestShadow_4 : decode cX1_hoursToLongestShadow 4 = .ok (.invokevirtual 107, 3) := by decide +kernel
theorem dX1_hoursToLongestShadow_7 : decode cX1_hoursToLongestShadow 7 = .ok (.invokevirtual 113, 3) := by decide +kernel
theorem dX1_hoursToLongestShadow_10 : decode cX1_hoursToLongestShadow 10 = .ok (.istore_n 3, 1) := by decide +kernel
theorem dX1_hoursToLongestShadow_11 : decode cX1_hoursToLongestShadow 11 = .ok (.iconst 1, 1) := by decide +kernel
theorem dX1_hoursToLongestShadow_12 : decode cX1_hoursToLongestShadow 12 = .ok (.istore 4, 2) := by decide +kernel
theorem dX1_hoursToLongestShadow_14 : decode cX1_hoursToLongestShadow 14 = .ok (.iload 4, 2) := by decide +kernel
theorem dX1_hoursToLongestShadow_16 : decode cX1_hoursToLongestShadow 16 = .ok (.bipush 24, 2) := by decide +kernel
theorem dX1_hoursToLongestShadow_18 : decode cX1_hoursToLongestShadow 18 = .ok (.if_icmp .ge 30, 3) := by decide +kernel
theorem dX1_hoursToLongestShadow_21 : decode cX1_hoursToLongestShadow 21 = .ok (.aload_n 0, 1) := by decide +kernel
theorem dX1_hoursToLongestShadow_22 : decode cX1_hoursToLongestShadow 22 = .ok (.aload_n 1, 1) := by decide +kernel
theorem dX1_hoursToLongestShadow_23 : decode cX1_hoursToLongestShadow 23 = .ok (.iload 4, 2) := by decide +kernel
theorem dX1_hoursToLongestShadow_25 : decode cX1_hoursToLongestShadow 25 = .ok (.invokevirtual 228, 3) := by decide +kernel
theorem dX1_hoursToLongestShadow_28 : decode cX1_hoursToLongestShadow 28 = .ok (.istore 5, 2) := by decide +kernel
theorem dX1_hoursToLongestShadow_30 : decode cX1_hoursToLongestShadow 30 = .ok (.iload 5, 2) := by decide +kernel
theorem dX1_hoursToLongestShadow_32 : decode cX1_hoursToLongestShadow 32 = .ok (.iload_n 3, 1) := by decide +kernel
theorem dX1_hoursToLongestShadow_33 : decode cX1_hoursToLongestShadow 33 = .ok (.if_icmp .le 9, 3) := by decide +kernel
theorem dX1_hoursToLongestShadow_36 : decode cX1_hoursToLongestShadow 36 = .ok (.iload 4, 2) := by decide +kernel
theorem dX1_hoursToLongestShadow_38 : decode cX1_hoursToLongestShadow 38 = .ok (.istore_n 2, 1) := by decide +kernel
theorem dX1_hoursToLongestShadow_39 : decode cX1_hoursToLongestShadow 39 = .ok (.iload 5, 2) := by decide +kernel
theorem dX1_hoursToLongestShadow_41 : decode cX1_hoursToLongestShadow 41 = .ok (.istore_n 3, 1) := by decide +kernel
theorem dX1_hoursToLongestShadow_42 : decode cX1_hoursToLongestShadow 42 = .ok (.iinc 4 1, 3) := by decide +kernel
theorem dX1_hoursToLongestShadow_45 : decode cX1_hoursToLongestShadow 45 = .ok (.goto (-31), 3) := by decide +kernel
theorem dX1_hoursToLongestShadow_48 : decode cX1_hoursToLongestShadow 48 = .ok (.iload_n 2, 1) := by decide +kernel
theorem dX1_hoursToLongestShadow_49 : decode cX1_hoursToLongestShadow 49 = .ok (.ireturn, 1) := by decide +kernel
set_option maxRecDepth 20000 in
theorem ggX1_shadowAhead_X1_hourOfDay : GoodIn wsX1_shadowAhead wsX1_hourOfDay := goodIn_r _ [5, 6, 32, 33, 34, 35] (by decide +kernel) (by decide +kernel)
set_option maxRecDepth 20000 in
theorem gX1_shadowAhead_X1_hourOfDay : GoodIn wsX1_shadowAhead (wsV RX1 107 RX1 yX1_hourOfDay wsX1_hourOfDay) := goodIn_app (goodIn_of _ (by decide +kernel)) ggX1_shadowAhead_X1_hourOfDay
set_option maxRecDepth 20000 in
theorem ggX1_shadowAhead_X1_hoursUntilAudit : GoodIn wsX1_shadowAhead wsX1_hoursUntilAudit := goodIn_r _ [10, 1, 2, 3, 4, 5, 6, 32, 33, 34, 35] (by decide +kernel) (by decide +kernel)
set_option maxRecDepth 20000 in
theorem gX1_shadowAhead_X1_hoursUntilAudit : GoodIn wsX1_shadowAhead (wsV RX1 232 RX1 yX1_hoursUntilAudit wsX1_hoursUntilAudit) := goodIn_app (goodIn_of _ (by decide +kernel)) ggX1_shadowAhead_X1_hoursUntilAudit
set_option maxRecDepth 20000 in
theorem ggX1_shadowAhead_X0_shadowAt : GoodIn wsX1_shadowAhead wsX0_shadowAt := goodIn_r _ [14, 15, 16, 17, 18, 19, 12, 20, 21, 22, 23, 4, 24, 25, 26, 27, 28, 36, 37, 38, 39, 40, 41, 42, 43, 44] (by decide +kernel) (by decide +kernel)
set_option maxRecDepth 20000 in
theorem gX1_shadowAhead_X0_shadowAt_n113 : GoodIn wsX1_shadowAhead (wsX0_shadowAt) := ggX1_shadowAhead_X0_shadowAt
set_option maxRecDepth 20000 in
theorem ggX1_shadowAhead_X0_honestShadowAt : GoodIn wsX1_shadowAhead wsX0_honestShadowAt := goodIn_r _ [31, 15, 22, 23, 4, 24, 25, 26, 27, 28, 36, 37, 38, 39, 40, 41, 42, 43, 44] (by decide +kernel) (by decide +kernel)
set_option maxRecDepth 20000 in
theorem gX1_shadowAhead_X0_honestShadowAt_n146 : GoodIn wsX1_shadowAhead (wsX0_honestShadowAt) := ggX1_shadowAhead_X0_honestShadowAt
theorem dX1_shadowAhead_0 : decode cX1_shadowAhead 0 = .ok (.aload_n 0, 1) := by decide +kernel
theorem dX1_shadowAhead_1 : decode cX1_shadowAhead 1 = .ok (.invokevirtual 107, 3) := by decide +kernel
theorem dX1_shadowAhead_4 : decode cX1_shadowAhead 4 = .ok (.iload_n 2, 1) := by decide +kernel
theorem dX1_shadowAhead_5 : decode cX1_shadowAhead 5 = .ok (.iadd, 1) := by decide +kernel
theorem dX1_shadowAhead_6 : decode cX1_shadowAhead 6 = .ok (.bipush 24, 2) := by decide +kernel
theorem dX1_shadowAhead_8 : decode cX1_shadowAhead 8 = .ok (.irem, 1) := by decide +kernel
theorem dX1_shadowAhead_9 : decode cX1_shadowAhead 9 = .ok (.istore_n 3, 1) := by decide +kernel
theorem dX1_shadowAhead_10 : decode cX1_shadowAhead 10 = .ok (.iload_n 2, 1) := by decide +kernel
theorem dX1_shadowAhead_11 : decode cX1_shadowAhead 11 = .ok (.aload_n 0, 1) := by decide +kernel
theorem dX1_shadowAhead_12 : decode cX1_shadowAhead 12 = .ok (.invokevirtual 232, 3) := by decide +kernel
theorem dX1_shadowAhead_15 : decode cX1_shadowAhead 15 = .ok (.if_icmp .ge 11, 3) := by decide +kernel
theorem dX1_shadowAhead_18 : decode cX1_shadowAhead 18 = .ok (.aload_n 1, 1) := by decide +kernel
theorem dX1_shadowAhead_19 : decode cX1_shadowAhead 19 = .ok (.iload_n 3, 1) := by decide +kernel
theorem dX1_shadowAhead_20 : decode cX1_shadowAhead 20 = .ok (.invokevirtual 113, 3) := by decide +kernel
theorem dX1_shadowAhead_23 : decode cX1_shadowAhead 23 = .ok (.goto 8, 3) := by decide +kernel
theorem dX1_shadowAhead_26 : decode cX1_shadowAhead 26 = .ok (.aload_n 1, 1) := by decide +kernel
theorem dX1_shadowAhead_27 : decode cX1_shadowAhead 27 = .ok (.iload_n 3, 1) := by decide +kernel
theorem dX1_shadowAhead_28 : decode cX1_shadowAhead 28 = .ok (.invokevirtual 146, 3) := by decide +kernel
theorem dX1_shadowAhead_31 : decode cX1_shadowAhead 31 = .ok (.ireturn, 1) := by decide +kernel
theorem dX1_naturalShadow_0 : decode cX1_naturalShadow 0 = .ok (.iload_n 1, 1) := by decide +kernel
theorem dX1_naturalShadow_1 : decode cX1_naturalShadow 1 = .ok (.bipush 7, 2) := by decide +kernel
theorem dX1_naturalShadow_3 : decode cX1_naturalShadow 3 = .ok (.if_icmp .lt 9, 3) := by decide +kernel
theorem dX1_naturalShadow_6 : decode cX1_naturalShadow 6 = .ok (.iload_n 1, 1) := by decide +kernel
theorem dX1_naturalShadow_7 : decode cX1_naturalShadow 7 = .ok (.bipush 17, 2) := by decide +kernel
theorem dX1_naturalShadow_9 : decode cX1_naturalShadow 9 = .ok (.if_icmp .le 5, 3) := by decide +kernel
theorem dX1_naturalShadow_12 : decode cX1_naturalShadow 12 = .ok (.iconst 0, 1) := by decide +kernel
theorem dX1_naturalShadow_13 : decode cX1_naturalShadow 13 = .ok (.ireturn, 1) := by decide +kernel
theorem dX1_naturalShadow_14 : decode cX1_naturalShadow 14 = .ok (.iload_n 1, 1) := by decide +kernel
theorem dX1_naturalShadow_15 : decode cX1_naturalShadow 15 = .ok (.bipush 12, 2) := by decide +kernel
theorem dX1_naturalShadow_17 : decode cX1_naturalShadow 17 = .ok (.isub, 1) := by decide +kernel
theorem dX1_naturalShadow_18 : decode cX1_naturalShadow 18 = .ok (.invokestatic 235, 3) := by decide +kernel
theorem dX1_naturalShadow_21 : decode cX1_naturalShadow 21 = .ok (.istore_n 2, 1) := by decide +kernel
theorem dX1_naturalShadow_22 : decode cX1_naturalShadow 22 = .ok (.iload_n 0, 1) := by decide +kernel
theorem dX1_naturalShadow_23 : decode cX1_naturalShadow 23 = .ok (.iload_n 2, 1) := by decide +kernel
theorem dX1_naturalShadow_24 : decode cX1_naturalShadow 24 = .ok (.imul, 1) := by decide +kernel
theorem dX1_naturalShadow_25 : decode cX1_naturalShadow 25 = .ok (.iconst 2, 1) := by decide +kernel
theorem dX1_naturalShadow_26 : decode cX1_naturalShadow 26 = .ok (.idiv, 1) := by decide +kernel
theorem dX1_naturalShadow_27 : decode cX1_naturalShadow 27 = .ok (.ireturn, 1) := by decide +kernel
theorem dX1_mixed_0 : decode cX1_mixed 0 = .ok (.lload_n 0, 1) := by decide +kernel
theorem dX1_mixed_1 : decode cX1_mixed 1 = .ok (.ldc2_w 240, 3) := by decide +kernel
theorem dX1_mixed_4 : decode cX1_mixed 4 = .ok (.lmul, 1) := by decide +kernel
theorem dX1_mixed_5 : decode cX1_mixed 5 = .ok (.lload_n 2, 1) := by decide +kernel
theorem dX1_mixed_6 : decode cX1_mixed 6 = .ok (.ladd, 1) := by decide +kernel
theorem dX1_mixed_7 : decode cX1_mixed 7 = .ok (.lreturn, 1) := by decide +kernel
set_option maxRecDepth 20000 in
theorem ggX1_mixedWithMember_X1_mixed : GoodIn wsX1_mixedWithMember wsX1_mixed := goodIn_r _ [4, 5] (by decide +kernel) (by decide +kernel)
set_option maxRecDepth 20000 in
theorem gX1_mixedWithMember_X1_mixed : GoodIn wsX1_mixedWithMember (va_wsS RX1 169 yX1_mixed wsX1_mixed) := goodIn_app (goodIn_of _ (by decide +kernel)) ggX1_mixedWithMember_X1_mixed
set_option maxRecDepth 20000 in
theorem ggX1_mixedWithMember_X0_numberOfHatOwner : GoodIn wsX1_mixedWithMember wsX0_numberOfHatOwner := goodIn_r _ [9, 10, 11, 117, 118, 119, 120, 121, 122, 123, 124, 125] (by decide +kernel) (by decide +kernel)
set_option maxRecDepth 20000 in
theorem gX1_mixedWithMember_X0_numberOfHatOwner_n135 : GoodIn wsX1_mixedWithMember (wsX0_numberOfHatOwner) := ggX1_mixedWithMember_X0_numberOfHatOwner
set_option maxRecDepth 20000 in
theorem ggX1_mixedWithMember_X0_heightOfWornHat : GoodIn wsX1_mixedWithMember wsX0_heightOfWornHat := goodIn_r _ [14, 10, 15, 117, 118, 119, 120, 121, 122, 123, 124, 125] (by decide +kernel) (by decide +kernel)
set_option maxRecDepth 20000 in
theorem gX1_mixedWithMember_X0_heightOfWornHat_n138 : GoodIn wsX1_mixedWithMember (wsX0_heightOfWornHat) := ggX1_mixedWithMember_X0_heightOfWornHat
set_option maxRecDepth 20000 in
theorem ggX1_mixedWithMember_X1_isHatLent : GoodIn wsX1_mixedWithMember wsX1_isHatLent := goodIn_r _ [19, 20, 21, 22, 23, 24, 25, 26, 27, 28, 29, 30, 31, 32, 33, 34, 35, 36, 37, 38, 39, 40, 41, 42, 43, 44, 126, 127, 128, 129, 117, 118, 119, 120, 121, 122, 123, 124, 125, 130, 131, 132] (by decide +kernel) (by decide +kernel)
set_option maxRecDepth 20000 in
theorem gX1_mixedWithMember_X1_isHatLent : GoodIn wsX1_mixedWithMember (wsV RX1 98 RX1 yX1_isHatLent wsX1_isHatLent) := goodIn_app (goodIn_of _ (by decide +kernel)) ggX1_mixedWithMember_X1_isHatLent
set_option maxRecDepth 20000 in
theorem ggX1_mixedWithMember_X0_isOut : GoodIn wsX1_mixedWithMember wsX0_isOut := goodIn_r _ [47, 48, 117, 118, 119, 120, 121, 122, 123, 124, 125] (by decide +kernel) (by decide +kernel)
set_option maxRecDepth 20000 in
theorem gX1_mixedWithMember_X0_isOut_n102 : GoodIn wsX1_mixedWithMember (wsX0_isOut) := ggX1_mixedWithMember_X0_isOut
set_option maxRecDepth 20000 in
theorem ggX1_mixedWithMember_X1_hourOfDay : GoodIn wsX1_mixedWithMember wsX1_hourOfDay := goodIn_r _ [52, 53, 126, 127, 128, 129] (by decide +kernel) (by decide +kernel)
set_option maxRecDepth 20000 in
theorem gX1_mixedWithMember_X1_hourOfDay : GoodIn wsX1_mixedWithMember (wsV RX1 107 RX1 yX1_hourOfDay wsX1_hourOfDay) := goodIn_app (goodIn_of _ (by decide +kernel)) ggX1_mixedWithMember_X1_hourOfDay
set_option maxRecDepth 20000 in
theorem ggX1_mixedWithMember_X0_shadowAt : GoodIn wsX1_mixedWithMember wsX0_shadowAt := goodIn_r _ [56, 57, 58, 59, 12, 13, 7, 14, 10, 15, 60, 3, 61, 62, 63, 64, 65, 117, 118, 119, 120, 121, 122, 123, 124, 125] (by decide +kernel) (by decide +kernel)
set_option maxRecDepth 20000 in
theorem gX1_mixedWithMember_X0_shadowAt_n113 : GoodIn wsX1_mixedWithMember (wsX0_shadowAt) := ggX1_mixedWithMember_X0_shadowAt
set_option maxRecDepth 20000 in
theorem ggX1_mixedWithMember_X0_gainAtAudit : GoodIn wsX1_mixedWithMember wsX0_gainAtAudit := goodIn_r _ [68, 69, 70, 71, 7, 72, 73, 74, 75, 76, 77, 78, 79, 80, 81, 82, 83, 84, 85, 86, 57, 15, 60, 3, 61, 62, 63, 64, 65, 87, 88, 89, 90, 58, 117, 118, 119, 120, 121, 122, 123, 124, 125] (by decide +kernel) (by decide +kernel)
set_option maxRecDepth 20000 in
theorem gX1_mixedWithMember_X0_gainAtAudit_n151 : GoodIn wsX1_mixedWithMember (wsX0_gainAtAudit) := ggX1_mixedWithMember_X0_gainAtAudit
set_option maxRecDepth 20000 in
theorem ggX1_mixedWithMember_X1_bestHatFor : GoodIn wsX1_mixedWithMember wsX1_bestHatFor := goodIn_r _ [94, 20, 21, 22, 23, 24, 25, 26, 27, 28, 29, 30, 31, 32, 33, 34, 35, 36, 37, 38, 39, 40, 41, 42, 43, 44, 95, 96, 3, 97, 98, 7, 99, 100, 10, 101, 102, 103, 49, 50, 51, 52, 53, 104, 60, 61, 62, 63, 64, 65, 126, 127, 128, 129, 117, 118, 119, 120, 121, 122, 123, 124, 125, 130, 131, 132] (by decide +kernel) (by decide +kernel)
set_option maxRecDepth 20000 in
theorem gX1_mixedWithMember_X1_bestHatFor : GoodIn wsX1_mixedWithMember (wsV RX1 154 RX1 yX1_bestHatFor wsX1_bestHatFor) := goodIn_app (goodIn_of _ (by decide +kernel)) ggX1_mixedWithMember_X1_bestHatFor
set_option maxRecDepth 20000 in
theorem ggX1_mixedWithMember_X1_hoursToLongestShadow : GoodIn wsX1_mixedWithMember wsX1_hoursToLongestShadow := goodIn_r _ [108, 49, 50, 51, 3, 52, 53, 54, 7, 55, 56, 57, 58, 59, 12, 13, 14, 10, 15, 60, 61, 62, 63, 64, 65, 109, 110, 111, 112, 113, 114, 115, 116, 84, 85, 86, 126, 127, 128, 129, 117, 118, 119, 120, 121, 122, 123, 124, 125] (by decide +kernel) (by decide +kernel)
set_option maxRecDepth 20000 in
theorem gX1_mixedWithMember_X1_hoursToLongestShadow : GoodIn wsX1_mixedWithMember (wsV RX1 158 RX1 yX1_hoursToLongestShadow wsX1_hoursToLongestShadow) := goodIn_app (goodIn_of _ (by decide +kernel)) ggX1_mixedWithMember_X1_hoursToLongestShadow
theorem dX1_mixedWithMember_0 : decode cX1_mixedWithMember 0 = .ok (.lload_n 1, 1) := by decide +kernel
theorem dX1_mixedWithMember_1 : decode cX1_mixedWithMember 1 = .ok (.lstore 4, 2) := by decide +kernel
theorem dX1_mixedWithMember_3 : decode cX1_mixedWithMember 3 = .ok (.lload 4, 2) := by decide +kernel
theorem dX1_mixedWithMember_5 : decode cX1_mixedWithMember 5 = .ok (.aload_n 3, 1) := by decide +kernel
theorem dX1_mixedWithMember_6 : decode cX1_mixedWithMember 6 = .ok (.getfield 65, 3) := by decide +kernel
theorem dX1_mixedWithMember_9 : decode cX1_mixedWithMember 9 = .ok (.i2l, 1) := by decide +kernel
theorem dX1_mixedWithMember_10 : decode cX1_mixedWithMember 10 = .ok (.invokestatic 169, 3) := by decide +kernel
theorem dX1_mixedWithMember_13 : decode cX1_mixedWithMember 13 = .ok (.lstore 4, 2) := by decide +kernel
theorem dX1_mixedWithMember_15 : decode cX1_mixedWithMember 15 = .ok (.lload 4, 2) := by decide +kernel
theorem dX1_mixedWithMember_17 : decode cX1_mixedWithMember 17 = .ok (.aload_n 3, 1) := by decide +kernel
theorem dX1_mixedWithMember_18 : decode cX1_mixedWithMember 18 = .ok (.getfield 70, 3) := by decide +kernel
theorem dX1_mixedWithMember_21 : decode cX1_mixedWithMember 21 = .ok (.i2l, 1) := by decide +kernel
theorem dX1_mixedWithMember_22 : decode cX1_mixedWithMember 22 = .ok (.invokestatic 169, 3) := by decide +kernel
theorem dX1_mixedWithMember_25 : decode cX1_mixedWithMember 25 = .ok (.lstore 4, 2) := by decide +kernel
theorem dX1_mixedWithMember_27 : decode cX1_mixedWithMember 27 = .ok (.lload 4, 2) := by decide +kernel
theorem dX1_mixedWithMember_29 : decode cX1_mixedWithMember 29 = .ok (.aload_n 3, 1) := by decide +kernel
theorem dX1_mixedWithMember_30 : decode cX1_mixedWithMember 30 = .ok (.invokevirtual 135, 3) := by decide +kernel
theorem dX1_mixedWithMember_33 : decode cX1_mixedWithMember 33 = .ok (.i2l, 1) := by decide +kernel
theorem dX1_mixedWithMember_34 : decode cX1_mixedWithMember 34 = .ok (.invokestatic 169, 3) := by decide +kernel
theorem dX1_mixedWithMember_37 : decode cX1_mixedWithMember 37 = .ok (.lstore 4, 2) := by decide +kernel
theorem dX1_mixedWithMember_39 : decode cX1_mixedWithMember 39 = .ok (.lload 4, 2) := by decide +kernel
theorem dX1_mixedWithMember_41 : decode cX1_mixedWithMember 41 = .ok (.aload_n 3, 1) := by decide +kernel
theorem dX1_mixedWithMember_42 : decode cX1_mixedWithMember 42 = .ok (.invokevirtual 138, 3) := by decide +kernel
theorem dX1_mixedWithMember_45 : decode cX1_mixedWithMember 45 = .ok (.i2l, 1) := by decide +kernel
theorem dX1_mixedWithMember_46 : decode cX1_mixedWithMember 46 = .ok (.invokestatic 169, 3) := by decide +kernel
theorem dX1_mixedWithMember_49 : decode cX1_mixedWithMember 49 = .ok (.lstore 4, 2) := by decide +kernel
theorem dX1_mixedWithMember_51 : decode cX1_mixedWithMember 51 = .ok (.lload 4, 2) := by decide +kernel
theorem dX1_mixedWithMember_53 : decode cX1_mixedWithMember 53 = .ok (.aload_n 0, 1) := by decide +kernel
theorem dX1_mixedWithMember_54 : decode cX1_mixedWithMember 54 = .ok (.aload_n 3, 1) := by decide +kernel
theorem dX1_mixedWithMember_55 : decode cX1_mixedWithMember 55 = .ok (.invokevirtual 98, 3) := by decide +kernel
theorem dX1_mixedWithMember_58 : decode cX1_mixedWithMember 58 = .ok (.ifCond .eq 7, 3) := by decide +kernel
theorem dX1_mixedWithMember_61 : decode cX1_mixedWithMember 61 = .ok (.lconst 1, 1) := by decide +kernel
theorem dX1_mixedWithMember_62 : decode cX1_mixedWithMember 62 = .ok (.goto 4, 3) := by decide +kernel
theorem dX1_mixedWithMember_65 : decode cX1_mixedWithMember 65 = .ok (.lconst 0, 1) := by decide +kernel
theorem dX1_mixedWithMember_66 : decode cX1_mixedWithMember 66 = .ok (.invokestatic 169, 3) := by decide +kernel
theorem dX1_mixedWithMember_69 : decode cX1_mixedWithMember 69 = .ok (.lstore 4, 2) := by decide +kernel
theorem dX1_mixedWithMember_71 : decode cX1_mixedWithMember 71 = .ok (.lload 4, 2) := by decide +kernel
theorem dX1_mixedWithMember_73 : decode cX1_mixedWithMember 73 = .ok (.aload_n 3, 1) := by decide +kernel
theorem dX1_mixedWithMember_74 : decode cX1_mixedWithMember 74 = .ok (.invokevirtual 102, 3) := by decide +kernel
theorem dX1_mixedWithMember_77 : decode cX1_mixedWithMember 77 = .ok (.ifCond .eq 7, 3) := by decide +kernel
theorem dX1_mixedWithMember_80 : decode cX1_mixedWithMember 80 = .ok (.lconst 1, 1) := by decide +kernel
theorem dX1_mixedWithMember_81 : decode cX1_mixedWithMember 81 = .ok (.goto 4, 3) := by decide +kernel
theorem dX1_mixedWithMember_84 : decode cX1_mixedWithMember 84 = .ok (.lconst 0, 1) := by decide +kernel
theorem dX1_mixedWithMember_85 : decode cX1_mixedWithMember 85 = .ok (.invokestatic 169, 3) := by decide +kernel
theorem dX1_mixedWithMember_88 : decode cX1_mixedWithMember 88 = .ok (.lstore 4, 2) := by decide +kernel
theorem dX1_mixedWithMember_90 : decode cX1_mixedWithMember 90 = .ok (.lload 4, 2) := by decide +kernel
theorem dX1_mixedWithMember_92 : decode cX1_mixedWithMember 92 = .ok (.aload_n 3, 1) := by decide +kernel
theorem dX1_mixedWithMember_93 : decode cX1_mixedWithMember 93 = .ok (.aload_n 0, 1) := by decide +kernel
theorem dX1_mixedWithMember_94 : decode cX1_mixedWithMember 94 = .ok (.invokevirtual 107, 3) := by decide +kernel
theorem dX1_mixedWithMember_97 : decode cX1_mixedWithMember 97 = .ok (.invokevirtual 113, 3) := by decide +kernel
theorem dX1_mixedWithMember_100 : decode cX1_mixedWithMember 100 = .ok (.i2l, 1) := by decide +kernel
theorem dX1_mixedWithMember_101 : decode cX1_mixedWithMember 101 = .ok (.invokestatic 169, 3) := by decide +kernel
theorem dX1_mixedWithMember_104 : decode cX1_mixedWithMember 104 = .ok (.lstore 4, 2) := by decide +kernel
theorem dX1_mixedWithMember_106 : decode cX1_mixedWithMember 106 = .ok (.lload 4, 2) := by decide +kernel
theorem dX1_mixedWithMember_108 : decode cX1_mixedWithMember 108 = .ok (.aload_n 3, 1) := by decide +kernel
theorem dX1_mixedWithMember_109 : decode cX1_mixedWithMember 109 = .ok (.getfield 117, 3) := by decide +kernel
theorem dX1_mixedWithMember_112 : decode cX1_mixedWithMember 112 = .ok (.i2l, 1) := by decide +kernel
theorem dX1_mixedWithMember_113 : decode cX1_mixedWithMember 113 = .ok (.invokestatic 169, 3) := by decide +kernel
theorem dX1_mixedWithMember_116 : decode cX1_mixedWithMember 116 = .ok (.lstore 4, 2) := by decide +kernel
theorem dX1_mixedWithMember_118 : decode cX1_mixedWithMember 118 = .ok (.lload 4, 2) := by decide +kernel
theorem dX1_mixedWithMember_120 : decode cX1_mixedWithMember 120 = .ok (.aload_n 3, 1) := by decide +kernel
theorem dX1_mixedWithMember_121 : decode cX1_mixedWithMember 121 = .ok (.invokevirtual 151, 3) := by decide +kernel
theorem dX1_mixedWithMember_124 : decode cX1_mixedWithMember 124 = .ok (.i2l, 1) := by decide +kernel
theorem dX1_mixedWithMember_125 : decode cX1_mixedWithMember 125 = .ok (.invokestatic 169, 3) := by decide +kernel
theorem dX1_mixedWithMember_128 : decode cX1_mixedWithMember 128 = .ok (.lstore 4, 2) := by decide +kernel
theorem dX1_mixedWithMember_130 : decode cX1_mixedWithMember 130 = .ok (.lload 4, 2) := by decide +kernel
theorem dX1_mixedWithMember_132 : decode cX1_mixedWithMember 132 = .ok (.aload_n 0, 1) := by decide +kernel
theorem dX1_mixedWithMember_133 : decode cX1_mixedWithMember 133 = .ok (.aload_n 3, 1) := by decide +kernel
theorem dX1_mixedWithMember_134 : decode cX1_mixedWithMember 134 = .ok (.invokevirtual 154, 3) := by decide +kernel
theorem dX1_mixedWithMember_137 : decode cX1_mixedWithMember 137 = .ok (.i2l, 1) := by decide +kernel
theorem dX1_mixedWithMember_138 : decode cX1_mixedWithMember 138 = .ok (.invokestatic 169, 3) := by decide +kernel
theorem dX1_mixedWithMember_141 : decode cX1_mixedWithMember 141 = .ok (.lstore 4, 2) := by decide +kernel
theorem dX1_mixedWithMember_143 : decode cX1_mixedWithMember 143 = .ok (.lload 4, 2) := by decide +kernel
theorem dX1_mixedWithMember_145 : decode cX1_mixedWithMember 145 = .ok (.aload_n 0, 1) := by decide +kernel
theorem dX1_mixedWithMember_146 : decode cX1_mixedWithMember 146 = .ok (.aload_n 3, 1) := by decide +kernel
theorem dX1_mixedWithMember_147 : decode cX1_mixedWithMember 147 = .ok (.invokevirtual 158, 3) := by decide +kernel
theorem dX1_mixedWithMember_150 : decode cX1_mixedWithMember 150 = .ok (.i2l, 1) := by decide +kernel
theorem dX1_mixedWithMember_151 : decode cX1_mixedWithMember 151 = .ok (.invokestatic 169, 3) := by decide +kernel
theorem dX1_mixedWithMember_154 : decode cX1_mixedWithMember 154 = .ok (.lstore 4, 2) := by decide +kernel
theorem dX1_mixedWithMember_156 : decode cX1_mixedWithMember 156 = .ok (.lload 4, 2) := by decide +kernel
theorem dX1_mixedWithMember_158 : decode cX1_mixedWithMember 158 = .ok (.lreturn, 1) := by decide +kernel
