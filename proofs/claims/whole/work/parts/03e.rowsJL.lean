theorem dJ9_abs_0f7a4_0 : decode cJ9_abs_0f7a4 0 = .ok (.iload_n 0, 1) := by decide +kernel
theorem dJ9_abs_0f7a4_1 : decode cJ9_abs_0f7a4 1 = .ok (.ifCond .ge 8, 3) := by decide +kernel
theorem dJ9_abs_0f7a4_4 : decode cJ9_abs_0f7a4 4 = .ok (.iload_n 0, 1) := by decide +kernel
theorem dJ9_abs_0f7a4_5 : decode cJ9_abs_0f7a4 5 = .ok (.ineg, 1) := by decide +kernel
theorem dJ9_abs_0f7a4_6 : decode cJ9_abs_0f7a4 6 = .ok (.goto 4, 3) := by decide +kernel
theorem dJ9_abs_0f7a4_9 : decode cJ9_abs_0f7a4 9 = .ok (.iload_n 0, 1) := by decide +kernel
theorem dJ9_abs_0f7a4_10 : decode cJ9_abs_0f7a4 10 = .ok (.ireturn, 1) := by decide +kernel
theorem dJ9_max_7cf53_0 : decode cJ9_max_7cf53 0 = .ok (.iload_n 0, 1) := by decide +kernel
theorem dJ9_max_7cf53_1 : decode cJ9_max_7cf53 1 = .ok (.iload_n 1, 1) := by decide +kernel
theorem dJ9_max_7cf53_2 : decode cJ9_max_7cf53 2 = .ok (.if_icmp .lt 7, 3) := by decide +kernel
theorem dJ9_max_7cf53_5 : decode cJ9_max_7cf53 5 = .ok (.iload_n 0, 1) := by decide +kernel
theorem dJ9_max_7cf53_6 : decode cJ9_max_7cf53 6 = .ok (.goto 4, 3) := by decide +kernel
theorem dJ9_max_7cf53_9 : decode cJ9_max_7cf53 9 = .ok (.iload_n 1, 1) := by decide +kernel
theorem dJ9_max_7cf53_10 : decode cJ9_max_7cf53 10 = .ok (.ireturn, 1) := by decide +kernel
theorem dJ9_min_7cf53_0 : decode cJ9_min_7cf53 0 = .ok (.iload_n 0, 1) := by decide +kernel
theorem dJ9_min_7cf53_1 : decode cJ9_min_7cf53 1 = .ok (.iload_n 1, 1) := by decide +kernel
theorem dJ9_min_7cf53_2 : decode cJ9_min_7cf53 2 = .ok (.if_icmp .gt 7, 3) := by decide +kernel
theorem dJ9_min_7cf53_5 : decode cJ9_min_7cf53 5 = .ok (.iload_n 0, 1) := by decide +kernel
theorem dJ9_min_7cf53_6 : decode cJ9_min_7cf53 6 = .ok (.goto 4, 3) := by decide +kernel
theorem dJ9_min_7cf53_9 : decode cJ9_min_7cf53 9 = .ok (.iload_n 1, 1) := by decide +kernel
theorem dJ9_min_7cf53_10 : decode cJ9_min_7cf53 10 = .ok (.ireturn, 1) := by decide +kernel
theorem dJxa1e45_init_da8c8_0 : decode cJxa1e45_init_da8c8 0 = .ok (.aload_n 0, 1) := by decide +kernel
theorem dJxa1e45_init_da8c8_1 : decode cJxa1e45_init_da8c8 1 = .ok (.invokespecial 1, 3) := by decide +kernel
theorem dJxa1e45_init_da8c8_4 : decode cJxa1e45_init_da8c8 4 = .ok (.return_, 1) := by decide +kernel
set_option maxRecDepth 20000 in
theorem ggJxc12de_init_da8c8_Jxa1e45_init_da8c8 : GoodIn wsJxc12de_init_da8c8 wsJxa1e45_init_da8c8 := goodIn_r _ [5, 6, 7, 8] (by decide +kernel) (by decide +kernel)
set_option maxRecDepth 20000 in
theorem gJxc12de_init_da8c8_Jxa1e45_init_da8c8 : GoodIn wsJxc12de_init_da8c8 (wsJxa1e45_init_da8c8) := ggJxc12de_init_da8c8_Jxa1e45_init_da8c8
theorem dJxc12de_init_da8c8_0 : decode cJxc12de_init_da8c8 0 = .ok (.aload_n 0, 1) := by decide +kernel
theorem dJxc12de_init_da8c8_1 : decode cJxc12de_init_da8c8 1 = .ok (.invokespecial 1, 3) := by decide +kernel
theorem dJxc12de_init_da8c8_4 : decode cJxc12de_init_da8c8 4 = .ok (.aload_n 0, 1) := by decide +kernel
theorem dJxc12de_init_da8c8_5 : decode cJxc12de_init_da8c8 5 = .ok (.iconst 0, 1) := by decide +kernel
theorem dJxc12de_init_da8c8_6 : decode cJxc12de_init_da8c8 6 = .ok (.putfield 7, 3) := by decide +kernel
theorem dJxc12de_init_da8c8_9 : decode cJxc12de_init_da8c8 9 = .ok (.return_, 1) := by decide +kernel
set_option maxRecDepth 20000 in
theorem ggJx4a65c_init_da8c8_Jxc12de_init_da8c8 : GoodIn wsJx4a65c_init_da8c8 wsJxc12de_init_da8c8 := goodIn_r _ [6, 7, 8, 9, 10, 11, 12, 13, 14, 15, 16, 17] (by decide +kernel) (by decide +kernel)
set_option maxRecDepth 20000 in
theorem gJx4a65c_init_da8c8_Jxc12de_init_da8c8 : GoodIn wsJx4a65c_init_da8c8 (wsJxc12de_init_da8c8) := ggJx4a65c_init_da8c8_Jxc12de_init_da8c8
theorem dJx4a65c_init_da8c8_0 : decode cJx4a65c_init_da8c8 0 = .ok (.aload_n 0, 1) := by decide +kernel
theorem dJx4a65c_init_da8c8_1 : decode cJx4a65c_init_da8c8 1 = .ok (.invokespecial 1, 3) := by decide +kernel
theorem dJx4a65c_init_da8c8_4 : decode cJx4a65c_init_da8c8 4 = .ok (.aload_n 0, 1) := by decide +kernel
theorem dJx4a65c_init_da8c8_5 : decode cJx4a65c_init_da8c8 5 = .ok (.getstatic 39, 3) := by decide +kernel
theorem dJx4a65c_init_da8c8_8 : decode cJx4a65c_init_da8c8 8 = .ok (.putfield 9, 3) := by decide +kernel
theorem dJx4a65c_init_da8c8_11 : decode cJx4a65c_init_da8c8 11 = .ok (.return_, 1) := by decide +kernel
set_option maxRecDepth 20000 in
theorem ggJx4a65c_grow_92f84_J8_newLength_cabcc : GoodIn wsJx4a65c_grow_92f84 wsJ8_newLength_cabcc := goodIn_r _ [11, 12, 4, 5, 6, 13, 14, 15, 10, 16] (by decide +kernel) (by decide +kernel)
set_option maxRecDepth 20000 in
theorem gJx4a65c_grow_92f84_J8_newLength_cabcc : GoodIn wsJx4a65c_grow_92f84 (va_wsS RJx4a65c 73 yJ8_newLength_cabcc wsJ8_newLength_cabcc) := goodIn_app (goodIn_of _ (by decide +kernel)) ggJx4a65c_grow_92f84_J8_newLength_cabcc
set_option maxRecDepth 20000 in
theorem ggJx4a65c_grow_92f84_J7_copyOf_1904c : GoodIn wsJx4a65c_grow_92f84 wsJ7_copyOf_1904c := goodIn_r _ [20, 21, 22, 23, 24, 25, 26, 19, 27, 28, 29, 30, 31, 5, 32, 33, 34, 35, 36] (by decide +kernel) (by decide +kernel)
set_option maxRecDepth 20000 in
theorem gJx4a65c_grow_92f84_J7_copyOf_1904c : GoodIn wsJx4a65c_grow_92f84 (va_wsS RJx4a65c 66 yJ7_copyOf_1904c wsJ7_copyOf_1904c) := goodIn_app (goodIn_of _ (by decide +kernel)) ggJx4a65c_grow_92f84_J7_copyOf_1904c
theorem dJx4a65c_grow_92f84_0 : decode cJx4a65c_grow_92f84 0 = .ok (.aload_n 0, 1) := by decide +kernel
theorem dJx4a65c_grow_92f84_1 : decode cJx4a65c_grow_92f84 1 = .ok (.getfield 9, 3) := by decide +kernel
theorem dJx4a65c_grow_92f84_4 : decode cJx4a65c_grow_92f84 4 = .ok (.arraylength, 1) := by decide +kernel
theorem dJx4a65c_grow_92f84_5 : decode cJx4a65c_grow_92f84 5 = .ok (.istore_n 2, 1) := by decide +kernel
theorem dJx4a65c_grow_92f84_6 : decode cJx4a65c_grow_92f84 6 = .ok (.iload_n 2, 1) := by decide +kernel
theorem dJx4a65c_grow_92f84_7 : decode cJx4a65c_grow_92f84 7 = .ok (.ifCond .gt 13, 3) := by decide +kernel
theorem dJx4a65c_grow_92f84_10 : decode cJx4a65c_grow_92f84 10 = .ok (.aload_n 0, 1) := by decide +kernel
theorem dJx4a65c_grow_92f84_11 : decode cJx4a65c_grow_92f84 11 = .ok (.getfield 9, 3) := by decide +kernel
theorem dJx4a65c_grow_92f84_14 : decode cJx4a65c_grow_92f84 14 = .ok (.getstatic 39, 3) := by decide +kernel
theorem dJx4a65c_grow_92f84_17 : decode cJx4a65c_grow_92f84 17 = .ok (.if_acmp .eq 28, 3) := by decide +kernel
theorem dJx4a65c_grow_92f84_20 : decode cJx4a65c_grow_92f84 20 = .ok (.iload_n 2, 1) := by decide +kernel
theorem dJx4a65c_grow_92f84_21 : decode cJx4a65c_grow_92f84 21 = .ok (.iload_n 1, 1) := by decide +kernel
theorem dJx4a65c_grow_92f84_22 : decode cJx4a65c_grow_92f84 22 = .ok (.iload_n 2, 1) := by decide +kernel
theorem dJx4a65c_grow_92f84_23 : decode cJx4a65c_grow_92f84 23 = .ok (.isub, 1) := by decide +kernel
theorem dJx4a65c_grow_92f84_24 : decode cJx4a65c_grow_92f84 24 = .ok (.iload_n 2, 1) := by decide +kernel
theorem dJx4a65c_grow_92f84_25 : decode cJx4a65c_grow_92f84 25 = .ok (.iconst 1, 1) := by decide +kernel
theorem dJx4a65c_grow_92f84_26 : decode cJx4a65c_grow_92f84 26 = .ok (.ishr, 1) := by decide +kernel
theorem dJx4a65c_grow_92f84_27 : decode cJx4a65c_grow_92f84 27 = .ok (.invokestatic 73, 3) := by decide +kernel
theorem dJx4a65c_grow_92f84_30 : decode cJx4a65c_grow_92f84 30 = .ok (.istore_n 3, 1) := by decide +kernel
theorem dJx4a65c_grow_92f84_31 : decode cJx4a65c_grow_92f84 31 = .ok (.aload_n 0, 1) := by decide +kernel
theorem dJx4a65c_grow_92f84_32 : decode cJx4a65c_grow_92f84 32 = .ok (.aload_n 0, 1) := by decide +kernel
theorem dJx4a65c_grow_92f84_33 : decode cJx4a65c_grow_92f84 33 = .ok (.getfield 9, 3) := by decide +kernel
theorem dJx4a65c_grow_92f84_36 : decode cJx4a65c_grow_92f84 36 = .ok (.iload_n 3, 1) := by decide +kernel
theorem dJx4a65c_grow_92f84_37 : decode cJx4a65c_grow_92f84 37 = .ok (.invokestatic 66, 3) := by decide +kernel
theorem dJx4a65c_grow_92f84_40 : decode cJx4a65c_grow_92f84 40 = .ok (.dup_x1, 1) := by decide +kernel
theorem dJx4a65c_grow_92f84_41 : decode cJx4a65c_grow_92f84 41 = .ok (.putfield 9, 3) := by decide +kernel
theorem dJx4a65c_grow_92f84_44 : decode cJx4a65c_grow_92f84 44 = .ok (.areturn, 1) := by decide +kernel
theorem dJx4a65c_grow_92f84_45 : decode cJx4a65c_grow_92f84 45 = .ok (.aload_n 0, 1) := by decide +kernel
theorem dJx4a65c_grow_92f84_46 : decode cJx4a65c_grow_92f84 46 = .ok (.bipush 10, 2) := by decide +kernel
theorem dJx4a65c_grow_92f84_48 : decode cJx4a65c_grow_92f84 48 = .ok (.iload_n 1, 1) := by decide +kernel
theorem dJx4a65c_grow_92f84_49 : decode cJx4a65c_grow_92f84 49 = .ok (.invokestatic 79, 3) := by decide +kernel
theorem dJx4a65c_grow_92f84_52 : decode cJx4a65c_grow_92f84 52 = .ok (.anewarray 7, 3) := by decide +kernel
theorem dJx4a65c_grow_92f84_55 : decode cJx4a65c_grow_92f84 55 = .ok (.dup_x1, 1) := by decide +kernel
theorem dJx4a65c_grow_92f84_56 : decode cJx4a65c_grow_92f84 56 = .ok (.putfield 9, 3) := by decide +kernel
theorem dJx4a65c_grow_92f84_59 : decode cJx4a65c_grow_92f84 59 = .ok (.areturn, 1) := by decide +kernel
set_option maxRecDepth 20000 in
theorem ggJx4a65c_grow_d5877_Jx4a65c_grow_92f84 : GoodIn wsJx4a65c_grow_d5877 wsJx4a65c_grow_92f84 := goodIn_r _ [6, 7, 8, 9, 10, 11, 12, 13, 14, 15, 16, 17, 18, 19, 20, 21, 22, 23, 24, 25, 26, 27, 28, 29, 30, 31, 32, 33, 34, 35, 36, 37, 38, 39, 40, 41, 42, 43, 44, 45] (by decide +kernel) (by decide +kernel)
set_option maxRecDepth 20000 in
theorem gJx4a65c_grow_d5877_Jx4a65c_grow_92f84 : GoodIn wsJx4a65c_grow_d5877 (wsV RJx4a65c 69 RJx4a65c yJx4a65c_grow_92f84 wsJx4a65c_grow_92f84) := goodIn_app (goodIn_of _ (by decide +kernel)) ggJx4a65c_grow_d5877_Jx4a65c_grow_92f84
theorem dJx4a65c_grow_d5877_0 : decode cJx4a65c_grow_d5877 0 = .ok (.aload_n 0, 1) := by decide +kernel
theorem dJx4a65c_grow_d5877_1 : decode cJx4a65c_grow_d5877 1 = .ok (.aload_n 0, 1) := by decide +kernel
theorem dJx4a65c_grow_d5877_2 : decode cJx4a65c_grow_d5877 2 = .ok (.getfield 48, 3) := by decide +kernel
theorem dJx4a65c_grow_d5877_5 : decode cJx4a65c_grow_d5877 5 = .ok (.iconst 1, 1) := by decide +kernel
theorem dJx4a65c_grow_d5877_6 : decode cJx4a65c_grow_d5877 6 = .ok (.iadd, 1) := by decide +kernel
theorem dJx4a65c_grow_d5877_7 : decode cJx4a65c_grow_d5877 7 = .ok (.invokevirtual 69, 3) := by decide +kernel
theorem dJx4a65c_grow_d5877_10 : decode cJx4a65c_grow_d5877 10 = .ok (.areturn, 1) := by decide +kernel
theorem dJx4a65c_size_8abf5_0 : decode cJx4a65c_size_8abf5 0 = .ok (.aload_n 0, 1) := by decide +kernel
theorem dJx4a65c_size_8abf5_1 : decode cJx4a65c_size_8abf5 1 = .ok (.getfield 48, 3) := by decide +kernel
theorem dJx4a65c_size_8abf5_4 : decode cJx4a65c_size_8abf5 4 = .ok (.ireturn, 1) := by decide +kernel
theorem dJx4a65c_isEmpty_aae02_0 : decode cJx4a65c_isEmpty_aae02 0 = .ok (.aload_n 0, 1) := by decide +kernel
theorem dJx4a65c_isEmpty_aae02_1 : decode cJx4a65c_isEmpty_aae02 1 = .ok (.getfield 48, 3) := by decide +kernel
theorem dJx4a65c_isEmpty_aae02_4 : decode cJx4a65c_isEmpty_aae02 4 = .ok (.ifCond .ne 7, 3) := by decide +kernel
theorem dJx4a65c_isEmpty_aae02_7 : decode cJx4a65c_isEmpty_aae02 7 = .ok (.iconst 1, 1) := by decide +kernel
theorem dJx4a65c_isEmpty_aae02_8 : decode cJx4a65c_isEmpty_aae02 8 = .ok (.goto 4, 3) := by decide +kernel
theorem dJx4a65c_isEmpty_aae02_11 : decode cJx4a65c_isEmpty_aae02 11 = .ok (.iconst 0, 1) := by decide +kernel
theorem dJx4a65c_isEmpty_aae02_12 : decode cJx4a65c_isEmpty_aae02 12 = .ok (.ireturn, 1) := by decide +kernel
theorem dJx4a65c_elementData_915e3_0 : decode cJx4a65c_elementData_915e3 0 = .ok (.aload_n 0, 1) := by decide +kernel
theorem dJx4a65c_elementData_915e3_1 : decode cJx4a65c_elementData_915e3 1 = .ok (.getfield 9, 3) := by decide +kernel
theorem dJx4a65c_elementData_915e3_4 : decode cJx4a65c_elementData_915e3 4 = .ok (.iload_n 1, 1) := by decide +kernel
theorem dJx4a65c_elementData_915e3_5 : decode cJx4a65c_elementData_915e3 5 = .ok (.aaload, 1) := by decide +kernel
theorem dJx4a65c_elementData_915e3_6 : decode cJx4a65c_elementData_915e3 6 = .ok (.areturn, 1) := by decide +kernel
set_option maxRecDepth 20000 in
theorem ggJx4a65c_get_915e3_J15_checkIndex_7cf53 : GoodIn wsJx4a65c_get_915e3 wsJ15_checkIndex_7cf53 := goodIn_r _ [5, 6, 7, 8, 9] (by decide +kernel) (by decide +kernel)
set_option maxRecDepth 20000 in
theorem gJx4a65c_get_915e3_J15_checkIndex_7cf53 : GoodIn wsJx4a65c_get_915e3 (va_wsS RJx4a65c 118 yJ15_checkIndex_7cf53 wsJ15_checkIndex_7cf53) := goodIn_app (goodIn_of _ (by decide +kernel)) ggJx4a65c_get_915e3_J15_checkIndex_7cf53
set_option maxRecDepth 20000 in
theorem ggJx4a65c_get_915e3_Jx4a65c_elementData_915e3 : GoodIn wsJx4a65c_get_915e3 wsJx4a65c_elementData_915e3 := goodIn_r _ [14, 15, 16, 17, 18] (by decide +kernel) (by decide +kernel)
set_option maxRecDepth 20000 in
theorem gJx4a65c_get_915e3_Jx4a65c_elementData_915e3 : GoodIn wsJx4a65c_get_915e3 (wsV RJx4a65c 123 RJx4a65c yJx4a65c_elementData_915e3 wsJx4a65c_elementData_915e3) := goodIn_app (goodIn_of _ (by decide +kernel)) ggJx4a65c_get_915e3_Jx4a65c_elementData_915e3
theorem dJx4a65c_get_915e3_0 : decode cJx4a65c_get_915e3 0 = .ok (.iload_n 1, 1) := by decide +kernel
theorem dJx4a65c_get_915e3_1 : decode cJx4a65c_get_915e3 1 = .ok (.aload_n 0, 1) := by decide +kernel
theorem dJx4a65c_get_915e3_2 : decode cJx4a65c_get_915e3 2 = .ok (.getfield 48, 3) := by decide +kernel
theorem dJx4a65c_get_915e3_5 : decode cJx4a65c_get_915e3 5 = .ok (.invokestatic 118, 3) := by decide +kernel
theorem dJx4a65c_get_915e3_8 : decode cJx4a65c_get_915e3 8 = .ok (.pop, 1) := by decide +kernel
theorem dJx4a65c_get_915e3_9 : decode cJx4a65c_get_915e3 9 = .ok (.aload_n 0, 1) := by decide +kernel
theorem dJx4a65c_get_915e3_10 : decode cJx4a65c_get_915e3 10 = .ok (.iload_n 1, 1) := by decide +kernel
theorem dJx4a65c_get_915e3_11 : decode cJx4a65c_get_915e3 11 = .ok (.invokevirtual 123, 3) := by decide +kernel
theorem dJx4a65c_get_915e3_14 : decode cJx4a65c_get_915e3 14 = .ok (.areturn, 1) := by decide +kernel
set_option maxRecDepth 20000 in
theorem ggJx4a65c_add_72be8_Jx4a65c_grow_d5877 : GoodIn wsJx4a65c_add_72be8 wsJx4a65c_grow_d5877 := goodIn_r _ [6, 1, 7, 8, 9, 5, 10, 11, 12, 13, 14, 15, 16, 17, 18, 19, 20, 21, 22, 23, 24, 25, 26, 27, 28, 29, 30, 31, 32, 33, 34, 35, 36, 37, 38, 39, 40, 41, 42, 43, 44, 45, 46, 47, 48, 49] (by decide +kernel) (by decide +kernel)
set_option maxRecDepth 20000 in
theorem gJx4a65c_add_72be8_Jx4a65c_grow_d5877 : GoodIn wsJx4a65c_add_72be8 (wsV RJx4a65c 129 RJx4a65c yJx4a65c_grow_d5877 wsJx4a65c_grow_d5877) := goodIn_app (goodIn_of _ (by decide +kernel)) ggJx4a65c_add_72be8_Jx4a65c_grow_d5877
theorem dJx4a65c_add_72be8_0 : decode cJx4a65c_add_72be8 0 = .ok (.iload_n 3, 1) := by decide +kernel
theorem dJx4a65c_add_72be8_1 : decode cJx4a65c_add_72be8 1 = .ok (.aload_n 2, 1) := by decide +kernel
theorem dJx4a65c_add_72be8_2 : decode cJx4a65c_add_72be8 2 = .ok (.arraylength, 1) := by decide +kernel
theorem dJx4a65c_add_72be8_3 : decode cJx4a65c_add_72be8 3 = .ok (.if_icmp .ne 8, 3) := by decide +kernel
theorem dJx4a65c_add_72be8_6 : decode cJx4a65c_add_72be8 6 = .ok (.aload_n 0, 1) := by decide +kernel
theorem dJx4a65c_add_72be8_7 : decode cJx4a65c_add_72be8 7 = .ok (.invokevirtual 129, 3) := by decide +kernel
theorem dJx4a65c_add_72be8_10 : decode cJx4a65c_add_72be8 10 = .ok (.astore_n 2, 1) := by decide +kernel
theorem dJx4a65c_add_72be8_11 : decode cJx4a65c_add_72be8 11 = .ok (.aload_n 2, 1) := by decide +kernel
theorem dJx4a65c_add_72be8_12 : decode cJx4a65c_add_72be8 12 = .ok (.iload_n 3, 1) := by decide +kernel
theorem dJx4a65c_add_72be8_13 : decode cJx4a65c_add_72be8 13 = .ok (.aload_n 1, 1) := by decide +kernel
theorem dJx4a65c_add_72be8_14 : decode cJx4a65c_add_72be8 14 = .ok (.aastore, 1) := by decide +kernel
theorem dJx4a65c_add_72be8_15 : decode cJx4a65c_add_72be8 15 = .ok (.aload_n 0, 1) := by decide +kernel
theorem dJx4a65c_add_72be8_16 : decode cJx4a65c_add_72be8 16 = .ok (.iload_n 3, 1) := by decide +kernel
theorem dJx4a65c_add_72be8_17 : decode cJx4a65c_add_72be8 17 = .ok (.iconst 1, 1) := by decide +kernel
theorem dJx4a65c_add_72be8_18 : decode cJx4a65c_add_72be8 18 = .ok (.iadd, 1) := by decide +kernel
theorem dJx4a65c_add_72be8_19 : decode cJx4a65c_add_72be8 19 = .ok (.putfield 48, 3) := by decide +kernel
theorem dJx4a65c_add_72be8_22 : decode cJx4a65c_add_72be8 22 = .ok (.return_, 1) := by decide +kernel
set_option maxRecDepth 20000 in
theorem ggJx4a65c_add_9ea2d_Jx4a65c_add_72be8 : GoodIn wsJx4a65c_add_9ea2d wsJx4a65c_add_72be8 := goodIn_r _ [9, 4, 10, 11, 12, 8, 13, 14, 15, 16, 17, 3, 18, 19, 20, 21, 22, 23, 24, 25, 26, 27, 28, 29, 30, 31, 32, 33, 34, 35, 36, 37, 38, 39, 40, 41, 42, 43, 44, 45, 46, 47, 48, 49, 50, 51, 52, 53, 54, 55] (by decide +kernel) (by decide +kernel)
set_option maxRecDepth 20000 in
theorem gJx4a65c_add_9ea2d_Jx4a65c_add_72be8 : GoodIn wsJx4a65c_add_9ea2d (wsV RJx4a65c 131 RJx4a65c yJx4a65c_add_72be8 wsJx4a65c_add_72be8) := goodIn_app (goodIn_of _ (by decide +kernel)) ggJx4a65c_add_9ea2d_Jx4a65c_add_72be8
theorem dJx4a65c_add_9ea2d_0 : decode cJx4a65c_add_9ea2d 0 = .ok (.aload_n 0, 1) := by decide +kernel
theorem dJx4a65c_add_9ea2d_1 : decode cJx4a65c_add_9ea2d 1 = .ok (.dup, 1) := by decide +kernel
theorem dJx4a65c_add_9ea2d_2 : decode cJx4a65c_add_9ea2d 2 = .ok (.getfield 63, 3) := by decide +kernel
theorem dJx4a65c_add_9ea2d_5 : decode cJx4a65c_add_9ea2d 5 = .ok (.iconst 1, 1) := by decide +kernel
theorem dJx4a65c_add_9ea2d_6 : decode cJx4a65c_add_9ea2d 6 = .ok (.iadd, 1) := by decide +kernel
theorem dJx4a65c_add_9ea2d_7 : decode cJx4a65c_add_9ea2d 7 = .ok (.putfield 63, 3) := by decide +kernel
theorem dJx4a65c_add_9ea2d_10 : decode cJx4a65c_add_9ea2d 10 = .ok (.aload_n 0, 1) := by decide +kernel
theorem dJx4a65c_add_9ea2d_11 : decode cJx4a65c_add_9ea2d 11 = .ok (.aload_n 1, 1) := by decide +kernel
theorem dJx4a65c_add_9ea2d_12 : decode cJx4a65c_add_9ea2d 12 = .ok (.aload_n 0, 1) := by decide +kernel
theorem dJx4a65c_add_9ea2d_13 : decode cJx4a65c_add_9ea2d 13 = .ok (.getfield 9, 3) := by decide +kernel
theorem dJx4a65c_add_9ea2d_16 : decode cJx4a65c_add_9ea2d 16 = .ok (.aload_n 0, 1) := by decide +kernel
theorem dJx4a65c_add_9ea2d_17 : decode cJx4a65c_add_9ea2d 17 = .ok (.getfield 48, 3) := by decide +kernel
theorem dJx4a65c_add_9ea2d_20 : decode cJx4a65c_add_9ea2d 20 = .ok (.invokevirtual 131, 3) := by decide +kernel
theorem dJx4a65c_add_9ea2d_23 : decode cJx4a65c_add_9ea2d 23 = .ok (.iconst 1, 1) := by decide +kernel
theorem dJx4a65c_add_9ea2d_24 : decode cJx4a65c_add_9ea2d 24 = .ok (.ireturn, 1) := by decide +kernel
set_option maxRecDepth 20000 in
theorem ggJ7_copyOf_1904c_J7_copyOf_6403c : GoodIn wsJ7_copyOf_1904c wsJ7_copyOf_6403c := goodIn_r _ [8, 9, 10, 11, 12, 13, 14, 15, 16, 17, 18] (by decide +kernel) (by decide +kernel)
set_option maxRecDepth 20000 in
theorem gJ7_copyOf_1904c_J7_copyOf_6403c : GoodIn wsJ7_copyOf_1904c (va_wsS RJ7 300 yJ7_copyOf_6403c wsJ7_copyOf_6403c) := goodIn_app (goodIn_of _ (by decide +kernel)) ggJ7_copyOf_1904c_J7_copyOf_6403c
theorem dJ7_copyOf_1904c_0 : decode cJ7_copyOf_1904c 0 = .ok (.aload_n 0, 1) := by decide +kernel
theorem dJ7_copyOf_1904c_1 : decode cJ7_copyOf_1904c 1 = .ok (.iload_n 1, 1) := by decide +kernel
theorem dJ7_copyOf_1904c_2 : decode cJ7_copyOf_1904c 2 = .ok (.aload_n 0, 1) := by decide +kernel
theorem dJ7_copyOf_1904c_3 : decode cJ7_copyOf_1904c 3 = .ok (.invokevirtual 86, 3) := by decide +kernel
theorem dJ7_copyOf_1904c_6 : decode cJ7_copyOf_1904c 6 = .ok (.invokestatic 300, 3) := by decide +kernel
theorem dJ7_copyOf_1904c_9 : decode cJ7_copyOf_1904c 9 = .ok (.areturn, 1) := by decide +kernel
theorem dJ7_copyOf_6403c_0 : decode cJ7_copyOf_6403c 0 = .ok (.aload_n 2, 1) := by decide +kernel
theorem dJ7_copyOf_6403c_1 : decode cJ7_copyOf_6403c 1 = .ok (.ldc 110, 2) := by decide +kernel
theorem dJ7_copyOf_6403c_3 : decode cJ7_copyOf_6403c 3 = .ok (.if_acmp .ne 10, 3) := by decide +kernel
theorem dJ7_copyOf_6403c_6 : decode cJ7_copyOf_6403c 6 = .ok (.iload_n 1, 1) := by decide +kernel
theorem dJ7_copyOf_6403c_7 : decode cJ7_copyOf_6403c 7 = .ok (.anewarray 2, 3) := by decide +kernel
theorem dJ7_copyOf_6403c_10 : decode cJ7_copyOf_6403c 10 = .ok (.goto 14, 3) := by decide +kernel
theorem dJ7_copyOf_6403c_13 : decode cJ7_copyOf_6403c 13 = .ok (.aload_n 2, 1) := by decide +kernel
theorem dJ7_copyOf_6403c_14 : decode cJ7_copyOf_6403c 14 = .ok (.invokevirtual 90, 3) := by decide +kernel
theorem dJ7_copyOf_6403c_17 : decode cJ7_copyOf_6403c 17 = .ok (.iload_n 1, 1) := by decide +kernel
theorem dJ7_copyOf_6403c_18 : decode cJ7_copyOf_6403c 18 = .ok (.invokestatic 95, 3) := by decide +kernel
theorem dJ7_copyOf_6403c_21 : decode cJ7_copyOf_6403c 21 = .ok (.checkcast 110, 3) := by decide +kernel
theorem dJ7_copyOf_6403c_24 : decode cJ7_copyOf_6403c 24 = .ok (.astore_n 3, 1) := by decide +kernel
theorem dJ7_copyOf_6403c_25 : decode cJ7_copyOf_6403c 25 = .ok (.aload_n 0, 1) := by decide +kernel
theorem dJ7_copyOf_6403c_26 : decode cJ7_copyOf_6403c 26 = .ok (.iconst 0, 1) := by decide +kernel
theorem dJ7_copyOf_6403c_27 : decode cJ7_copyOf_6403c 27 = .ok (.aload_n 3, 1) := by decide +kernel
theorem dJ7_copyOf_6403c_28 : decode cJ7_copyOf_6403c 28 = .ok (.iconst 0, 1) := by decide +kernel
theorem dJ7_copyOf_6403c_29 : decode cJ7_copyOf_6403c 29 = .ok (.aload_n 0, 1) := by decide +kernel
theorem dJ7_copyOf_6403c_30 : decode cJ7_copyOf_6403c 30 = .ok (.arraylength, 1) := by decide +kernel
theorem dJ7_copyOf_6403c_31 : decode cJ7_copyOf_6403c 31 = .ok (.iload_n 1, 1) := by decide +kernel
theorem dJ7_copyOf_6403c_32 : decode cJ7_copyOf_6403c 32 = .ok (.invokestatic 304, 3) := by decide +kernel
theorem dJ7_copyOf_6403c_35 : decode cJ7_copyOf_6403c 35 = .ok (.invokestatic 150, 3) := by decide +kernel
theorem dJ7_copyOf_6403c_38 : decode cJ7_copyOf_6403c 38 = .ok (.aload_n 3, 1) := by decide +kernel
theorem dJ7_copyOf_6403c_39 : decode cJ7_copyOf_6403c 39 = .ok (.areturn, 1) := by decide +kernel
set_option maxRecDepth 20000 in
theorem ggJ15_checkIndex_7cf53_J3_checkIndex_8e157 : GoodIn wsJ15_checkIndex_7cf53 wsJ3_checkIndex_8e157 := goodIn_r _ [4] (by decide +kernel) (by decide +kernel)
set_option maxRecDepth 20000 in
theorem gJ15_checkIndex_7cf53_J3_checkIndex_8e157 : GoodIn wsJ15_checkIndex_7cf53 (va_wsS RJ15 105 yJ3_checkIndex_8e157 wsJ3_checkIndex_8e157) := goodIn_app (goodIn_of _ (by decide +kernel)) ggJ15_checkIndex_7cf53_J3_checkIndex_8e157
theorem dJ15_checkIndex_7cf53_0 : decode cJ15_checkIndex_7cf53 0 = .ok (.iload_n 0, 1) := by decide +kernel
theorem dJ15_checkIndex_7cf53_1 : decode cJ15_checkIndex_7cf53 1 = .ok (.iload_n 1, 1) := by decide +kernel
theorem dJ15_checkIndex_7cf53_2 : decode cJ15_checkIndex_7cf53 2 = .ok (.aconst_null, 1) := by decide +kernel
theorem dJ15_checkIndex_7cf53_3 : decode cJ15_checkIndex_7cf53 3 = .ok (.invokestatic 105, 3) := by decide +kernel
theorem dJ15_checkIndex_7cf53_6 : decode cJ15_checkIndex_7cf53 6 = .ok (.ireturn, 1) := by decide +kernel
set_option maxRecDepth 20000 in
theorem ggJ8_newLength_cabcc_J8_hugeLength_7cf53 : GoodIn wsJ8_newLength_cabcc wsJ8_hugeLength_7cf53 := goodIn_r _ [9, 5] (by decide +kernel) (by decide +kernel)
set_option maxRecDepth 20000 in
theorem gJ8_newLength_cabcc_J8_hugeLength_7cf53 : GoodIn wsJ8_newLength_cabcc (va_wsS RJ8 201 yJ8_hugeLength_7cf53 wsJ8_hugeLength_7cf53) := goodIn_app (goodIn_of _ (by decide +kernel)) ggJ8_newLength_cabcc_J8_hugeLength_7cf53
theorem dJ8_newLength_cabcc_0 : decode cJ8_newLength_cabcc 0 = .ok (.iload_n 0, 1) := by decide +kernel
theorem dJ8_newLength_cabcc_1 : decode cJ8_newLength_cabcc 1 = .ok (.iload_n 1, 1) := by decide +kernel
theorem dJ8_newLength_cabcc_2 : decode cJ8_newLength_cabcc 2 = .ok (.iload_n 2, 1) := by decide +kernel
theorem dJ8_newLength_cabcc_3 : decode cJ8_newLength_cabcc 3 = .ok (.invokestatic 194, 3) := by decide +kernel
theorem dJ8_newLength_cabcc_6 : decode cJ8_newLength_cabcc 6 = .ok (.iadd, 1) := by decide +kernel
theorem dJ8_newLength_cabcc_7 : decode cJ8_newLength_cabcc 7 = .ok (.istore_n 3, 1) := by decide +kernel
theorem dJ8_newLength_cabcc_8 : decode cJ8_newLength_cabcc 8 = .ok (.iconst 0, 1) := by decide +kernel
theorem dJ8_newLength_cabcc_9 : decode cJ8_newLength_cabcc 9 = .ok (.iload_n 3, 1) := by decide +kernel
theorem dJ8_newLength_cabcc_10 : decode cJ8_newLength_cabcc 10 = .ok (.if_icmp .ge 11, 3) := by decide +kernel
theorem dJ8_newLength_cabcc_13 : decode cJ8_newLength_cabcc 13 = .ok (.iload_n 3, 1) := by decide +kernel
theorem dJ8_newLength_cabcc_14 : decode cJ8_newLength_cabcc 14 = .ok (.ldc 200, 2) := by decide +kernel
theorem dJ8_newLength_cabcc_16 : decode cJ8_newLength_cabcc 16 = .ok (.if_icmp .gt 5, 3) := by decide +kernel
theorem dJ8_newLength_cabcc_19 : decode cJ8_newLength_cabcc 19 = .ok (.iload_n 3, 1) := by decide +kernel
theorem dJ8_newLength_cabcc_20 : decode cJ8_newLength_cabcc 20 = .ok (.ireturn, 1) := by decide +kernel
theorem dJ8_newLength_cabcc_21 : decode cJ8_newLength_cabcc 21 = .ok (.iload_n 0, 1) := by decide +kernel
theorem dJ8_newLength_cabcc_22 : decode cJ8_newLength_cabcc 22 = .ok (.iload_n 1, 1) := by decide +kernel
theorem dJ8_newLength_cabcc_23 : decode cJ8_newLength_cabcc 23 = .ok (.invokestatic 201, 3) := by decide +kernel
theorem dJ8_newLength_cabcc_26 : decode cJ8_newLength_cabcc 26 = .ok (.ireturn, 1) := by decide +kernel
theorem dJ8_hugeLength_7cf53_0 : decode cJ8_hugeLength_7cf53 0 = .ok (.iload_n 0, 1) := by decide +kernel
theorem dJ8_hugeLength_7cf53_1 : decode cJ8_hugeLength_7cf53 1 = .ok (.iload_n 1, 1) := by decide +kernel
theorem dJ8_hugeLength_7cf53_2 : decode cJ8_hugeLength_7cf53 2 = .ok (.iadd, 1) := by decide +kernel
theorem dJ8_hugeLength_7cf53_3 : decode cJ8_hugeLength_7cf53 3 = .ok (.istore_n 2, 1) := by decide +kernel
theorem dJ8_hugeLength_7cf53_4 : decode cJ8_hugeLength_7cf53 4 = .ok (.iload_n 2, 1) := by decide +kernel
theorem dJ8_hugeLength_7cf53_5 : decode cJ8_hugeLength_7cf53 5 = .ok (.ifCond .ge 44, 3) := by decide +kernel
theorem dJ8_hugeLength_7cf53_8 : decode cJ8_hugeLength_7cf53 8 = .ok (.new 204, 3) := by decide +kernel
theorem dJ8_hugeLength_7cf53_11 : decode cJ8_hugeLength_7cf53 11 = .ok (.dup, 1) := by decide +kernel
theorem dJ8_hugeLength_7cf53_12 : decode cJ8_hugeLength_7cf53 12 = .ok (.new 89, 3) := by decide +kernel
theorem dJ8_hugeLength_7cf53_15 : decode cJ8_hugeLength_7cf53 15 = .ok (.dup, 1) := by decide +kernel
theorem dJ8_hugeLength_7cf53_16 : decode cJ8_hugeLength_7cf53 16 = .ok (.invokespecial 91, 3) := by decide +kernel
theorem dJ8_hugeLength_7cf53_19 : decode cJ8_hugeLength_7cf53 19 = .ok (.ldc 206, 2) := by decide +kernel
theorem dJ8_hugeLength_7cf53_21 : decode cJ8_hugeLength_7cf53 21 = .ok (.invokevirtual 94, 3) := by decide +kernel
theorem dJ8_hugeLength_7cf53_24 : decode cJ8_hugeLength_7cf53 24 = .ok (.iload_n 0, 1) := by decide +kernel
theorem dJ8_hugeLength_7cf53_25 : decode cJ8_hugeLength_7cf53 25 = .ok (.invokevirtual 98, 3) := by decide +kernel
theorem dJ8_hugeLength_7cf53_28 : decode cJ8_hugeLength_7cf53 28 = .ok (.ldc 208, 2) := by decide +kernel
theorem dJ8_hugeLength_7cf53_30 : decode cJ8_hugeLength_7cf53 30 = .ok (.invokevirtual 94, 3) := by decide +kernel
theorem dJ8_hugeLength_7cf53_33 : decode cJ8_hugeLength_7cf53 33 = .ok (.iload_n 1, 1) := by decide +kernel
theorem dJ8_hugeLength_7cf53_34 : decode cJ8_hugeLength_7cf53 34 = .ok (.invokevirtual 98, 3) := by decide +kernel
theorem dJ8_hugeLength_7cf53_37 : decode cJ8_hugeLength_7cf53 37 = .ok (.ldc 210, 2) := by decide +kernel
theorem dJ8_hugeLength_7cf53_39 : decode cJ8_hugeLength_7cf53 39 = .ok (.invokevirtual 94, 3) := by decide +kernel
theorem dJ8_hugeLength_7cf53_42 : decode cJ8_hugeLength_7cf53 42 = .ok (.invokevirtual 101, 3) := by decide +kernel
theorem dJ8_hugeLength_7cf53_45 : decode cJ8_hugeLength_7cf53 45 = .ok (.invokespecial 212, 3) := by decide +kernel
theorem dJ8_hugeLength_7cf53_48 : decode cJ8_hugeLength_7cf53 48 = .ok (.athrow, 1) := by decide +kernel
theorem dJ8_hugeLength_7cf53_49 : decode cJ8_hugeLength_7cf53 49 = .ok (.iload_n 2, 1) := by decide +kernel
theorem dJ8_hugeLength_7cf53_50 : decode cJ8_hugeLength_7cf53 50 = .ok (.ldc 200, 2) := by decide +kernel
theorem dJ8_hugeLength_7cf53_52 : decode cJ8_hugeLength_7cf53 52 = .ok (.if_icmp .gt 6, 3) := by decide +kernel
theorem dJ8_hugeLength_7cf53_55 : decode cJ8_hugeLength_7cf53 55 = .ok (.ldc 200, 2) := by decide +kernel
theorem dJ8_hugeLength_7cf53_57 : decode cJ8_hugeLength_7cf53 57 = .ok (.ireturn, 1) := by decide +kernel
theorem dJ8_hugeLength_7cf53_58 : decode cJ8_hugeLength_7cf53 58 = .ok (.iload_n 2, 1) := by decide +kernel
theorem dJ8_hugeLength_7cf53_59 : decode cJ8_hugeLength_7cf53 59 = .ok (.ireturn, 1) := by decide +kernel
theorem dJ3_checkIndex_8e157_0 : decode cJ3_checkIndex_8e157 0 = .ok (.iload_n 0, 1) := by decide +kernel
theorem dJ3_checkIndex_8e157_1 : decode cJ3_checkIndex_8e157 1 = .ok (.ifCond .lt 8, 3) := by decide +kernel
theorem dJ3_checkIndex_8e157_4 : decode cJ3_checkIndex_8e157 4 = .ok (.iload_n 0, 1) := by decide +kernel
theorem dJ3_checkIndex_8e157_5 : decode cJ3_checkIndex_8e157 5 = .ok (.iload_n 1, 1) := by decide +kernel
theorem dJ3_checkIndex_8e157_6 : decode cJ3_checkIndex_8e157 6 = .ok (.if_icmp .lt 10, 3) := by decide +kernel
theorem dJ3_checkIndex_8e157_9 : decode cJ3_checkIndex_8e157 9 = .ok (.aload_n 2, 1) := by decide +kernel
theorem dJ3_checkIndex_8e157_10 : decode cJ3_checkIndex_8e157 10 = .ok (.iload_n 0, 1) := by decide +kernel
theorem dJ3_checkIndex_8e157_11 : decode cJ3_checkIndex_8e157 11 = .ok (.iload_n 1, 1) := by decide +kernel
theorem dJ3_checkIndex_8e157_12 : decode cJ3_checkIndex_8e157 12 = .ok (.invokestatic 95, 3) := by decide +kernel
theorem dJ3_checkIndex_8e157_15 : decode cJ3_checkIndex_8e157 15 = .ok (.athrow, 1) := by decide +kernel
theorem dJ3_checkIndex_8e157_16 : decode cJ3_checkIndex_8e157 16 = .ok (.iload_n 0, 1) := by decide +kernel
theorem dJ3_checkIndex_8e157_17 : decode cJ3_checkIndex_8e157 17 = .ok (.ireturn, 1) := by decide +kernel
set_option maxRecDepth 20000 in
theorem ggL_join_X1_join : GoodIn wsL_join wsX1_join := goodIn_ca (goodIn_ca (goodIn_r _ [7, 8, 9, 10, 11, 12, 13, 14, 15, 16, 17, 18, 19, 20, 21, 22, 23, 24, 25, 26, 27, 28, 29, 30, 31, 32, 33, 34, 35, 36, 37, 38, 39, 40, 41, 42, 43, 44, 45, 46, 47, 48, 49, 50, 51, 52, 53, 54, 55, 56, 57, 58, 59, 60, 61, 62, 63, 64, 65, 66, 67, 68, 69, 70, 71, 72, 73, 74, 75, 76, 77, 78, 79, 80, 81, 82, 83, 84, 85, 86, 87, 88, 89, 90, 91, 92, 93, 94, 95, 96, 97, 98, 99, 100, 101, 102, 103, 104, 105, 106, 107, 108] (by decide +kernel) (by decide +kernel)) (goodIn_sub (fun _ h => List.mem_cons_of_mem _ (List.mem_append_left _ (List.mem_append_right _ h))) (by decide +kernel))) (goodIn_sub (fun _ h => List.mem_cons_of_mem _ (List.mem_append_right _ h)) (by decide +kernel))
set_option maxRecDepth 20000 in
theorem gL_join_X1_join : GoodIn wsL_join (wsV RL 7 RX1 yX1_join wsX1_join) := goodIn_app (goodIn_of _ (by decide +kernel)) ggL_join_X1_join
theorem dL_join_0 : decode cL_join 0 = .ok (.aload_n 3, 1) := by decide +kernel
theorem dL_join_1 : decode cL_join 1 = .ok (.iconst 0, 1) := by decide +kernel
theorem dL_join_2 : decode cL_join 2 = .ok (.aload_n 0, 1) := by decide +kernel
theorem dL_join_3 : decode cL_join 3 = .ok (.iload_n 1, 1) := by decide +kernel
theorem dL_join_4 : decode cL_join 4 = .ok (.iload_n 2, 1) := by decide +kernel
theorem dL_join_5 : decode cL_join 5 = .ok (.invokevirtual 7, 3) := by decide +kernel
theorem dL_join_8 : decode cL_join 8 = .ok (.i2l, 1) := by decide +kernel
theorem dL_join_9 : decode cL_join 9 = .ok (.lastore, 1) := by decide +kernel
theorem dL_join_10 : decode cL_join 10 = .ok (.goto 11, 3) := by decide +kernel
theorem dL_join_13 : decode cL_join 13 = .ok (.astore 4, 2) := by decide +kernel
theorem dL_join_15 : decode cL_join 15 = .ok (.iconst 1, 1) := by decide +kernel
theorem dL_join_16 : decode cL_join 16 = .ok (.ireturn, 1) := by decide +kernel
theorem dL_join_17 : decode cL_join 17 = .ok (.astore 4, 2) := by decide +kernel
theorem dL_join_19 : decode cL_join 19 = .ok (.iconst 2, 1) := by decide +kernel
theorem dL_join_20 : decode cL_join 20 = .ok (.ireturn, 1) := by decide +kernel
theorem dL_join_21 : decode cL_join 21 = .ok (.iconst 0, 1) := by decide +kernel
theorem dL_join_22 : decode cL_join 22 = .ok (.ireturn, 1) := by decide +kernel
set_option maxRecDepth 20000 in
theorem ggL_buyLamp_X1_buyLamp : GoodIn wsL_buyLamp wsX1_buyLamp := goodIn_ca (goodIn_ca (goodIn_ca (goodIn_r _ [8, 9, 10, 11, 12, 13, 14, 15, 7, 16, 17, 18, 19, 20, 21, 22, 23, 24, 25, 26, 27, 28, 29, 30, 31, 32, 33, 34, 35, 36, 37, 38, 39, 40, 41, 42, 43, 44, 45, 46, 47, 48, 49, 50, 51, 52, 53, 54, 55, 56, 57, 58, 59] (by decide +kernel) (by decide +kernel)) (goodIn_sub (fun _ h => List.mem_cons_of_mem _ (List.mem_append_left _ (List.mem_append_left _ (List.mem_append_right _ h)))) (by decide +kernel))) (goodIn_sub (fun _ h => List.mem_cons_of_mem _ (List.mem_append_left _ (List.mem_append_right _ h))) (by decide +kernel))) (goodIn_sub (fun _ h => List.mem_cons_of_mem _ (List.mem_append_right _ h)) (by decide +kernel))
set_option maxRecDepth 20000 in
theorem gL_buyLamp_X1_buyLamp : GoodIn wsL_buyLamp (wsV RL 17 RX1 yX1_buyLamp wsX1_buyLamp) := goodIn_app (goodIn_of _ (by decide +kernel)) ggL_buyLamp_X1_buyLamp
theorem dL_buyLamp_0 : decode cL_buyLamp 0 = .ok (.aload_n 3, 1) := by decide +kernel
theorem dL_buyLamp_1 : decode cL_buyLamp 1 = .ok (.iconst 0, 1) := by decide +kernel
theorem dL_buyLamp_2 : decode cL_buyLamp 2 = .ok (.aload_n 0, 1) := by decide +kernel
theorem dL_buyLamp_3 : decode cL_buyLamp 3 = .ok (.iload_n 1, 1) := by decide +kernel
theorem dL_buyLamp_4 : decode cL_buyLamp 4 = .ok (.iload_n 2, 1) := by decide +kernel
theorem dL_buyLamp_5 : decode cL_buyLamp 5 = .ok (.invokevirtual 17, 3) := by decide +kernel
theorem dL_buyLamp_8 : decode cL_buyLamp 8 = .ok (.i2l, 1) := by decide +kernel
theorem dL_buyLamp_9 : decode cL_buyLamp 9 = .ok (.lastore, 1) := by decide +kernel
theorem dL_buyLamp_10 : decode cL_buyLamp 10 = .ok (.goto 15, 3) := by decide +kernel
theorem dL_buyLamp_13 : decode cL_buyLamp 13 = .ok (.astore 4, 2) := by decide +kernel
theorem dL_buyLamp_15 : decode cL_buyLamp 15 = .ok (.iconst 1, 1) := by decide +kernel
theorem dL_buyLamp_16 : decode cL_buyLamp 16 = .ok (.ireturn, 1) := by decide +kernel
theorem dL_buyLamp_17 : decode cL_buyLamp 17 = .ok (.astore 4, 2) := by decide +kernel
theorem dL_buyLamp_19 : decode cL_buyLamp 19 = .ok (.iconst 2, 1) := by decide +kernel
theorem dL_buyLamp_20 : decode cL_buyLamp 20 = .ok (.ireturn, 1) := by decide +kernel
theorem dL_buyLamp_21 : decode cL_buyLamp 21 = .ok (.astore 4, 2) := by decide +kernel
theorem dL_buyLamp_23 : decode cL_buyLamp 23 = .ok (.iconst 3, 1) := by decide +kernel
theorem dL_buyLamp_24 : decode cL_buyLamp 24 = .ok (.ireturn, 1) := by decide +kernel
theorem dL_buyLamp_25 : decode cL_buyLamp 25 = .ok (.iconst 0, 1) := by decide +kernel
theorem dL_buyLamp_26 : decode cL_buyLamp 26 = .ok (.ireturn, 1) := by decide +kernel
set_option maxRecDepth 20000 in
theorem ggL_dropLamp_X1_dropLamp : GoodIn wsL_dropLamp wsX1_dropLamp := goodIn_ca (goodIn_ca (goodIn_r _ [7, 8, 9, 10, 11, 12, 6, 13, 14, 15, 16, 17, 18, 19, 20, 21, 22, 23, 24, 25, 26, 27, 28, 29, 30, 31, 32, 33, 34, 35, 36, 37, 38, 39, 40, 41, 42, 43, 44, 45, 46, 47, 48, 49, 50, 51, 52, 53, 54, 55, 56] (by decide +kernel) (by decide +kernel)) (goodIn_sub (fun _ h => List.mem_cons_of_mem _ (List.mem_append_left _ (List.mem_append_right _ h))) (by decide +kernel))) (goodIn_sub (fun _ h => List.mem_cons_of_mem _ (List.mem_append_right _ h)) (by decide +kernel))
set_option maxRecDepth 20000 in
theorem gL_dropLamp_X1_dropLamp : GoodIn wsL_dropLamp (wsV RL 22 RX1 yX1_dropLamp wsX1_dropLamp) := goodIn_app (goodIn_of _ (by decide +kernel)) ggL_dropLamp_X1_dropLamp
theorem dL_dropLamp_0 : decode cL_dropLamp 0 = .ok (.aload_n 2, 1) := by decide +kernel
theorem dL_dropLamp_1 : decode cL_dropLamp 1 = .ok (.iconst 0, 1) := by decide +kernel
theorem dL_dropLamp_2 : decode cL_dropLamp 2 = .ok (.aload_n 0, 1) := by decide +kernel
theorem dL_dropLamp_3 : decode cL_dropLamp 3 = .ok (.iload_n 1, 1) := by decide +kernel
theorem dL_dropLamp_4 : decode cL_dropLamp 4 = .ok (.invokevirtual 22, 3) := by decide +kernel
theorem dL_dropLamp_7 : decode cL_dropLamp 7 = .ok (.i2l, 1) := by decide +kernel
theorem dL_dropLamp_8 : decode cL_dropLamp 8 = .ok (.lastore, 1) := by decide +kernel
theorem dL_dropLamp_9 : decode cL_dropLamp 9 = .ok (.goto 9, 3) := by decide +kernel
theorem dL_dropLamp_12 : decode cL_dropLamp 12 = .ok (.astore_n 3, 1) := by decide +kernel
theorem dL_dropLamp_13 : decode cL_dropLamp 13 = .ok (.iconst 1, 1) := by decide +kernel
theorem dL_dropLamp_14 : decode cL_dropLamp 14 = .ok (.ireturn, 1) := by decide +kernel
theorem dL_dropLamp_15 : decode cL_dropLamp 15 = .ok (.astore_n 3, 1) := by decide +kernel
theorem dL_dropLamp_16 : decode cL_dropLamp 16 = .ok (.iconst 2, 1) := by decide +kernel
theorem dL_dropLamp_17 : decode cL_dropLamp 17 = .ok (.ireturn, 1) := by decide +kernel
theorem dL_dropLamp_18 : decode cL_dropLamp 18 = .ok (.iconst 0, 1) := by decide +kernel
theorem dL_dropLamp_19 : decode cL_dropLamp 19 = .ok (.ireturn, 1) := by decide +kernel
set_option maxRecDepth 20000 in
theorem ggL_borrow_X1_borrow : GoodIn wsL_borrow wsX1_borrow := goodIn_ca (goodIn_ca (goodIn_ca (goodIn_r _ [8, 9, 10, 11, 12, 13, 14, 15, 7, 16, 17, 18, 19, 20, 21, 22, 23, 24, 25, 26, 27, 28, 29, 30, 31, 32, 33, 34, 35, 36, 37, 38, 39, 40, 41, 42, 43, 44, 45, 46, 47, 48, 49, 50, 51, 52, 53, 54, 55, 56, 57, 58, 59, 60, 61, 62, 63, 64, 65, 66, 67, 68, 69, 70] (by decide +kernel) (by decide +kernel)) (goodIn_sub (fun _ h => List.mem_cons_of_mem _ (List.mem_append_left _ (List.mem_append_left _ (List.mem_append_right _ h)))) (by decide +kernel))) (goodIn_sub (fun _ h => List.mem_cons_of_mem _ (List.mem_append_left _ (List.mem_append_right _ h))) (by decide +kernel))) (goodIn_sub (fun _ h => List.mem_cons_of_mem _ (List.mem_append_right _ h)) (by decide +kernel))
set_option maxRecDepth 20000 in
theorem gL_borrow_X1_borrow : GoodIn wsL_borrow (wsV RL 26 RX1 yX1_borrow wsX1_borrow) := goodIn_app (goodIn_of _ (by decide +kernel)) ggL_borrow_X1_borrow
theorem dL_borrow_0 : decode cL_borrow 0 = .ok (.aload_n 3, 1) := by decide +kernel
theorem dL_borrow_1 : decode cL_borrow 1 = .ok (.iconst 0, 1) := by decide +kernel
theorem dL_borrow_2 : decode cL_borrow 2 = .ok (.aload_n 0, 1) := by decide +kernel
theorem dL_borrow_3 : decode cL_borrow 3 = .ok (.iload_n 1, 1) := by decide +kernel
theorem dL_borrow_4 : decode cL_borrow 4 = .ok (.iload_n 2, 1) := by decide +kernel
theorem dL_borrow_5 : decode cL_borrow 5 = .ok (.invokevirtual 26, 3) := by decide +kernel
theorem dL_borrow_8 : decode cL_borrow 8 = .ok (.i2l, 1) := by decide +kernel
theorem dL_borrow_9 : decode cL_borrow 9 = .ok (.lastore, 1) := by decide +kernel
theorem dL_borrow_10 : decode cL_borrow 10 = .ok (.goto 15, 3) := by decide +kernel
theorem dL_borrow_13 : decode cL_borrow 13 = .ok (.astore 4, 2) := by decide +kernel
theorem dL_borrow_15 : decode cL_borrow 15 = .ok (.iconst 1, 1) := by decide +kernel
theorem dL_borrow_16 : decode cL_borrow 16 = .ok (.ireturn, 1) := by decide +kernel
theorem dL_borrow_17 : decode cL_borrow 17 = .ok (.astore 4, 2) := by decide +kernel
theorem dL_borrow_19 : decode cL_borrow 19 = .ok (.iconst 2, 1) := by decide +kernel
theorem dL_borrow_20 : decode cL_borrow 20 = .ok (.ireturn, 1) := by decide +kernel
theorem dL_borrow_21 : decode cL_borrow 21 = .ok (.astore 4, 2) := by decide +kernel
theorem dL_borrow_23 : decode cL_borrow 23 = .ok (.iconst 3, 1) := by decide +kernel
theorem dL_borrow_24 : decode cL_borrow 24 = .ok (.ireturn, 1) := by decide +kernel
theorem dL_borrow_25 : decode cL_borrow 25 = .ok (.iconst 0, 1) := by decide +kernel
theorem dL_borrow_26 : decode cL_borrow 26 = .ok (.ireturn, 1) := by decide +kernel
set_option maxRecDepth 20000 in
theorem ggL_giveBack_X1_giveBack : GoodIn wsL_giveBack wsX1_giveBack := goodIn_ca (goodIn_ca (goodIn_r _ [7, 8, 9, 10, 11, 12, 6, 13, 14, 15, 16, 17, 18, 19, 20, 21, 22, 23, 24, 25, 26, 27, 28, 29, 30, 31, 32, 33, 34, 35, 36, 37, 38, 39, 40, 41, 42, 43, 44, 45, 46, 47, 48, 49, 50, 51, 52, 53, 54, 55, 56, 57, 58, 59, 60, 61, 62, 63, 64, 65, 66, 67, 68, 69] (by decide +kernel) (by decide +kernel)) (goodIn_sub (fun _ h => List.mem_cons_of_mem _ (List.mem_append_left _ (List.mem_append_right _ h))) (by decide +kernel))) (goodIn_sub (fun _ h => List.mem_cons_of_mem _ (List.mem_append_right _ h)) (by decide +kernel))
set_option maxRecDepth 20000 in
theorem gL_giveBack_X1_giveBack : GoodIn wsL_giveBack (wsV RL 29 RX1 yX1_giveBack wsX1_giveBack) := goodIn_app (goodIn_of _ (by decide +kernel)) ggL_giveBack_X1_giveBack
theorem dL_giveBack_0 : decode cL_giveBack 0 = .ok (.aload_n 2, 1) := by decide +kernel
theorem dL_giveBack_1 : decode cL_giveBack 1 = .ok (.iconst 0, 1) := by decide +kernel
theorem dL_giveBack_2 : decode cL_giveBack 2 = .ok (.aload_n 0, 1) := by decide +kernel
theorem dL_giveBack_3 : decode cL_giveBack 3 = .ok (.iload_n 1, 1) := by decide +kernel
theorem dL_giveBack_4 : decode cL_giveBack 4 = .ok (.invokevirtual 29, 3) := by decide +kernel
theorem dL_giveBack_7 : decode cL_giveBack 7 = .ok (.i2l, 1) := by decide +kernel
theorem dL_giveBack_8 : decode cL_giveBack 8 = .ok (.lastore, 1) := by decide +kernel
theorem dL_giveBack_9 : decode cL_giveBack 9 = .ok (.goto 9, 3) := by decide +kernel
theorem dL_giveBack_12 : decode cL_giveBack 12 = .ok (.astore_n 3, 1) := by decide +kernel
theorem dL_giveBack_13 : decode cL_giveBack 13 = .ok (.iconst 1, 1) := by decide +kernel
theorem dL_giveBack_14 : decode cL_giveBack 14 = .ok (.ireturn, 1) := by decide +kernel
theorem dL_giveBack_15 : decode cL_giveBack 15 = .ok (.astore_n 3, 1) := by decide +kernel
theorem dL_giveBack_16 : decode cL_giveBack 16 = .ok (.iconst 2, 1) := by decide +kernel
theorem dL_giveBack_17 : decode cL_giveBack 17 = .ok (.ireturn, 1) := by decide +kernel
theorem dL_giveBack_18 : decode cL_giveBack 18 = .ok (.iconst 0, 1) := by decide +kernel
theorem dL_giveBack_19 : decode cL_giveBack 19 = .ok (.ireturn, 1) := by decide +kernel
set_option maxRecDepth 20000 in
theorem ggL_certify_X1_certify : GoodIn wsL_certify wsX1_certify := goodIn_ca (goodIn_ca (goodIn_r _ [7, 8, 9, 10, 11, 12, 6, 13, 14, 15, 16, 17, 18, 19, 20, 21, 22, 23, 24, 25, 26, 27, 28, 29, 30, 31, 32, 33, 34, 35, 36, 37, 38, 39, 40, 41, 42, 43, 44, 45, 46, 47, 48, 49, 50, 51, 52, 53, 54, 55, 56, 57, 58, 59, 60, 61, 62, 63, 64, 65, 66, 67, 68, 69, 70, 71, 72, 73, 74, 75, 76, 77, 78, 79, 80, 81, 82, 83] (by decide +kernel) (by decide +kernel)) (goodIn_sub (fun _ h => List.mem_cons_of_mem _ (List.mem_append_left _ (List.mem_append_right _ h))) (by decide +kernel))) (goodIn_sub (fun _ h => List.mem_cons_of_mem _ (List.mem_append_right _ h)) (by decide +kernel))
set_option maxRecDepth 20000 in
theorem gL_certify_X1_certify : GoodIn wsL_certify (wsV RL 32 RX1 yX1_certify wsX1_certify) := goodIn_app (goodIn_of _ (by decide +kernel)) ggL_certify_X1_certify
theorem dL_certify_0 : decode cL_certify 0 = .ok (.aload_n 2, 1) := by decide +kernel
theorem dL_certify_1 : decode cL_certify 1 = .ok (.iconst 0, 1) := by decide +kernel
theorem dL_certify_2 : decode cL_certify 2 = .ok (.aload_n 0, 1) := by decide +kernel
theorem dL_certify_3 : decode cL_certify 3 = .ok (.iload_n 1, 1) := by decide +kernel
theorem dL_certify_4 : decode cL_certify 4 = .ok (.invokevirtual 32, 3) := by decide +kernel
theorem dL_certify_7 : decode cL_certify 7 = .ok (.i2l, 1) := by decide +kernel
theorem dL_certify_8 : decode cL_certify 8 = .ok (.lastore, 1) := by decide +kernel
theorem dL_certify_9 : decode cL_certify 9 = .ok (.goto 9, 3) := by decide +kernel
theorem dL_certify_12 : decode cL_certify 12 = .ok (.astore_n 3, 1) := by decide +kernel
theorem dL_certify_13 : decode cL_certify 13 = .ok (.iconst 1, 1) := by decide +kernel
theorem dL_certify_14 : decode cL_certify 14 = .ok (.ireturn, 1) := by decide +kernel
theorem dL_certify_15 : decode cL_certify 15 = .ok (.astore_n 3, 1) := by decide +kernel
theorem dL_certify_16 : decode cL_certify 16 = .ok (.iconst 2, 1) := by decide +kernel
theorem dL_certify_17 : decode cL_certify 17 = .ok (.ireturn, 1) := by decide +kernel
theorem dL_certify_18 : decode cL_certify 18 = .ok (.iconst 0, 1) := by decide +kernel
theorem dL_certify_19 : decode cL_certify 19 = .ok (.ireturn, 1) := by decide +kernel
set_option maxRecDepth 20000 in
theorem ggL_pass_X1_pass : GoodIn wsL_pass wsX1_pass := goodIn_ca (goodIn_r _ [6, 7, 8, 9, 10, 11, 12, 5, 13, 14, 15, 16, 17, 18, 19, 20, 21, 22, 23, 24, 25, 26, 27, 28, 29, 30, 31, 32, 33, 34, 35, 36, 37, 38, 39, 40, 41, 42, 43, 44, 45, 46, 47, 48, 49, 50, 51, 52, 53, 54, 55, 56, 57, 58, 59, 60, 61, 62, 63, 64, 65, 66, 67, 68, 69, 70, 71, 72, 73, 74, 75, 76, 77, 78, 79, 80, 81, 82, 83, 84, 85, 86, 87, 88, 89, 90, 91, 92, 93, 94, 95, 96, 97, 98, 99, 100, 101, 102, 103, 104, 105, 106] (by decide +kernel) (by decide +kernel)) (goodIn_sub (fun _ h => List.mem_cons_of_mem _ (List.mem_append_right _ h)) (by decide +kernel))
set_option maxRecDepth 20000 in
theorem gL_pass_X1_pass : GoodIn wsL_pass (wsV RL 35 RX1 yX1_pass wsX1_pass) := goodIn_app (goodIn_of _ (by decide +kernel)) ggL_pass_X1_pass
theorem dL_pass_0 : decode cL_pass 0 = .ok (.aload_n 2, 1) := by decide +kernel
theorem dL_pass_1 : decode cL_pass 1 = .ok (.iconst 0, 1) := by decide +kernel
theorem dL_pass_2 : decode cL_pass 2 = .ok (.aload_n 0, 1) := by decide +kernel
theorem dL_pass_3 : decode cL_pass 3 = .ok (.iload_n 1, 1) := by decide +kernel
theorem dL_pass_4 : decode cL_pass 4 = .ok (.invokevirtual 35, 3) := by decide +kernel
theorem dL_pass_7 : decode cL_pass 7 = .ok (.i2l, 1) := by decide +kernel
theorem dL_pass_8 : decode cL_pass 8 = .ok (.lastore, 1) := by decide +kernel
theorem dL_pass_9 : decode cL_pass 9 = .ok (.goto 6, 3) := by decide +kernel
theorem dL_pass_12 : decode cL_pass 12 = .ok (.astore_n 3, 1) := by decide +kernel
theorem dL_pass_13 : decode cL_pass 13 = .ok (.iconst 1, 1) := by decide +kernel
theorem dL_pass_14 : decode cL_pass 14 = .ok (.ireturn, 1) := by decide +kernel
theorem dL_pass_15 : decode cL_pass 15 = .ok (.iconst 0, 1) := by decide +kernel
theorem dL_pass_16 : decode cL_pass 16 = .ok (.ireturn, 1) := by decide +kernel
set_option maxRecDepth 20000 in
theorem ggL_lampOf_X1_lampOf : GoodIn wsL_lampOf wsX1_lampOf := goodIn_ca (goodIn_r _ [6, 7, 8, 9, 5, 10, 11, 12, 13, 14, 15, 16, 17, 18, 19, 20, 21, 22, 23, 24, 25, 26, 27, 28, 29, 30, 31, 32, 33, 34, 35, 36, 37, 38, 39, 40, 41, 42, 43, 44, 45, 46, 47, 48, 49, 50, 51, 52, 53] (by decide +kernel) (by decide +kernel)) (goodIn_sub (fun _ h => List.mem_cons_of_mem _ (List.mem_append_right _ h)) (by decide +kernel))
set_option maxRecDepth 20000 in
theorem gL_lampOf_X1_lampOf : GoodIn wsL_lampOf (wsV RL 38 RX1 yX1_lampOf wsX1_lampOf) := goodIn_app (goodIn_of _ (by decide +kernel)) ggL_lampOf_X1_lampOf
theorem dL_lampOf_0 : decode cL_lampOf 0 = .ok (.aload_n 2, 1) := by decide +kernel
theorem dL_lampOf_1 : decode cL_lampOf 1 = .ok (.iconst 0, 1) := by decide +kernel
theorem dL_lampOf_2 : decode cL_lampOf 2 = .ok (.aload_n 0, 1) := by decide +kernel
theorem dL_lampOf_3 : decode cL_lampOf 3 = .ok (.iload_n 1, 1) := by decide +kernel
theorem dL_lampOf_4 : decode cL_lampOf 4 = .ok (.invokevirtual 38, 3) := by decide +kernel
theorem dL_lampOf_7 : decode cL_lampOf 7 = .ok (.i2l, 1) := by decide +kernel
theorem dL_lampOf_8 : decode cL_lampOf 8 = .ok (.lastore, 1) := by decide +kernel
theorem dL_lampOf_9 : decode cL_lampOf 9 = .ok (.goto 6, 3) := by decide +kernel
theorem dL_lampOf_12 : decode cL_lampOf 12 = .ok (.astore_n 3, 1) := by decide +kernel
theorem dL_lampOf_13 : decode cL_lampOf 13 = .ok (.iconst 1, 1) := by decide +kernel
theorem dL_lampOf_14 : decode cL_lampOf 14 = .ok (.ireturn, 1) := by decide +kernel
theorem dL_lampOf_15 : decode cL_lampOf 15 = .ok (.iconst 0, 1) := by decide +kernel
theorem dL_lampOf_16 : decode cL_lampOf 16 = .ok (.ireturn, 1) := by decide +kernel
set_option maxRecDepth 20000 in
theorem ggL_purseOf_X1_purseOf : GoodIn wsL_purseOf wsX1_purseOf := goodIn_ca (goodIn_r _ [6, 7, 8, 9, 5, 10, 11, 12, 13, 14, 15, 16, 17, 18, 19, 20, 21, 22, 23, 24, 25, 26, 27, 28, 29, 30, 31, 32, 33, 34, 35, 36, 37, 38, 39, 40, 41, 42, 43, 44, 45, 46, 47, 48, 49, 50, 51, 52, 53] (by decide +kernel) (by decide +kernel)) (goodIn_sub (fun _ h => List.mem_cons_of_mem _ (List.mem_append_right _ h)) (by decide +kernel))
set_option maxRecDepth 20000 in
theorem gL_purseOf_X1_purseOf : GoodIn wsL_purseOf (wsV RL 41 RX1 yX1_purseOf wsX1_purseOf) := goodIn_app (goodIn_of _ (by decide +kernel)) ggL_purseOf_X1_purseOf
theorem dL_purseOf_0 : decode cL_purseOf 0 = .ok (.aload_n 2, 1) := by decide +kernel
theorem dL_purseOf_1 : decode cL_purseOf 1 = .ok (.iconst 0, 1) := by decide +kernel
theorem dL_purseOf_2 : decode cL_purseOf 2 = .ok (.aload_n 0, 1) := by decide +kernel
theorem dL_purseOf_3 : decode cL_purseOf 3 = .ok (.iload_n 1, 1) := by decide +kernel
theorem dL_purseOf_4 : decode cL_purseOf 4 = .ok (.invokevirtual 41, 3) := by decide +kernel
theorem dL_purseOf_7 : decode cL_purseOf 7 = .ok (.i2l, 1) := by decide +kernel
theorem dL_purseOf_8 : decode cL_purseOf 8 = .ok (.lastore, 1) := by decide +kernel
theorem dL_purseOf_9 : decode cL_purseOf 9 = .ok (.goto 6, 3) := by decide +kernel
theorem dL_purseOf_12 : decode cL_purseOf 12 = .ok (.astore_n 3, 1) := by decide +kernel
theorem dL_purseOf_13 : decode cL_purseOf 13 = .ok (.iconst 1, 1) := by decide +kernel
theorem dL_purseOf_14 : decode cL_purseOf 14 = .ok (.ireturn, 1) := by decide +kernel
theorem dL_purseOf_15 : decode cL_purseOf 15 = .ok (.iconst 0, 1) := by decide +kernel
theorem dL_purseOf_16 : decode cL_purseOf 16 = .ok (.ireturn, 1) := by decide +kernel
set_option maxRecDepth 20000 in
theorem ggL_wears_X1_wears : GoodIn wsL_wears wsX1_wears := goodIn_ca (goodIn_r _ [6, 7, 8, 9, 5, 10, 11, 12, 13, 14, 15, 16, 17, 18, 19, 20, 21, 22, 23, 24, 25, 26, 27, 28, 29, 30, 31, 32, 33, 34, 35, 36, 37, 38, 39, 40, 41, 42, 43, 44, 45, 46, 47, 48, 49, 50, 51, 52, 53, 54, 55, 56, 57, 58, 59] (by decide +kernel) (by decide +kernel)) (goodIn_sub (fun _ h => List.mem_cons_of_mem _ (List.mem_append_right _ h)) (by decide +kernel))
set_option maxRecDepth 20000 in
theorem gL_wears_X1_wears : GoodIn wsL_wears (wsV RL 44 RX1 yX1_wears wsX1_wears) := goodIn_app (goodIn_of _ (by decide +kernel)) ggL_wears_X1_wears
theorem dL_wears_0 : decode cL_wears 0 = .ok (.aload_n 2, 1) := by decide +kernel
theorem dL_wears_1 : decode cL_wears 1 = .ok (.iconst 0, 1) := by decide +kernel
theorem dL_wears_2 : decode cL_wears 2 = .ok (.aload_n 0, 1) := by decide +kernel
theorem dL_wears_3 : decode cL_wears 3 = .ok (.iload_n 1, 1) := by decide +kernel
theorem dL_wears_4 : decode cL_wears 4 = .ok (.invokevirtual 44, 3) := by decide +kernel
theorem dL_wears_7 : decode cL_wears 7 = .ok (.i2l, 1) := by decide +kernel
theorem dL_wears_8 : decode cL_wears 8 = .ok (.lastore, 1) := by decide +kernel
theorem dL_wears_9 : decode cL_wears 9 = .ok (.goto 6, 3) := by decide +kernel
theorem dL_wears_12 : decode cL_wears 12 = .ok (.astore_n 3, 1) := by decide +kernel
theorem dL_wears_13 : decode cL_wears 13 = .ok (.iconst 1, 1) := by decide +kernel
theorem dL_wears_14 : decode cL_wears 14 = .ok (.ireturn, 1) := by decide +kernel
theorem dL_wears_15 : decode cL_wears 15 = .ok (.iconst 0, 1) := by decide +kernel
theorem dL_wears_16 : decode cL_wears 16 = .ok (.ireturn, 1) := by decide +kernel
set_option maxRecDepth 20000 in
theorem ggL_hatOn_X1_hatOn : GoodIn wsL_hatOn wsX1_hatOn := goodIn_ca (goodIn_r _ [6, 7, 8, 9, 5, 10, 11, 12, 13, 14, 15, 16, 17, 18, 19, 20, 21, 22, 23, 24, 25, 26, 27, 28, 29, 30, 31, 32, 33, 34, 35, 36, 37, 38, 39, 40, 41, 42, 43, 44, 45, 46, 47, 48, 49, 50, 51, 52, 53, 54, 55, 56, 57, 58, 59] (by decide +kernel) (by decide +kernel)) (goodIn_sub (fun _ h => List.mem_cons_of_mem _ (List.mem_append_right _ h)) (by decide +kernel))
set_option maxRecDepth 20000 in
theorem gL_hatOn_X1_hatOn : GoodIn wsL_hatOn (wsV RL 47 RX1 yX1_hatOn wsX1_hatOn) := goodIn_app (goodIn_of _ (by decide +kernel)) ggL_hatOn_X1_hatOn
theorem dL_hatOn_0 : decode cL_hatOn 0 = .ok (.aload_n 2, 1) := by decide +kernel
theorem dL_hatOn_1 : decode cL_hatOn 1 = .ok (.iconst 0, 1) := by decide +kernel
theorem dL_hatOn_2 : decode cL_hatOn 2 = .ok (.aload_n 0, 1) := by decide +kernel
theorem dL_hatOn_3 : decode cL_hatOn 3 = .ok (.iload_n 1, 1) := by decide +kernel
theorem dL_hatOn_4 : decode cL_hatOn 4 = .ok (.invokevirtual 47, 3) := by decide +kernel
theorem dL_hatOn_7 : decode cL_hatOn 7 = .ok (.i2l, 1) := by decide +kernel
theorem dL_hatOn_8 : decode cL_hatOn 8 = .ok (.lastore, 1) := by decide +kernel
theorem dL_hatOn_9 : decode cL_hatOn 9 = .ok (.goto 6, 3) := by decide +kernel
theorem dL_hatOn_12 : decode cL_hatOn 12 = .ok (.astore_n 3, 1) := by decide +kernel
theorem dL_hatOn_13 : decode cL_hatOn 13 = .ok (.iconst 1, 1) := by decide +kernel
theorem dL_hatOn_14 : decode cL_hatOn 14 = .ok (.ireturn, 1) := by decide +kernel
theorem dL_hatOn_15 : decode cL_hatOn 15 = .ok (.iconst 0, 1) := by decide +kernel
theorem dL_hatOn_16 : decode cL_hatOn 16 = .ok (.ireturn, 1) := by decide +kernel
set_option maxRecDepth 20000 in
theorem ggL_hasLent_X1_hasLent : GoodIn wsL_hasLent wsX1_hasLent := goodIn_ca (goodIn_r _ [6, 7, 8, 9, 5, 10, 11, 12, 13, 14, 15, 16, 17, 18, 19, 20, 21, 22, 23, 24, 25, 26, 27, 28, 29, 30, 31, 32, 33, 34, 35, 36, 37, 38, 39, 40, 41, 42, 43, 44, 45, 46, 47, 48, 49, 50, 51, 52, 53, 54, 55, 56, 57] (by decide +kernel) (by decide +kernel)) (goodIn_sub (fun _ h => List.mem_cons_of_mem _ (List.mem_append_right _ h)) (by decide +kernel))
set_option maxRecDepth 20000 in
theorem gL_hasLent_X1_hasLent : GoodIn wsL_hasLent (wsV RL 50 RX1 yX1_hasLent wsX1_hasLent) := goodIn_app (goodIn_of _ (by decide +kernel)) ggL_hasLent_X1_hasLent
theorem dL_hasLent_0 : decode cL_hasLent 0 = .ok (.aload_n 2, 1) := by decide +kernel
theorem dL_hasLent_1 : decode cL_hasLent 1 = .ok (.iconst 0, 1) := by decide +kernel
theorem dL_hasLent_2 : decode cL_hasLent 2 = .ok (.aload_n 0, 1) := by decide +kernel
theorem dL_hasLent_3 : decode cL_hasLent 3 = .ok (.iload_n 1, 1) := by decide +kernel
theorem dL_hasLent_4 : decode cL_hasLent 4 = .ok (.invokevirtual 50, 3) := by decide +kernel
theorem dL_hasLent_7 : decode cL_hasLent 7 = .ok (.ifCond .eq 7, 3) := by decide +kernel
theorem dL_hasLent_10 : decode cL_hasLent 10 = .ok (.lconst 1, 1) := by decide +kernel
theorem dL_hasLent_11 : decode cL_hasLent 11 = .ok (.goto 4, 3) := by decide +kernel
theorem dL_hasLent_14 : decode cL_hasLent 14 = .ok (.lconst 0, 1) := by decide +kernel
theorem dL_hasLent_15 : decode cL_hasLent 15 = .ok (.lastore, 1) := by decide +kernel
theorem dL_hasLent_16 : decode cL_hasLent 16 = .ok (.goto 6, 3) := by decide +kernel
theorem dL_hasLent_19 : decode cL_hasLent 19 = .ok (.astore_n 3, 1) := by decide +kernel
theorem dL_hasLent_20 : decode cL_hasLent 20 = .ok (.iconst 1, 1) := by decide +kernel
theorem dL_hasLent_21 : decode cL_hasLent 21 = .ok (.ireturn, 1) := by decide +kernel
theorem dL_hasLent_22 : decode cL_hasLent 22 = .ok (.iconst 0, 1) := by decide +kernel
theorem dL_hasLent_23 : decode cL_hasLent 23 = .ok (.ireturn, 1) := by decide +kernel
set_option maxRecDepth 20000 in
theorem ggL_isExpelled_X1_isExpelled : GoodIn wsL_isExpelled wsX1_isExpelled := goodIn_ca (goodIn_r _ [6, 7, 8, 9, 5, 10, 11, 12, 13, 14, 15, 16, 17, 18, 19, 20, 21, 22, 23, 24, 25, 26, 27, 28, 29, 30, 31, 32, 33, 34, 35, 36, 37, 38, 39, 40, 41, 42, 43, 44, 45, 46, 47, 48, 49, 50, 51, 52, 53, 54, 55, 56, 57, 58] (by decide +kernel) (by decide +kernel)) (goodIn_sub (fun _ h => List.mem_cons_of_mem _ (List.mem_append_right _ h)) (by decide +kernel))
set_option maxRecDepth 20000 in
theorem gL_isExpelled_X1_isExpelled : GoodIn wsL_isExpelled (wsV RL 54 RX1 yX1_isExpelled wsX1_isExpelled) := goodIn_app (goodIn_of _ (by decide +kernel)) ggL_isExpelled_X1_isExpelled
theorem dL_isExpelled_0 : decode cL_isExpelled 0 = .ok (.aload_n 2, 1) := by decide +kernel
theorem dL_isExpelled_1 : decode cL_isExpelled 1 = .ok (.iconst 0, 1) := by decide +kernel
theorem dL_isExpelled_2 : decode cL_isExpelled 2 = .ok (.aload_n 0, 1) := by decide +kernel
theorem dL_isExpelled_3 : decode cL_isExpelled 3 = .ok (.iload_n 1, 1) := by decide +kernel
theorem dL_isExpelled_4 : decode cL_isExpelled 4 = .ok (.invokevirtual 54, 3) := by decide +kernel
theorem dL_isExpelled_7 : decode cL_isExpelled 7 = .ok (.ifCond .eq 7, 3) := by decide +kernel
theorem dL_isExpelled_10 : decode cL_isExpelled 10 = .ok (.lconst 1, 1) := by decide +kernel
theorem dL_isExpelled_11 : decode cL_isExpelled 11 = .ok (.goto 4, 3) := by decide +kernel
theorem dL_isExpelled_14 : decode cL_isExpelled 14 = .ok (.lconst 0, 1) := by decide +kernel
theorem dL_isExpelled_15 : decode cL_isExpelled 15 = .ok (.lastore, 1) := by decide +kernel
theorem dL_isExpelled_16 : decode cL_isExpelled 16 = .ok (.goto 6, 3) := by decide +kernel
theorem dL_isExpelled_19 : decode cL_isExpelled 19 = .ok (.astore_n 3, 1) := by decide +kernel
theorem dL_isExpelled_20 : decode cL_isExpelled 20 = .ok (.iconst 1, 1) := by decide +kernel
theorem dL_isExpelled_21 : decode cL_isExpelled 21 = .ok (.ireturn, 1) := by decide +kernel
theorem dL_isExpelled_22 : decode cL_isExpelled 22 = .ok (.iconst 0, 1) := by decide +kernel
theorem dL_isExpelled_23 : decode cL_isExpelled 23 = .ok (.ireturn, 1) := by decide +kernel
set_option maxRecDepth 20000 in
theorem ggL_shadowOf_X1_shadowOf : GoodIn wsL_shadowOf wsX1_shadowOf := goodIn_ca (goodIn_r _ [6, 7, 8, 9, 5, 10, 11, 12, 13, 14, 15, 16, 17, 18, 19, 20, 21, 22, 23, 24, 25, 26, 27, 28, 29, 30, 31, 32, 33, 34, 35, 36, 37, 38, 39, 40, 41, 42, 43, 44, 45, 46, 47, 48, 49, 50, 51, 52, 53, 54, 55, 56, 57, 58, 59, 60, 61, 62, 63, 64, 65, 66, 67, 68, 69, 70, 71, 72, 73, 74, 75, 76] (by decide +kernel) (by decide +kernel)) (goodIn_sub (fun _ h => List.mem_cons_of_mem _ (List.mem_append_right _ h)) (by decide +kernel))
set_option maxRecDepth 20000 in
theorem gL_shadowOf_X1_shadowOf : GoodIn wsL_shadowOf (wsV RL 57 RX1 yX1_shadowOf wsX1_shadowOf) := goodIn_app (goodIn_of _ (by decide +kernel)) ggL_shadowOf_X1_shadowOf
theorem dL_shadowOf_0 : decode cL_shadowOf 0 = .ok (.aload_n 2, 1) := by decide +kernel
theorem dL_shadowOf_1 : decode cL_shadowOf 1 = .ok (.iconst 0, 1) := by decide +kernel
theorem dL_shadowOf_2 : decode cL_shadowOf 2 = .ok (.aload_n 0, 1) := by decide +kernel
theorem dL_shadowOf_3 : decode cL_shadowOf 3 = .ok (.iload_n 1, 1) := by decide +kernel
theorem dL_shadowOf_4 : decode cL_shadowOf 4 = .ok (.invokevirtual 57, 3) := by decide +kernel
theorem dL_shadowOf_7 : decode cL_shadowOf 7 = .ok (.i2l, 1) := by decide +kernel
theorem dL_shadowOf_8 : decode cL_shadowOf 8 = .ok (.lastore, 1) := by decide +kernel
theorem dL_shadowOf_9 : decode cL_shadowOf 9 = .ok (.goto 6, 3) := by decide +kernel
theorem dL_shadowOf_12 : decode cL_shadowOf 12 = .ok (.astore_n 3, 1) := by decide +kernel
theorem dL_shadowOf_13 : decode cL_shadowOf 13 = .ok (.iconst 1, 1) := by decide +kernel
theorem dL_shadowOf_14 : decode cL_shadowOf 14 = .ok (.ireturn, 1) := by decide +kernel
theorem dL_shadowOf_15 : decode cL_shadowOf 15 = .ok (.iconst 0, 1) := by decide +kernel
theorem dL_shadowOf_16 : decode cL_shadowOf 16 = .ok (.ireturn, 1) := by decide +kernel
set_option maxRecDepth 20000 in
theorem ggL_honestShadow_X1_honestShadow : GoodIn wsL_honestShadow wsX1_honestShadow := goodIn_ca (goodIn_r _ [6, 7, 8, 9, 10, 11, 5, 12, 13, 14, 15, 16, 17, 18, 19, 20, 21, 22, 23, 24, 25, 26, 27, 28, 29, 30, 31, 32, 33, 34, 35, 36, 37, 38, 39, 40, 41, 42, 43, 44, 45, 46, 47, 48, 49, 50, 51, 52, 53, 54, 55, 56, 57, 58, 59, 60, 61, 62, 63, 64, 65] (by decide +kernel) (by decide +kernel)) (goodIn_sub (fun _ h => List.mem_cons_of_mem _ (List.mem_append_right _ h)) (by decide +kernel))
set_option maxRecDepth 20000 in
theorem gL_honestShadow_X1_honestShadow : GoodIn wsL_honestShadow (wsV RL 60 RX1 yX1_honestShadow wsX1_honestShadow) := goodIn_app (goodIn_of _ (by decide +kernel)) ggL_honestShadow_X1_honestShadow
theorem dL_honestShadow_0 : decode cL_honestShadow 0 = .ok (.aload_n 3, 1) := by decide +kernel
theorem dL_honestShadow_1 : decode cL_honestShadow 1 = .ok (.iconst 0, 1) := by decide +kernel
theorem dL_honestShadow_2 : decode cL_honestShadow 2 = .ok (.aload_n 0, 1) := by decide +kernel
theorem dL_honestShadow_3 : decode cL_honestShadow 3 = .ok (.iload_n 1, 1) := by decide +kernel
theorem dL_honestShadow_4 : decode cL_honestShadow 4 = .ok (.iload_n 2, 1) := by decide +kernel
theorem dL_honestShadow_5 : decode cL_honestShadow 5 = .ok (.invokevirtual 60, 3) := by decide +kernel
theorem dL_honestShadow_8 : decode cL_honestShadow 8 = .ok (.i2l, 1) := by decide +kernel
theorem dL_honestShadow_9 : decode cL_honestShadow 9 = .ok (.lastore, 1) := by decide +kernel
theorem dL_honestShadow_10 : decode cL_honestShadow 10 = .ok (.goto 7, 3) := by decide +kernel
theorem dL_honestShadow_13 : decode cL_honestShadow 13 = .ok (.astore 4, 2) := by decide +kernel
theorem dL_honestShadow_15 : decode cL_honestShadow 15 = .ok (.iconst 1, 1) := by decide +kernel
theorem dL_honestShadow_16 : decode cL_honestShadow 16 = .ok (.ireturn, 1) := by decide +kernel
theorem dL_honestShadow_17 : decode cL_honestShadow 17 = .ok (.iconst 0, 1) := by decide +kernel
theorem dL_honestShadow_18 : decode cL_honestShadow 18 = .ok (.ireturn, 1) := by decide +kernel
set_option maxRecDepth 20000 in
theorem ggL_certified_X1_certified : GoodIn wsL_certified wsX1_certified := goodIn_ca (goodIn_r _ [6, 7, 8, 9, 5, 10, 11, 12, 13, 14, 15, 16, 17, 18, 19, 20, 21, 22, 23, 24, 25, 26, 27, 28, 29, 30, 31, 32, 33, 34, 35, 36, 37, 38, 39, 40, 41, 42, 43, 44, 45, 46, 47, 48, 49, 50, 51, 52, 53] (by decide +kernel) (by decide +kernel)) (goodIn_sub (fun _ h => List.mem_cons_of_mem _ (List.mem_append_right _ h)) (by decide +kernel))
set_option maxRecDepth 20000 in
theorem gL_certified_X1_certified : GoodIn wsL_certified (wsV RL 63 RX1 yX1_certified wsX1_certified) := goodIn_app (goodIn_of _ (by decide +kernel)) ggL_certified_X1_certified
theorem dL_certified_0 : decode cL_certified 0 = .ok (.aload_n 2, 1) := by decide +kernel
theorem dL_certified_1 : decode cL_certified 1 = .ok (.iconst 0, 1) := by decide +kernel
theorem dL_certified_2 : decode cL_certified 2 = .ok (.aload_n 0, 1) := by decide +kernel
theorem dL_certified_3 : decode cL_certified 3 = .ok (.iload_n 1, 1) := by decide +kernel
theorem dL_certified_4 : decode cL_certified 4 = .ok (.invokevirtual 63, 3) := by decide +kernel
theorem dL_certified_7 : decode cL_certified 7 = .ok (.i2l, 1) := by decide +kernel
theorem dL_certified_8 : decode cL_certified 8 = .ok (.lastore, 1) := by decide +kernel
theorem dL_certified_9 : decode cL_certified 9 = .ok (.goto 6, 3) := by decide +kernel
theorem dL_certified_12 : decode cL_certified 12 = .ok (.astore_n 3, 1) := by decide +kernel
theorem dL_certified_13 : decode cL_certified 13 = .ok (.iconst 1, 1) := by decide +kernel
theorem dL_certified_14 : decode cL_certified 14 = .ok (.ireturn, 1) := by decide +kernel
theorem dL_certified_15 : decode cL_certified 15 = .ok (.iconst 0, 1) := by decide +kernel
theorem dL_certified_16 : decode cL_certified 16 = .ok (.ireturn, 1) := by decide +kernel
set_option maxRecDepth 20000 in
theorem ggL_isHonest_X1_isHonest : GoodIn wsL_isHonest wsX1_isHonest := goodIn_ca (goodIn_ca (goodIn_r _ [7, 8, 9, 10, 11, 12, 6, 13, 14, 15, 16, 17, 18, 19, 20, 21, 22, 23, 24, 25, 26, 27, 28, 29, 30, 31, 32, 33, 34, 35, 36, 37, 38, 39, 40, 41, 42, 43, 44, 45, 46, 47, 48, 49, 50, 51, 52, 53, 54, 55, 56, 57, 58, 59, 60, 61, 62, 63, 64, 65, 66, 67, 68, 69, 70, 71, 72, 73, 74, 75, 76, 77, 78] (by decide +kernel) (by decide +kernel)) (goodIn_sub (fun _ h => List.mem_cons_of_mem _ (List.mem_append_left _ (List.mem_append_right _ h))) (by decide +kernel))) (goodIn_sub (fun _ h => List.mem_cons_of_mem _ (List.mem_append_right _ h)) (by decide +kernel))
set_option maxRecDepth 20000 in
theorem gL_isHonest_X1_isHonest : GoodIn wsL_isHonest (wsV RL 66 RX1 yX1_isHonest wsX1_isHonest) := goodIn_app (goodIn_of _ (by decide +kernel)) ggL_isHonest_X1_isHonest
theorem dL_isHonest_0 : decode cL_isHonest 0 = .ok (.aload_n 2, 1) := by decide +kernel
theorem dL_isHonest_1 : decode cL_isHonest 1 = .ok (.iconst 0, 1) := by decide +kernel
theorem dL_isHonest_2 : decode cL_isHonest 2 = .ok (.aload_n 0, 1) := by decide +kernel
theorem dL_isHonest_3 : decode cL_isHonest 3 = .ok (.iload_n 1, 1) := by decide +kernel
theorem dL_isHonest_4 : decode cL_isHonest 4 = .ok (.invokevirtual 66, 3) := by decide +kernel
theorem dL_isHonest_7 : decode cL_isHonest 7 = .ok (.ifCond .eq 7, 3) := by decide +kernel
theorem dL_isHonest_10 : decode cL_isHonest 10 = .ok (.lconst 1, 1) := by decide +kernel
theorem dL_isHonest_11 : decode cL_isHonest 11 = .ok (.goto 4, 3) := by decide +kernel
theorem dL_isHonest_14 : decode cL_isHonest 14 = .ok (.lconst 0, 1) := by decide +kernel
theorem dL_isHonest_15 : decode cL_isHonest 15 = .ok (.lastore, 1) := by decide +kernel
theorem dL_isHonest_16 : decode cL_isHonest 16 = .ok (.goto 9, 3) := by decide +kernel
theorem dL_isHonest_19 : decode cL_isHonest 19 = .ok (.astore_n 3, 1) := by decide +kernel
theorem dL_isHonest_20 : decode cL_isHonest 20 = .ok (.iconst 1, 1) := by decide +kernel
theorem dL_isHonest_21 : decode cL_isHonest 21 = .ok (.ireturn, 1) := by decide +kernel
theorem dL_isHonest_22 : decode cL_isHonest 22 = .ok (.astore_n 3, 1) := by decide +kernel
theorem dL_isHonest_23 : decode cL_isHonest 23 = .ok (.iconst 2, 1) := by decide +kernel
theorem dL_isHonest_24 : decode cL_isHonest 24 = .ok (.ireturn, 1) := by decide +kernel
theorem dL_isHonest_25 : decode cL_isHonest 25 = .ok (.iconst 0, 1) := by decide +kernel
theorem dL_isHonest_26 : decode cL_isHonest 26 = .ok (.ireturn, 1) := by decide +kernel
set_option maxRecDepth 20000 in
theorem ggL_auditBrings_X1_auditBrings : GoodIn wsL_auditBrings wsX1_auditBrings := goodIn_ca (goodIn_r _ [6, 7, 8, 9, 5, 10, 11, 12, 13, 14, 15, 16, 17, 18, 19, 20, 21, 22, 23, 24, 25, 26, 27, 28, 29, 30, 31, 32, 33, 34, 35, 36, 37, 38, 39, 40, 41, 42, 43, 44, 45, 46, 47, 48, 49, 50, 51, 52, 53, 54, 55, 56, 57, 58, 59, 60, 61, 62, 63, 64, 65, 66, 67, 68, 69, 70, 71, 72, 73, 74, 75, 76, 77, 78, 79, 80, 81, 82, 83, 84, 85, 86, 87, 88] (by decide +kernel) (by decide +kernel)) (goodIn_sub (fun _ h => List.mem_cons_of_mem _ (List.mem_append_right _ h)) (by decide +kernel))
set_option maxRecDepth 20000 in
theorem gL_auditBrings_X1_auditBrings : GoodIn wsL_auditBrings (wsV RL 69 RX1 yX1_auditBrings wsX1_auditBrings) := goodIn_app (goodIn_of _ (by decide +kernel)) ggL_auditBrings_X1_auditBrings
theorem dL_auditBrings_0 : decode cL_auditBrings 0 = .ok (.aload_n 2, 1) := by decide +kernel
theorem dL_auditBrings_1 : decode cL_auditBrings 1 = .ok (.iconst 0, 1) := by decide +kernel
theorem dL_auditBrings_2 : decode cL_auditBrings 2 = .ok (.aload_n 0, 1) := by decide +kernel
theorem dL_auditBrings_3 : decode cL_auditBrings 3 = .ok (.iload_n 1, 1) := by decide +kernel
theorem dL_auditBrings_4 : decode cL_auditBrings 4 = .ok (.invokevirtual 69, 3) := by decide +kernel
theorem dL_auditBrings_7 : decode cL_auditBrings 7 = .ok (.i2l, 1) := by decide +kernel
theorem dL_auditBrings_8 : decode cL_auditBrings 8 = .ok (.lastore, 1) := by decide +kernel
theorem dL_auditBrings_9 : decode cL_auditBrings 9 = .ok (.goto 6, 3) := by decide +kernel
theorem dL_auditBrings_12 : decode cL_auditBrings 12 = .ok (.astore_n 3, 1) := by decide +kernel
theorem dL_auditBrings_13 : decode cL_auditBrings 13 = .ok (.iconst 1, 1) := by decide +kernel
theorem dL_auditBrings_14 : decode cL_auditBrings 14 = .ok (.ireturn, 1) := by decide +kernel
theorem dL_auditBrings_15 : decode cL_auditBrings 15 = .ok (.iconst 0, 1) := by decide +kernel
theorem dL_auditBrings_16 : decode cL_auditBrings 16 = .ok (.ireturn, 1) := by decide +kernel
set_option maxRecDepth 20000 in
theorem ggL_bestHat_X1_bestHat : GoodIn wsL_bestHat wsX1_bestHat := goodIn_ca (goodIn_r _ [6, 7, 8, 9, 5, 10, 11, 12, 13, 14, 15, 16, 17, 18, 19, 20, 21, 22, 23, 24, 25, 26, 27, 28, 29, 30, 31, 32, 33, 34, 35, 36, 37, 38, 39, 40, 41, 42, 43, 44, 45, 46, 47, 48, 49, 50, 51, 52, 53, 54, 55, 56, 57, 58, 59, 60, 61, 62, 63, 64, 65, 66, 67, 68, 69, 70, 71, 72, 73, 74, 75, 76, 77, 78, 79, 80] (by decide +kernel) (by decide +kernel)) (goodIn_sub (fun _ h => List.mem_cons_of_mem _ (List.mem_append_right _ h)) (by decide +kernel))
set_option maxRecDepth 20000 in
theorem gL_bestHat_X1_bestHat : GoodIn wsL_bestHat (wsV RL 72 RX1 yX1_bestHat wsX1_bestHat) := goodIn_app (goodIn_of _ (by decide +kernel)) ggL_bestHat_X1_bestHat
theorem dL_bestHat_0 : decode cL_bestHat 0 = .ok (.aload_n 2, 1) := by decide +kernel
theorem dL_bestHat_1 : decode cL_bestHat 1 = .ok (.iconst 0, 1) := by decide +kernel
theorem dL_bestHat_2 : decode cL_bestHat 2 = .ok (.aload_n 0, 1) := by decide +kernel
theorem dL_bestHat_3 : decode cL_bestHat 3 = .ok (.iload_n 1, 1) := by decide +kernel
theorem dL_bestHat_4 : decode cL_bestHat 4 = .ok (.invokevirtual 72, 3) := by decide +kernel
theorem dL_bestHat_7 : decode cL_bestHat 7 = .ok (.i2l, 1) := by decide +kernel
theorem dL_bestHat_8 : decode cL_bestHat 8 = .ok (.lastore, 1) := by decide +kernel
theorem dL_bestHat_9 : decode cL_bestHat 9 = .ok (.goto 6, 3) := by decide +kernel
theorem dL_bestHat_12 : decode cL_bestHat 12 = .ok (.astore_n 3, 1) := by decide +kernel
theorem dL_bestHat_13 : decode cL_bestHat 13 = .ok (.iconst 1, 1) := by decide +kernel
theorem dL_bestHat_14 : decode cL_bestHat 14 = .ok (.ireturn, 1) := by decide +kernel
theorem dL_bestHat_15 : decode cL_bestHat 15 = .ok (.iconst 0, 1) := by decide +kernel
theorem dL_bestHat_16 : decode cL_bestHat 16 = .ok (.ireturn, 1) := by decide +kernel
set_option maxRecDepth 20000 in
theorem ggL_longestIn_X1_longestIn : GoodIn wsL_longestIn wsX1_longestIn := goodIn_ca (goodIn_r _ [6, 7, 8, 9, 5, 10, 11, 12, 13, 14, 15, 16, 17, 18, 19, 20, 21, 22, 23, 24, 25, 26, 27, 28, 29, 30, 31, 32, 33, 34, 35, 36, 37, 38, 39, 40, 41, 42, 43, 44, 45, 46, 47, 48, 49, 50, 51, 52, 53, 54, 55, 56, 57, 58, 59, 60, 61, 62, 63, 64, 65, 66, 67, 68, 69, 70, 71, 72, 73, 74, 75, 76, 77, 78, 79, 80, 81, 82, 83, 84, 85, 86, 87, 88, 89, 90, 91] (by decide +kernel) (by decide +kernel)) (goodIn_sub (fun _ h => List.mem_cons_of_mem _ (List.mem_append_right _ h)) (by decide +kernel))
set_option maxRecDepth 20000 in
theorem gL_longestIn_X1_longestIn : GoodIn wsL_longestIn (wsV RL 75 RX1 yX1_longestIn wsX1_longestIn) := goodIn_app (goodIn_of _ (by decide +kernel)) ggL_longestIn_X1_longestIn
theorem dL_longestIn_0 : decode cL_longestIn 0 = .ok (.aload_n 2, 1) := by decide +kernel
theorem dL_longestIn_1 : decode cL_longestIn 1 = .ok (.iconst 0, 1) := by decide +kernel
theorem dL_longestIn_2 : decode cL_longestIn 2 = .ok (.aload_n 0, 1) := by decide +kernel
theorem dL_longestIn_3 : decode cL_longestIn 3 = .ok (.iload_n 1, 1) := by decide +kernel
theorem dL_longestIn_4 : decode cL_longestIn 4 = .ok (.invokevirtual 75, 3) := by decide +kernel
theorem dL_longestIn_7 : decode cL_longestIn 7 = .ok (.i2l, 1) := by decide +kernel
theorem dL_longestIn_8 : decode cL_longestIn 8 = .ok (.lastore, 1) := by decide +kernel
theorem dL_longestIn_9 : decode cL_longestIn 9 = .ok (.goto 6, 3) := by decide +kernel
theorem dL_longestIn_12 : decode cL_longestIn 12 = .ok (.astore_n 3, 1) := by decide +kernel
theorem dL_longestIn_13 : decode cL_longestIn 13 = .ok (.iconst 1, 1) := by decide +kernel
theorem dL_longestIn_14 : decode cL_longestIn 14 = .ok (.ireturn, 1) := by decide +kernel
theorem dL_longestIn_15 : decode cL_longestIn 15 = .ok (.iconst 0, 1) := by decide +kernel
theorem dL_longestIn_16 : decode cL_longestIn 16 = .ok (.ireturn, 1) := by decide +kernel
