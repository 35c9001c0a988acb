theorem dX4_refillBuckets_0 : decode cX4_refillBuckets 0 = .ok (.iconst 0, 1) := by decide +kernel
theorem dX4_refillBuckets_1 : decode cX4_refillBuckets 1 = .ok (.istore_n 1, 1) := by decide +kernel
theorem dX4_refillBuckets_2 : decode cX4_refillBuckets 2 = .ok (.iload_n 1, 1) := by decide +kernel
theorem dX4_refillBuckets_3 : decode cX4_refillBuckets 3 = .ok (.aload_n 0, 1) := by decide +kernel
theorem dX4_refillBuckets_4 : decode cX4_refillBuckets 4 = .ok (.getfield 24, 3) := by decide +kernel
theorem dX4_refillBuckets_7 : decode cX4_refillBuckets 7 = .ok (.invokevirtual 63, 3) := by decide +kernel
theorem dX4_refillBuckets_10 : decode cX4_refillBuckets 10 = .ok (.if_icmp .ge 23, 3) := by decide +kernel
theorem dX4_refillBuckets_13 : decode cX4_refillBuckets 13 = .ok (.aload_n 0, 1) := by decide +kernel
theorem dX4_refillBuckets_14 : decode cX4_refillBuckets 14 = .ok (.getfield 24, 3) := by decide +kernel
theorem dX4_refillBuckets_17 : decode cX4_refillBuckets 17 = .ok (.iload_n 1, 1) := by decide +kernel
theorem dX4_refillBuckets_18 : decode cX4_refillBuckets 18 = .ok (.invokevirtual 189, 3) := by decide +kernel
theorem dX4_refillBuckets_21 : decode cX4_refillBuckets 21 = .ok (.checkcast 73, 3) := by decide +kernel
theorem dX4_refillBuckets_24 : decode cX4_refillBuckets 24 = .ok (.invokevirtual 203, 3) := by decide +kernel
theorem dX4_refillBuckets_27 : decode cX4_refillBuckets 27 = .ok (.iinc 1 1, 3) := by decide +kernel
theorem dX4_refillBuckets_30 : decode cX4_refillBuckets 30 = .ok (.goto (-28), 3) := by decide +kernel
theorem dX4_refillBuckets_33 : decode cX4_refillBuckets 33 = .ok (.return_, 1) := by decide +kernel
theorem dJ9_max_7cf53_0 : decode cJ9_max_7cf53 0 = .ok (.iload_n 0, 1) := by decide +kernel
theorem dJ9_max_7cf53_1 : decode cJ9_max_7cf53 1 = .ok (.iload_n 1, 1) := by decide +kernel
theorem dJ9_max_7cf53_2 : decode cJ9_max_7cf53 2 = .ok (.if_icmp .lt 7, 3) := by decide +kernel
theorem dJ9_max_7cf53_5 : decode cJ9_max_7cf53 5 = .ok (.iload_n 0, 1) := by decide +kernel
theorem dJ9_max_7cf53_6 : decode cJ9_max_7cf53 6 = .ok (.goto 4, 3) := by decide +kernel
theorem dJ9_max_7cf53_9 : decode cJ9_max_7cf53 9 = .ok (.iload_n 1, 1) := by decide +kernel
theorem dJ9_max_7cf53_10 : decode cJ9_max_7cf53 10 = .ok (.ireturn, 1) := by decide +kernel
theorem dJ9_min_7cf53_0 : decode cJ9_min_7cf53 0 = .ok (.iload_n 0, 1) := by decide +kernel
theorem dJ9_min_7cf53_1 : decode cJ9_min_7cf53 1 = .ok (.iload_n 1, 1) := by decide +kernel
theorem dJ9_min_7cf53_2 : decode cJ9_min_7cf53 2 = .ok (.if_icmp .gt 7, 3) := by decide +kernel
theorem dJ9_min_7cf53_5 : decode cJ9_min_7cf53 5 = .ok (.iload_n 0, 1) := by decide +kernel
theorem dJ9_min_7cf53_6 : decode cJ9_min_7cf53 6 = .ok (.goto 4, 3) := by decide +kernel
theorem dJ9_min_7cf53_9 : decode cJ9_min_7cf53 9 = .ok (.iload_n 1, 1) := by decide +kernel
theorem dJ9_min_7cf53_10 : decode cJ9_min_7cf53 10 = .ok (.ireturn, 1) := by decide +kernel
theorem dJxa1e45_init_da8c8_0 : decode cJxa1e45_init_da8c8 0 = .ok (.aload_n 0, 1) := by decide +kernel
theorem dJxa1e45_init_da8c8_1 : decode cJxa1e45_init_da8c8 1 = .ok (.invokespecial 1, 3) := by decide +kernel
theorem dJxa1e45_init_da8c8_4 : decode cJxa1e45_init_da8c8 4 = .ok (.return_, 1) := by decide +kernel
set_option maxRecDepth 20000 in
theorem ggJxc12de_init_da8c8_Jxa1e45_init_da8c8 : GoodIn wsJxc12de_init_da8c8 wsJxa1e45_init_da8c8 := goodIn_r _ [5, 6, 7, 8] (by decide +kernel) (by decide +kernel)
set_option maxRecDepth 20000 in
theorem gJxc12de_init_da8c8_Jxa1e45_init_da8c8 : GoodIn wsJxc12de_init_da8c8 (wsJxa1e45_init_da8c8) := ggJxc12de_init_da8c8_Jxa1e45_init_da8c8
theorem dJxc12de_init_da8c8_0 : decode cJxc12de_init_da8c8 0 = .ok (.aload_n 0, 1) := by decide +kernel
theorem dJxc12de_init_da8c8_1 : decode cJxc12de_init_da8c8 1 = .ok (.invokespecial 1, 3) := by decide +kernel
theorem dJxc12de_init_da8c8_4 : decode cJxc12de_init_da8c8 4 = .ok (.aload_n 0, 1) := by decide +kernel
theorem dJxc12de_init_da8c8_5 : decode cJxc12de_init_da8c8 5 = .ok (.iconst 0, 1) := by decide +kernel
theorem dJxc12de_init_da8c8_6 : decode cJxc12de_init_da8c8 6 = .ok (.putfield 7, 3) := by decide +kernel
theorem dJxc12de_init_da8c8_9 : decode cJxc12de_init_da8c8 9 = .ok (.return_, 1) := by decide +kernel
set_option maxRecDepth 20000 in
theorem ggJx4a65c_init_da8c8_Jxc12de_init_da8c8 : GoodIn wsJx4a65c_init_da8c8 wsJxc12de_init_da8c8 := goodIn_r _ [6, 7, 8, 9, 10, 11, 12, 13, 14, 15, 16, 17] (by decide +kernel) (by decide +kernel)
set_option maxRecDepth 20000 in
theorem gJx4a65c_init_da8c8_Jxc12de_init_da8c8 : GoodIn wsJx4a65c_init_da8c8 (wsJxc12de_init_da8c8) := ggJx4a65c_init_da8c8_Jxc12de_init_da8c8
theorem dJx4a65c_init_da8c8_0 : decode cJx4a65c_init_da8c8 0 = .ok (.aload_n 0, 1) := by decide +kernel
theorem dJx4a65c_init_da8c8_1 : decode cJx4a65c_init_da8c8 1 = .ok (.invokespecial 1, 3) := by decide +kernel
theorem dJx4a65c_init_da8c8_4 : decode cJx4a65c_init_da8c8 4 = .ok (.aload_n 0, 1) := by decide +kernel
theorem dJx4a65c_init_da8c8_5 : decode cJx4a65c_init_da8c8 5 = .ok (.getstatic 39, 3) := by decide +kernel
theorem dJx4a65c_init_da8c8_8 : decode cJx4a65c_init_da8c8 8 = .ok (.putfield 9, 3) := by decide +kernel
theorem dJx4a65c_init_da8c8_11 : decode cJx4a65c_init_da8c8 11 = .ok (.return_, 1) := by decide +kernel
set_option maxRecDepth 20000 in
theorem ggJx4a65c_grow_92f84_J8_newLength_cabcc : GoodIn wsJx4a65c_grow_92f84 wsJ8_newLength_cabcc := goodIn_r _ [11, 12, 4, 5, 6, 13, 14, 15, 10, 16] (by decide +kernel) (by decide +kernel)
set_option maxRecDepth 20000 in
theorem gJx4a65c_grow_92f84_J8_newLength_cabcc : GoodIn wsJx4a65c_grow_92f84 (va_wsS RJx4a65c 73 yJ8_newLength_cabcc wsJ8_newLength_cabcc) := goodIn_app (goodIn_of _ (by decide +kernel)) ggJx4a65c_grow_92f84_J8_newLength_cabcc
set_option maxRecDepth 20000 in
theorem ggJx4a65c_grow_92f84_J7_copyOf_1904c : GoodIn wsJx4a65c_grow_92f84 wsJ7_copyOf_1904c := goodIn_r _ [20, 21, 22, 23, 24, 25, 26, 19, 27, 28, 29, 30, 31, 5, 32, 33, 34, 35, 36] (by decide +kernel) (by decide +kernel)
set_option maxRecDepth 20000 in
theorem gJx4a65c_grow_92f84_J7_copyOf_1904c : GoodIn wsJx4a65c_grow_92f84 (va_wsS RJx4a65c 66 yJ7_copyOf_1904c wsJ7_copyOf_1904c) := goodIn_app (goodIn_of _ (by decide +kernel)) ggJx4a65c_grow_92f84_J7_copyOf_1904c
theorem dJx4a65c_grow_92f84_0 : decode cJx4a65c_grow_92f84 0 = .ok (.aload_n 0, 1) := by decide +kernel
theorem dJx4a65c_grow_92f84_1 : decode cJx4a65c_grow_92f84 1 = .ok (.getfield 9, 3) := by decide +kernel
theorem dJx4a65c_grow_92f84_4 : decode cJx4a65c_grow_92f84 4 = .ok (.arraylength, 1) := by decide +kernel
theorem dJx4a65c_grow_92f84_5 : decode cJx4a65c_grow_92f84 5 = .ok (.istore_n 2, 1) := by decide +kernel
theorem dJx4a65c_grow_92f84_6 : decode cJx4a65c_grow_92f84 6 = .ok (.iload_n 2, 1) := by decide +kernel
theorem dJx4a65c_grow_92f84_7 : decode cJx4a65c_grow_92f84 7 = .ok (.ifCond .gt 13, 3) := by decide +kernel
theorem dJx4a65c_grow_92f84_10 : decode cJx4a65c_grow_92f84 10 = .ok (.aload_n 0, 1) := by decide +kernel
theorem dJx4a65c_grow_92f84_11 : decode cJx4a65c_grow_92f84 11 = .ok (.getfield 9, 3) := by decide +kernel
theorem dJx4a65c_grow_92f84_14 : decode cJx4a65c_grow_92f84 14 = .ok (.getstatic 39, 3) := by decide +kernel
theorem dJx4a65c_grow_92f84_17 : decode cJx4a65c_grow_92f84 17 = .ok (.if_acmp .eq 28, 3) := by decide +kernel
theorem dJx4a65c_grow_92f84_20 : decode cJx4a65c_grow_92f84 20 = .ok (.iload_n 2, 1) := by decide +kernel
theorem dJx4a65c_grow_92f84_21 : decode cJx4a65c_grow_92f84 21 = .ok (.iload_n 1, 1) := by decide +kernel
theorem dJx4a65c_grow_92f84_22 : decode cJx4a65c_grow_92f84 22 = .ok (.iload_n 2, 1) := by decide +kernel
theorem dJx4a65c_grow_92f84_23 : decode cJx4a65c_grow_92f84 23 = .ok (.isub, 1) := by decide +kernel
theorem dJx4a65c_grow_92f84_24 : decode cJx4a65c_grow_92f84 24 = .ok (.iload_n 2, 1) := by decide +kernel
theorem dJx4a65c_grow_92f84_25 : decode cJx4a65c_grow_92f84 25 = .ok (.iconst 1, 1) := by decide +kernel
theorem dJx4a65c_grow_92f84_26 : decode cJx4a65c_grow_92f84 26 = .ok (.ishr, 1) := by decide +kernel
theorem dJx4a65c_grow_92f84_27 : decode cJx4a65c_grow_92f84 27 = .ok (.invokestatic 73, 3) := by decide +kernel
theorem dJx4a65c_grow_92f84_30 : decode cJx4a65c_grow_92f84 30 = .ok (.istore_n 3, 1) := by decide +kernel
theorem dJx4a65c_grow_92f84_31 : decode cJx4a65c_grow_92f84 31 = .ok (.aload_n 0, 1) := by decide +kernel
theorem dJx4a65c_grow_92f84_32 : decode cJx4a65c_grow_92f84 32 = .ok (.aload_n 0, 1) := by decide +kernel
theorem dJx4a65c_grow_92f84_33 : decode cJx4a65c_grow_92f84 33 = .ok (.getfield 9, 3) := by decide +kernel
theorem dJx4a65c_grow_92f84_36 : decode cJx4a65c_grow_92f84 36 = .ok (.iload_n 3, 1) := by decide +kernel
theorem dJx4a65c_grow_92f84_37 : decode cJx4a65c_grow_92f84 37 = .ok (.invokestatic 66, 3) := by decide +kernel
theorem dJx4a65c_grow_92f84_40 : decode cJx4a65c_grow_92f84 40 = .ok (.dup_x1, 1) := by decide +kernel
theorem dJx4a65c_grow_92f84_41 : decode cJx4a65c_grow_92f84 41 = .ok (.putfield 9, 3) := by decide +kernel
theorem dJx4a65c_grow_92f84_44 : decode cJx4a65c_grow_92f84 44 = .ok (.areturn, 1) := by decide +kernel
theorem dJx4a65c_grow_92f84_45 : decode cJx4a65c_grow_92f84 45 = .ok (.aload_n 0, 1) := by decide +kernel
theorem dJx4a65c_grow_92f84_46 : decode cJx4a65c_grow_92f84 46 = .ok (.bipush 10, 2) := by decide +kernel
theorem dJx4a65c_grow_92f84_48 : decode cJx4a65c_grow_92f84 48 = .ok (.iload_n 1, 1) := by decide +kernel
theorem dJx4a65c_grow_92f84_49 : decode cJx4a65c_grow_92f84 49 = .ok (.invokestatic 79, 3) := by decide +kernel
theorem dJx4a65c_grow_92f84_52 : decode cJx4a65c_grow_92f84 52 = .ok (.anewarray 7, 3) := by decide +kernel
theorem dJx4a65c_grow_92f84_55 : decode cJx4a65c_grow_92f84 55 = .ok (.dup_x1, 1) := by decide +kernel
theorem dJx4a65c_grow_92f84_56 : decode cJx4a65c_grow_92f84 56 = .ok (.putfield 9, 3) := by decide +kernel
theorem dJx4a65c_grow_92f84_59 : decode cJx4a65c_grow_92f84 59 = .ok (.areturn, 1) := by decide +kernel
set_option maxRecDepth 20000 in
theorem ggJx4a65c_grow_d5877_Jx4a65c_grow_92f84 : GoodIn wsJx4a65c_grow_d5877 wsJx4a65c_grow_92f84 := goodIn_r _ [6, 7, 8, 9, 10, 11, 12, 13, 14, 15, 16, 17, 18, 19, 20, 21, 22, 23, 24, 25, 26, 27, 28, 29, 30, 31, 32, 33, 34, 35, 36, 37, 38, 39, 40, 41, 42, 43, 44, 45] (by decide +kernel) (by decide +kernel)
set_option maxRecDepth 20000 in
theorem gJx4a65c_grow_d5877_Jx4a65c_grow_92f84 : GoodIn wsJx4a65c_grow_d5877 (wsV RJx4a65c 69 RJx4a65c yJx4a65c_grow_92f84 wsJx4a65c_grow_92f84) := goodIn_app (goodIn_of _ (by decide +kernel)) ggJx4a65c_grow_d5877_Jx4a65c_grow_92f84
theorem dJx4a65c_grow_d5877_0 : decode cJx4a65c_grow_d5877 0 = .ok (.aload_n 0, 1) := by decide +kernel
theorem dJx4a65c_grow_d5877_1 : decode cJx4a65c_grow_d5877 1 = .ok (.aload_n 0, 1) := by decide +kernel
theorem dJx4a65c_grow_d5877_2 : decode cJx4a65c_grow_d5877 2 = .ok (.getfield 48, 3) := by decide +kernel
theorem dJx4a65c_grow_d5877_5 : decode cJx4a65c_grow_d5877 5 = .ok (.iconst 1, 1) := by decide +kernel
theorem dJx4a65c_grow_d5877_6 : decode cJx4a65c_grow_d5877 6 = .ok (.iadd, 1) := by decide +kernel
theorem dJx4a65c_grow_d5877_7 : decode cJx4a65c_grow_d5877 7 = .ok (.invokevirtual 69, 3) := by decide +kernel
theorem dJx4a65c_grow_d5877_10 : decode cJx4a65c_grow_d5877 10 = .ok (.areturn, 1) := by decide +kernel
theorem dJx4a65c_size_8abf5_0 : decode cJx4a65c_size_8abf5 0 = .ok (.aload_n 0, 1) := by decide +kernel
theorem dJx4a65c_size_8abf5_1 : decode cJx4a65c_size_8abf5 1 = .ok (.getfield 48, 3) := by decide +kernel
theorem dJx4a65c_size_8abf5_4 : decode cJx4a65c_size_8abf5 4 = .ok (.ireturn, 1) := by decide +kernel
theorem dJx4a65c_elementData_915e3_0 : decode cJx4a65c_elementData_915e3 0 = .ok (.aload_n 0, 1) := by decide +kernel
theorem dJx4a65c_elementData_915e3_1 : decode cJx4a65c_elementData_915e3 1 = .ok (.getfield 9, 3) := by decide +kernel
theorem dJx4a65c_elementData_915e3_4 : decode cJx4a65c_elementData_915e3 4 = .ok (.iload_n 1, 1) := by decide +kernel
theorem dJx4a65c_elementData_915e3_5 : decode cJx4a65c_elementData_915e3 5 = .ok (.aaload, 1) := by decide +kernel
theorem dJx4a65c_elementData_915e3_6 : decode cJx4a65c_elementData_915e3 6 = .ok (.areturn, 1) := by decide +kernel
set_option maxRecDepth 20000 in
theorem ggJx4a65c_get_915e3_J15_checkIndex_7cf53 : GoodIn wsJx4a65c_get_915e3 wsJ15_checkIndex_7cf53 := goodIn_r _ [5, 6, 7, 8, 9] (by decide +kernel) (by decide +kernel)
set_option maxRecDepth 20000 in
theorem gJx4a65c_get_915e3_J15_checkIndex_7cf53 : GoodIn wsJx4a65c_get_915e3 (va_wsS RJx4a65c 118 yJ15_checkIndex_7cf53 wsJ15_checkIndex_7cf53) := goodIn_app (goodIn_of _ (by decide +kernel)) ggJx4a65c_get_915e3_J15_checkIndex_7cf53
set_option maxRecDepth 20000 in
theorem ggJx4a65c_get_915e3_Jx4a65c_elementData_915e3 : GoodIn wsJx4a65c_get_915e3 wsJx4a65c_elementData_915e3 := goodIn_r _ [14, 15, 16, 17, 18] (by decide +kernel) (by decide +kernel)
set_option maxRecDepth 20000 in
theorem gJx4a65c_get_915e3_Jx4a65c_elementData_915e3 : GoodIn wsJx4a65c_get_915e3 (wsV RJx4a65c 123 RJx4a65c yJx4a65c_elementData_915e3 wsJx4a65c_elementData_915e3) := goodIn_app (goodIn_of _ (by decide +kernel)) ggJx4a65c_get_915e3_Jx4a65c_elementData_915e3
theorem dJx4a65c_get_915e3_0 : decode cJx4a65c_get_915e3 0 = .ok (.iload_n 1, 1) := by decide +kernel
theorem dJx4a65c_get_915e3_1 : decode cJx4a65c_get_915e3 1 = .ok (.aload_n 0, 1) := by decide +kernel
theorem dJx4a65c_get_915e3_2 : decode cJx4a65c_get_915e3 2 = .ok (.getfield 48, 3) := by decide +kernel
theorem dJx4a65c_get_915e3_5 : decode cJx4a65c_get_915e3 5 = .ok (.invokestatic 118, 3) := by decide +kernel
theorem dJx4a65c_get_915e3_8 : decode cJx4a65c_get_915e3 8 = .ok (.pop, 1) := by decide +kernel
theorem dJx4a65c_get_915e3_9 : decode cJx4a65c_get_915e3 9 = .ok (.aload_n 0, 1) := by decide +kernel
theorem dJx4a65c_get_915e3_10 : decode cJx4a65c_get_915e3 10 = .ok (.iload_n 1, 1) := by decide +kernel
theorem dJx4a65c_get_915e3_11 : decode cJx4a65c_get_915e3 11 = .ok (.invokevirtual 123, 3) := by decide +kernel
theorem dJx4a65c_get_915e3_14 : decode cJx4a65c_get_915e3 14 = .ok (.areturn, 1) := by decide +kernel
set_option maxRecDepth 20000 in
theorem ggJx4a65c_add_72be8_Jx4a65c_grow_d5877 : GoodIn wsJx4a65c_add_72be8 wsJx4a65c_grow_d5877 := goodIn_r _ [6, 1, 7, 8, 9, 5, 10, 11, 12, 13, 14, 15, 16, 17, 18, 19, 20, 21, 22, 23, 24, 25, 26, 27, 28, 29, 30, 31, 32, 33, 34, 35, 36, 37, 38, 39, 40, 41, 42, 43, 44, 45, 46, 47, 48, 49] (by decide +kernel) (by decide +kernel)
set_option maxRecDepth 20000 in
theorem gJx4a65c_add_72be8_Jx4a65c_grow_d5877 : GoodIn wsJx4a65c_add_72be8 (wsV RJx4a65c 129 RJx4a65c yJx4a65c_grow_d5877 wsJx4a65c_grow_d5877) := goodIn_app (goodIn_of _ (by decide +kernel)) ggJx4a65c_add_72be8_Jx4a65c_grow_d5877
theorem dJx4a65c_add_72be8_0 : decode cJx4a65c_add_72be8 0 = .ok (.iload_n 3, 1) := by decide +kernel
theorem dJx4a65c_add_72be8_1 : decode cJx4a65c_add_72be8 1 = .ok (.aload_n 2, 1) := by decide +kernel
theorem dJx4a65c_add_72be8_2 : decode cJx4a65c_add_72be8 2 = .ok (.arraylength, 1) := by decide +kernel
theorem dJx4a65c_add_72be8_3 : decode cJx4a65c_add_72be8 3 = .ok (.if_icmp .ne 8, 3) := by decide +kernel
theorem dJx4a65c_add_72be8_6 : decode cJx4a65c_add_72be8 6 = .ok (.aload_n 0, 1) := by decide +kernel
theorem dJx4a65c_add_72be8_7 : decode cJx4a65c_add_72be8 7 = .ok (.invokevirtual 129, 3) := by decide +kernel
theorem dJx4a65c_add_72be8_10 : decode cJx4a65c_add_72be8 10 = .ok (.astore_n 2, 1) := by decide +kernel
theorem dJx4a65c_add_72be8_11 : decode cJx4a65c_add_72be8 11 = .ok (.aload_n 2, 1) := by decide +kernel
theorem dJx4a65c_add_72be8_12 : decode cJx4a65c_add_72be8 12 = .ok (.iload_n 3, 1) := by decide +kernel
theorem dJx4a65c_add_72be8_13 : decode cJx4a65c_add_72be8 13 = .ok (.aload_n 1, 1) := by decide +kernel
theorem dJx4a65c_add_72be8_14 : decode cJx4a65c_add_72be8 14 = .ok (.aastore, 1) := by decide +kernel
theorem dJx4a65c_add_72be8_15 : decode cJx4a65c_add_72be8 15 = .ok (.aload_n 0, 1) := by decide +kernel
theorem dJx4a65c_add_72be8_16 : decode cJx4a65c_add_72be8 16 = .ok (.iload_n 3, 1) := by decide +kernel
theorem dJx4a65c_add_72be8_17 : decode cJx4a65c_add_72be8 17 = .ok (.iconst 1, 1) := by decide +kernel
theorem dJx4a65c_add_72be8_18 : decode cJx4a65c_add_72be8 18 = .ok (.iadd, 1) := by decide +kernel
theorem dJx4a65c_add_72be8_19 : decode cJx4a65c_add_72be8 19 = .ok (.putfield 48, 3) := by decide +kernel
theorem dJx4a65c_add_72be8_22 : decode cJx4a65c_add_72be8 22 = .ok (.return_, 1) := by decide +kernel
set_option maxRecDepth 20000 in
theorem ggJx4a65c_add_9ea2d_Jx4a65c_add_72be8 : GoodIn wsJx4a65c_add_9ea2d wsJx4a65c_add_72be8 := goodIn_r _ [9, 4, 10, 11, 12, 8, 13, 14, 15, 16, 17, 3, 18, 19, 20, 21, 22, 23, 24, 25, 26, 27, 28, 29, 30, 31, 32, 33, 34, 35, 36, 37, 38, 39, 40, 41, 42, 43, 44, 45, 46, 47, 48, 49, 50, 51, 52, 53, 54, 55] (by decide +kernel) (by decide +kernel)
set_option maxRecDepth 20000 in
theorem gJx4a65c_add_9ea2d_Jx4a65c_add_72be8 : GoodIn wsJx4a65c_add_9ea2d (wsV RJx4a65c 131 RJx4a65c yJx4a65c_add_72be8 wsJx4a65c_add_72be8) := goodIn_app (goodIn_of _ (by decide +kernel)) ggJx4a65c_add_9ea2d_Jx4a65c_add_72be8
theorem dJx4a65c_add_9ea2d_0 : decode cJx4a65c_add_9ea2d 0 = .ok (.aload_n 0, 1) := by decide +kernel
theorem dJx4a65c_add_9ea2d_1 : decode cJx4a65c_add_9ea2d 1 = .ok (.dup, 1) := by decide +kernel
theorem dJx4a65c_add_9ea2d_2 : decode cJx4a65c_add_9ea2d 2 = .ok (.getfield 63, 3) := by decide +kernel
theorem dJx4a65c_add_9ea2d_5 : decode cJx4a65c_add_9ea2d 5 = .ok (.iconst 1, 1) := by decide +kernel
theorem dJx4a65c_add_9ea2d_6 : decode cJx4a65c_add_9ea2d 6 = .ok (.iadd, 1) := by decide +kernel
theorem dJx4a65c_add_9ea2d_7 : decode cJx4a65c_add_9ea2d 7 = .ok (.putfield 63, 3) := by decide +kernel
theorem dJx4a65c_add_9ea2d_10 : decode cJx4a65c_add_9ea2d 10 = .ok (.aload_n 0, 1) := by decide +kernel
theorem dJx4a65c_add_9ea2d_11 : decode cJx4a65c_add_9ea2d 11 = .ok (.aload_n 1, 1) := by decide +kernel
theorem dJx4a65c_add_9ea2d_12 : decode cJx4a65c_add_9ea2d 12 = .ok (.aload_n 0, 1) := by decide +kernel
theorem dJx4a65c_add_9ea2d_13 : decode cJx4a65c_add_9ea2d 13 = .ok (.getfield 9, 3) := by decide +kernel
theorem dJx4a65c_add_9ea2d_16 : decode cJx4a65c_add_9ea2d 16 = .ok (.aload_n 0, 1) := by decide +kernel
theorem dJx4a65c_add_9ea2d_17 : decode cJx4a65c_add_9ea2d 17 = .ok (.getfield 48, 3) := by decide +kernel
theorem dJx4a65c_add_9ea2d_20 : decode cJx4a65c_add_9ea2d 20 = .ok (.invokevirtual 131, 3) := by decide +kernel
theorem dJx4a65c_add_9ea2d_23 : decode cJx4a65c_add_9ea2d 23 = .ok (.iconst 1, 1) := by decide +kernel
theorem dJx4a65c_add_9ea2d_24 : decode cJx4a65c_add_9ea2d 24 = .ok (.ireturn, 1) := by decide +kernel
set_option maxRecDepth 20000 in
theorem ggJ7_copyOf_1904c_J7_copyOf_6403c : GoodIn wsJ7_copyOf_1904c wsJ7_copyOf_6403c := goodIn_r _ [8, 9, 10, 11, 12, 13, 14, 15, 16, 17, 18] (by decide +kernel) (by decide +kernel)
set_option maxRecDepth 20000 in
theorem gJ7_copyOf_1904c_J7_copyOf_6403c : GoodIn wsJ7_copyOf_1904c (va_wsS RJ7 300 yJ7_copyOf_6403c wsJ7_copyOf_6403c) := goodIn_app (goodIn_of _ (by decide +kernel)) ggJ7_copyOf_1904c_J7_copyOf_6403c
theorem dJ7_copyOf_1904c_0 : decode cJ7_copyOf_1904c 0 = .ok (.aload_n 0, 1) := by decide +kernel
theorem dJ7_copyOf_1904c_1 : decode cJ7_copyOf_1904c 1 = .ok (.iload_n 1, 1) := by decide +kernel
theorem dJ7_copyOf_1904c_2 : decode cJ7_copyOf_1904c 2 = .ok (.aload_n 0, 1) := by decide +kernel
theorem dJ7_copyOf_1904c_3 : decode cJ7_copyOf_1904c 3 = .ok (.invokevirtual 86, 3) := by decide +kernel
theorem dJ7_copyOf_1904c_6 : decode cJ7_copyOf_1904c 6 = .ok (.invokestatic 300, 3) := by decide +kernel
theorem dJ7_copyOf_1904c_9 : decode cJ7_copyOf_1904c 9 = .ok (.areturn, 1) := by decide +kernel
theorem dJ7_copyOf_6403c_0 : decode cJ7_copyOf_6403c 0 = .ok (.aload_n 2, 1) := by decide +kernel
theorem dJ7_copyOf_6403c_1 : decode cJ7_copyOf_6403c 1 = .ok (.ldc 110, 2) := by decide +kernel
theorem dJ7_copyOf_6403c_3 : decode cJ7_copyOf_6403c 3 = .ok (.if_acmp .ne 10, 3) := by decide +kernel
theorem dJ7_copyOf_6403c_6 : decode cJ7_copyOf_6403c 6 = .ok (.iload_n 1, 1) := by decide +kernel
theorem dJ7_copyOf_6403c_7 : decode cJ7_copyOf_6403c 7 = .ok (.anewarray 2, 3) := by decide +kernel
theorem dJ7_copyOf_6403c_10 : decode cJ7_copyOf_6403c 10 = .ok (.goto 14, 3) := by decide +kernel
theorem dJ7_copyOf_6403c_13 : decode cJ7_copyOf_6403c 13 = .ok (.aload_n 2, 1) := by decide +kernel
theorem dJ7_copyOf_6403c_14 : decode cJ7_copyOf_6403c 14 = .ok (.invokevirtual 90, 3) := by decide +kernel
theorem dJ7_copyOf_6403c_17 : decode cJ7_copyOf_6403c 17 = .ok (.iload_n 1, 1) := by decide +kernel
theorem dJ7_copyOf_6403c_18 : decode cJ7_copyOf_6403c 18 = .ok (.invokestatic 95, 3) := by decide +kernel
theorem dJ7_copyOf_6403c_21 : decode cJ7_copyOf_6403c 21 = .ok (.checkcast 110, 3) := by decide +kernel
theorem dJ7_copyOf_6403c_24 : decode cJ7_copyOf_6403c 24 = .ok (.astore_n 3, 1) := by decide +kernel
theorem dJ7_copyOf_6403c_25 : decode cJ7_copyOf_6403c 25 = .ok (.aload_n 0, 1) := by decide +kernel
theorem dJ7_copyOf_6403c_26 : decode cJ7_copyOf_6403c 26 = .ok (.iconst 0, 1) := by decide +kernel
theorem dJ7_copyOf_6403c_27 : decode cJ7_copyOf_6403c 27 = .ok (.aload_n 3, 1) := by decide +kernel
theorem dJ7_copyOf_6403c_28 : decode cJ7_copyOf_6403c 28 = .ok (.iconst 0, 1) := by decide +kernel
theorem dJ7_copyOf_6403c_29 : decode cJ7_copyOf_6403c 29 = .ok (.aload_n 0, 1) := by decide +kernel
theorem dJ7_copyOf_6403c_30 : decode cJ7_copyOf_6403c 30 = .ok (.arraylength, 1) := by decide +kernel
theorem dJ7_copyOf_6403c_31 : decode cJ7_copyOf_6403c 31 = .ok (.iload_n 1, 1) := by decide +kernel
theorem dJ7_copyOf_6403c_32 : decode cJ7_copyOf_6403c 32 = .ok (.invokestatic 304, 3) := by decide +kernel
theorem dJ7_copyOf_6403c_35 : decode cJ7_copyOf_6403c 35 = .ok (.invokestatic 150, 3) := by decide +kernel
theorem dJ7_copyOf_6403c_38 : decode cJ7_copyOf_6403c 38 = .ok (.aload_n 3, 1) := by decide +kernel
theorem dJ7_copyOf_6403c_39 : decode cJ7_copyOf_6403c 39 = .ok (.areturn, 1) := by decide +kernel
set_option maxRecDepth 20000 in
theorem ggJ15_checkIndex_7cf53_J3_checkIndex_8e157 : GoodIn wsJ15_checkIndex_7cf53 wsJ3_checkIndex_8e157 := goodIn_r _ [4] (by decide +kernel) (by decide +kernel)
set_option maxRecDepth 20000 in
theorem gJ15_checkIndex_7cf53_J3_checkIndex_8e157 : GoodIn wsJ15_checkIndex_7cf53 (va_wsS RJ15 105 yJ3_checkIndex_8e157 wsJ3_checkIndex_8e157) := goodIn_app (goodIn_of _ (by decide +kernel)) ggJ15_checkIndex_7cf53_J3_checkIndex_8e157
theorem dJ15_checkIndex_7cf53_0 : decode cJ15_checkIndex_7cf53 0 = .ok (.iload_n 0, 1) := by decide +kernel
theorem dJ15_checkIndex_7cf53_1 : decode cJ15_checkIndex_7cf53 1 = .ok (.iload_n 1, 1) := by decide +kernel
theorem dJ15_checkIndex_7cf53_2 : decode cJ15_checkIndex_7cf53 2 = .ok (.aconst_null, 1) := by decide +kernel
theorem dJ15_checkIndex_7cf53_3 : decode cJ15_checkIndex_7cf53 3 = .ok (.invokestatic 105, 3) := by decide +kernel
theorem dJ15_checkIndex_7cf53_6 : decode cJ15_checkIndex_7cf53 6 = .ok (.ireturn, 1) := by decide +kernel
set_option maxRecDepth 20000 in
theorem ggJ8_newLength_cabcc_J8_hugeLength_7cf53 : GoodIn wsJ8_newLength_cabcc wsJ8_hugeLength_7cf53 := goodIn_r _ [9, 5] (by decide +kernel) (by decide +kernel)
set_option maxRecDepth 20000 in
theorem gJ8_newLength_cabcc_J8_hugeLength_7cf53 : GoodIn wsJ8_newLength_cabcc (va_wsS RJ8 201 yJ8_hugeLength_7cf53 wsJ8_hugeLength_7cf53) := goodIn_app (goodIn_of _ (by decide +kernel)) ggJ8_newLength_cabcc_J8_hugeLength_7cf53
theorem dJ8_newLength_cabcc_0 : decode cJ8_newLength_cabcc 0 = .ok (.iload_n 0, 1) := by decide +kernel
theorem dJ8_newLength_cabcc_1 : decode cJ8_newLength_cabcc 1 = .ok (.iload_n 1, 1) := by decide +kernel
theorem dJ8_newLength_cabcc_2 : decode cJ8_newLength_cabcc 2 = .ok (.iload_n 2, 1) := by decide +kernel
theorem dJ8_newLength_cabcc_3 : decode cJ8_newLength_cabcc 3 = .ok (.invokestatic 194, 3) := by decide +kernel
theorem dJ8_newLength_cabcc_6 : decode cJ8_newLength_cabcc 6 = .ok (.iadd, 1) := by decide +kernel
theorem dJ8_newLength_cabcc_7 : decode cJ8_newLength_cabcc 7 = .ok (.istore_n 3, 1) := by decide +kernel
theorem dJ8_newLength_cabcc_8 : decode cJ8_newLength_cabcc 8 = .ok (.iconst 0, 1) := by decide +kernel
theorem dJ8_newLength_cabcc_9 : decode cJ8_newLength_cabcc 9 = .ok (.iload_n 3, 1) := by decide +kernel
theorem dJ8_newLength_cabcc_10 : decode cJ8_newLength_cabcc 10 = .ok (.if_icmp .ge 11, 3) := by decide +kernel
theorem dJ8_newLength_cabcc_13 : decode cJ8_newLength_cabcc 13 = .ok (.iload_n 3, 1) := by decide +kernel
theorem dJ8_newLength_cabcc_14 : decode cJ8_newLength_cabcc 14 = .ok (.ldc 200, 2) := by decide +kernel
theorem dJ8_newLength_cabcc_16 : decode cJ8_newLength_cabcc 16 = .ok (.if_icmp .gt 5, 3) := by decide +kernel
theorem dJ8_newLength_cabcc_19 : decode cJ8_newLength_cabcc 19 = .ok (.iload_n 3, 1) := by decide +kernel
theorem dJ8_newLength_cabcc_20 : decode cJ8_newLength_cabcc 20 = .ok (.ireturn, 1) := by decide +kernel
theorem dJ8_newLength_cabcc_21 : decode cJ8_newLength_cabcc 21 = .ok (.iload_n 0, 1) := by decide +kernel
theorem dJ8_newLength_cabcc_22 : decode cJ8_newLength_cabcc 22 = .ok (.iload_n 1, 1) := by decide +kernel
theorem dJ8_newLength_cabcc_23 : decode cJ8_newLength_cabcc 23 = .ok (.invokestatic 201, 3) := by decide +kernel
theorem dJ8_newLength_cabcc_26 : decode cJ8_newLength_cabcc 26 = .ok (.ireturn, 1) := by decide +kernel
theorem dJ8_hugeLength_7cf53_0 : decode cJ8_hugeLength_7cf53 0 = .ok (.iload_n 0, 1) := by decide +kernel
theorem dJ8_hugeLength_7cf53_1 : decode cJ8_hugeLength_7cf53 1 = .ok (.iload_n 1, 1) := by decide +kernel
theorem dJ8_hugeLength_7cf53_2 : decode cJ8_hugeLength_7cf53 2 = .ok (.iadd, 1) := by decide +kernel
theorem dJ8_hugeLength_7cf53_3 : decode cJ8_hugeLength_7cf53 3 = .ok (.istore_n 2, 1) := by decide +kernel
theorem dJ8_hugeLength_7cf53_4 : decode cJ8_hugeLength_7cf53 4 = .ok (.iload_n 2, 1) := by decide +kernel
theorem dJ8_hugeLength_7cf53_5 : decode cJ8_hugeLength_7cf53 5 = .ok (.ifCond .ge 44, 3) := by decide +kernel
theorem dJ8_hugeLength_7cf53_8 : decode cJ8_hugeLength_7cf53 8 = .ok (.new 204, 3) := by decide +kernel
theorem dJ8_hugeLength_7cf53_11 : decode cJ8_hugeLength_7cf53 11 = .ok (.dup, 1) := by decide +kernel
theorem dJ8_hugeLength_7cf53_12 : decode cJ8_hugeLength_7cf53 12 = .ok (.new 89, 3) := by decide +kernel
theorem dJ8_hugeLength_7cf53_15 : decode cJ8_hugeLength_7cf53 15 = .ok (.dup, 1) := by decide +kernel
theorem dJ8_hugeLength_7cf53_16 : decode cJ8_hugeLength_7cf53 16 = .ok (.invokespecial 91, 3) := by decide +kernel
theorem dJ8_hugeLength_7cf53_19 : decode cJ8_hugeLength_7cf53 19 = .ok (.ldc 206, 2) := by decide +kernel
theorem dJ8_hugeLength_7cf53_21 : decode cJ8_hugeLength_7cf53 21 = .ok (.invokevirtual 94, 3) := by decide +kernel
theorem dJ8_hugeLength_7cf53_24 : decode cJ8_hugeLength_7cf53 24 = .ok (.iload_n 0, 1) := by decide +kernel
theorem dJ8_hugeLength_7cf53_25 : decode cJ8_hugeLength_7cf53 25 = .ok (.invokevirtual 98, 3) := by decide +kernel
theorem dJ8_hugeLength_7cf53_28 : decode cJ8_hugeLength_7cf53 28 = .ok (.ldc 208, 2) := by decide +kernel
theorem dJ8_hugeLength_7cf53_30 : decode cJ8_hugeLength_7cf53 30 = .ok (.invokevirtual 94, 3) := by decide +kernel
theorem dJ8_hugeLength_7cf53_33 : decode cJ8_hugeLength_7cf53 33 = .ok (.iload_n 1, 1) := by decide +kernel
theorem dJ8_hugeLength_7cf53_34 : decode cJ8_hugeLength_7cf53 34 = .ok (.invokevirtual 98, 3) := by decide +kernel
theorem dJ8_hugeLength_7cf53_37 : decode cJ8_hugeLength_7cf53 37 = .ok (.ldc 210, 2) := by decide +kernel
theorem dJ8_hugeLength_7cf53_39 : decode cJ8_hugeLength_7cf53 39 = .ok (.invokevirtual 94, 3) := by decide +kernel
theorem dJ8_hugeLength_7cf53_42 : decode cJ8_hugeLength_7cf53 42 = .ok (.invokevirtual 101, 3) := by decide +kernel
theorem dJ8_hugeLength_7cf53_45 : decode cJ8_hugeLength_7cf53 45 = .ok (.invokespecial 212, 3) := by decide +kernel
theorem dJ8_hugeLength_7cf53_48 : decode cJ8_hugeLength_7cf53 48 = .ok (.athrow, 1) := by decide +kernel
theorem dJ8_hugeLength_7cf53_49 : decode cJ8_hugeLength_7cf53 49 = .ok (.iload_n 2, 1) := by decide +kernel
theorem dJ8_hugeLength_7cf53_50 : decode cJ8_hugeLength_7cf53 50 = .ok (.ldc 200, 2) := by decide +kernel
theorem dJ8_hugeLength_7cf53_52 : decode cJ8_hugeLength_7cf53 52 = .ok (.if_icmp .gt 6, 3) := by decide +kernel
theorem dJ8_hugeLength_7cf53_55 : decode cJ8_hugeLength_7cf53 55 = .ok (.ldc 200, 2) := by decide +kernel
theorem dJ8_hugeLength_7cf53_57 : decode cJ8_hugeLength_7cf53 57 = .ok (.ireturn, 1) := by decide +kernel
theorem dJ8_hugeLength_7cf53_58 : decode cJ8_hugeLength_7cf53 58 = .ok (.iload_n 2, 1) := by decide +kernel
theorem dJ8_hugeLength_7cf53_59 : decode cJ8_hugeLength_7cf53 59 = .ok (.ireturn, 1) := by decide +kernel
theorem dJ3_checkIndex_8e157_0 : decode cJ3_checkIndex_8e157 0 = .ok (.iload_n 0, 1) := by decide +kernel
theorem dJ3_checkIndex_8e157_1 : decode cJ3_checkIndex_8e157 1 = .ok (.ifCond .lt 8, 3) := by decide +kernel
theorem dJ3_checkIndex_8e157_4 : decode cJ3_checkIndex_8e157 4 = .ok (.iload_n 0, 1) := by decide +kernel
theorem dJ3_checkIndex_8e157_5 : decode cJ3_checkIndex_8e157 5 = .ok (.iload_n 1, 1) := by decide +kernel
theorem dJ3_checkIndex_8e157_6 : decode cJ3_checkIndex_8e157 6 = .ok (.if_icmp .lt 10, 3) := by decide +kernel
theorem dJ3_checkIndex_8e157_9 : decode cJ3_checkIndex_8e157 9 = .ok (.aload_n 2, 1) := by decide +kernel
theorem dJ3_checkIndex_8e157_10 : decode cJ3_checkIndex_8e157 10 = .ok (.iload_n 0, 1) := by decide +kernel
theorem dJ3_checkIndex_8e157_11 : decode cJ3_checkIndex_8e157 11 = .ok (.iload_n 1, 1) := by decide +kernel
theorem dJ3_checkIndex_8e157_12 : decode cJ3_checkIndex_8e157 12 = .ok (.invokestatic 95, 3) := by decide +kernel
theorem dJ3_checkIndex_8e157_15 : decode cJ3_checkIndex_8e157 15 = .ok (.athrow, 1) := by decide +kernel
theorem dJ3_checkIndex_8e157_16 : decode cJ3_checkIndex_8e157 16 = .ok (.iload_n 0, 1) := by decide +kernel
theorem dJ3_checkIndex_8e157_17 : decode cJ3_checkIndex_8e157 17 = .ok (.ireturn, 1) := by decide +kernel
theorem dL_cell_0 : decode cL_cell 0 = .ok (.iload_n 1, 1) := by decide +kernel
theorem dL_cell_1 : decode cL_cell 1 = .ok (.aload_n 0, 1) := by decide +kernel
theorem dL_cell_2 : decode cL_cell 2 = .ok (.arraylength, 1) := by decide +kernel
theorem dL_cell_3 : decode cL_cell 3 = .ok (.if_icmp .ge 9, 3) := by decide +kernel
theorem dL_cell_6 : decode cL_cell 6 = .ok (.aload_n 0, 1) := by decide +kernel
theorem dL_cell_7 : decode cL_cell 7 = .ok (.iload_n 1, 1) := by decide +kernel
theorem dL_cell_8 : decode cL_cell 8 = .ok (.iaload, 1) := by decide +kernel
theorem dL_cell_9 : decode cL_cell 9 = .ok (.goto 18, 3) := by decide +kernel
theorem dL_cell_12 : decode cL_cell 12 = .ok (.sipush 7919, 3) := by decide +kernel
theorem dL_cell_15 : decode cL_cell 15 = .ok (.iload_n 1, 1) := by decide +kernel
theorem dL_cell_16 : decode cL_cell 16 = .ok (.sipush 1021, 3) := by decide +kernel
theorem dL_cell_19 : decode cL_cell 19 = .ok (.iadd, 1) := by decide +kernel
theorem dL_cell_20 : decode cL_cell 20 = .ok (.imul, 1) := by decide +kernel
theorem dL_cell_21 : decode cL_cell 21 = .ok (.iload_n 1, 1) := by decide +kernel
theorem dL_cell_22 : decode cL_cell 22 = .ok (.sipush 839, 3) := by decide +kernel
theorem dL_cell_25 : decode cL_cell 25 = .ok (.iadd, 1) := by decide +kernel
theorem dL_cell_26 : decode cL_cell 26 = .ok (.imul, 1) := by decide +kernel
theorem dL_cell_27 : decode cL_cell 27 = .ok (.ireturn, 1) := by decide +kernel
theorem dL_low_0 : decode cL_low 0 = .ok (.iload_n 0, 1) := by decide +kernel
theorem dL_low_1 : decode cL_low 1 = .ok (.ldc 7, 2) := by decide +kernel
theorem dL_low_3 : decode cL_low 3 = .ok (.iand, 1) := by decide +kernel
theorem dL_low_4 : decode cL_low 4 = .ok (.iload_n 1, 1) := by decide +kernel
theorem dL_low_5 : decode cL_low 5 = .ok (.irem, 1) := by decide +kernel
theorem dL_low_6 : decode cL_low 6 = .ok (.ireturn, 1) := by decide +kernel
set_option maxRecDepth 20000 in
theorem ggL_setPlan_X4_setPlan : GoodIn wsL_setPlan wsX4_setPlan := goodIn_ca (goodIn_r _ [7, 8, 9, 10, 6, 11, 12, 13, 14, 15, 16, 17, 18, 19, 20, 21, 22, 23, 24, 25, 26, 27] (by decide +kernel) (by decide +kernel)) (goodIn_sub (fun _ h => List.mem_cons_of_mem _ (List.mem_append_right _ h)) (by decide +kernel))
set_option maxRecDepth 20000 in
theorem gL_setPlan_X4_setPlan : GoodIn wsL_setPlan (wsV RL 8 RX4 yX4_setPlan wsX4_setPlan) := goodIn_app (goodIn_of _ (by decide +kernel)) ggL_setPlan_X4_setPlan
theorem dL_setPlan_0 : decode cL_setPlan 0 = .ok (.aload_n 0, 1) := by decide +kernel
theorem dL_setPlan_1 : decode cL_setPlan 1 = .ok (.iload_n 1, 1) := by decide +kernel
theorem dL_setPlan_2 : decode cL_setPlan 2 = .ok (.iload_n 2, 1) := by decide +kernel
theorem dL_setPlan_3 : decode cL_setPlan 3 = .ok (.iload_n 3, 1) := by decide +kernel
theorem dL_setPlan_4 : decode cL_setPlan 4 = .ok (.iload 4, 2) := by decide +kernel
theorem dL_setPlan_6 : decode cL_setPlan 6 = .ok (.invokevirtual 8, 3) := by decide +kernel
theorem dL_setPlan_9 : decode cL_setPlan 9 = .ok (.iconst 0, 1) := by decide +kernel
theorem dL_setPlan_10 : decode cL_setPlan 10 = .ok (.ireturn, 1) := by decide +kernel
theorem dL_setPlan_11 : decode cL_setPlan 11 = .ok (.astore 5, 2) := by decide +kernel
theorem dL_setPlan_13 : decode cL_setPlan 13 = .ok (.ldc 16, 2) := by decide +kernel
theorem dL_setPlan_15 : decode cL_setPlan 15 = .ok (.ireturn, 1) := by decide +kernel
set_option maxRecDepth 20000 in
theorem ggL_setRoute_X4_setRoute : GoodIn wsL_setRoute wsX4_setRoute := goodIn_ca (goodIn_r _ [7, 8, 9, 10, 6, 11, 12, 13, 14, 15, 16, 17, 18, 19, 20, 21, 22, 23, 24, 25] (by decide +kernel) (by decide +kernel)) (goodIn_sub (fun _ h => List.mem_cons_of_mem _ (List.mem_append_right _ h)) (by decide +kernel))
set_option maxRecDepth 20000 in
theorem gL_setRoute_X4_setRoute : GoodIn wsL_setRoute (wsV RL 17 RX4 yX4_setRoute wsX4_setRoute) := goodIn_app (goodIn_of _ (by decide +kernel)) ggL_setRoute_X4_setRoute
theorem dL_setRoute_0 : decode cL_setRoute 0 = .ok (.aload_n 0, 1) := by decide +kernel
theorem dL_setRoute_1 : decode cL_setRoute 1 = .ok (.iload_n 1, 1) := by decide +kernel
theorem dL_setRoute_2 : decode cL_setRoute 2 = .ok (.iload_n 2, 1) := by decide +kernel
theorem dL_setRoute_3 : decode cL_setRoute 3 = .ok (.iload_n 3, 1) := by decide +kernel
theorem dL_setRoute_4 : decode cL_setRoute 4 = .ok (.invokevirtual 17, 3) := by decide +kernel
theorem dL_setRoute_7 : decode cL_setRoute 7 = .ok (.iconst 0, 1) := by decide +kernel
theorem dL_setRoute_8 : decode cL_setRoute 8 = .ok (.ireturn, 1) := by decide +kernel
theorem dL_setRoute_9 : decode cL_setRoute 9 = .ok (.astore 4, 2) := by decide +kernel
theorem dL_setRoute_11 : decode cL_setRoute 11 = .ok (.ldc 16, 2) := by decide +kernel
theorem dL_setRoute_13 : decode cL_setRoute 13 = .ok (.ireturn, 1) := by decide +kernel
set_option maxRecDepth 20000 in
theorem ggL_addKey_X4_addKey : GoodIn wsL_addKey wsX4_addKey := goodIn_ca (goodIn_ca (goodIn_r _ [8, 9, 10, 11, 12, 13, 14, 15, 16, 17, 7, 18, 19, 20, 21, 22, 23, 24, 25, 26, 27, 28, 29, 30, 31, 32, 33, 34, 35, 36, 37, 38, 39, 40, 41, 42, 43, 44, 45, 46, 47, 48, 49, 50, 51, 52, 53, 54, 55, 56, 57, 58, 59, 60, 61, 62, 63, 64, 65, 66, 67, 68, 69, 70, 71, 72, 73, 74, 75, 76, 77, 78, 79, 80, 81, 82, 83, 84, 85, 86, 87, 88, 89, 90, 91, 92, 93, 94, 95, 96, 97, 98, 99, 100, 101, 102, 103, 104, 105, 106, 107, 108, 109, 110] (by decide +kernel) (by decide +kernel)) (goodIn_sub (fun _ h => List.mem_cons_of_mem _ (List.mem_append_left _ (List.mem_append_right _ h))) (by decide +kernel))) (goodIn_sub (fun _ h => List.mem_cons_of_mem _ (List.mem_append_right _ h)) (by decide +kernel))
set_option maxRecDepth 20000 in
theorem gL_addKey_X4_addKey : GoodIn wsL_addKey (wsV RL 21 RX4 yX4_addKey wsX4_addKey) := goodIn_app (goodIn_of _ (by decide +kernel)) ggL_addKey_X4_addKey
theorem dL_addKey_0 : decode cL_addKey 0 = .ok (.aload_n 0, 1) := by decide +kernel
theorem dL_addKey_1 : decode cL_addKey 1 = .ok (.iload_n 1, 1) := by decide +kernel
theorem dL_addKey_2 : decode cL_addKey 2 = .ok (.invokevirtual 21, 3) := by decide +kernel
theorem dL_addKey_5 : decode cL_addKey 5 = .ok (.ireturn, 1) := by decide +kernel
theorem dL_addKey_6 : decode cL_addKey 6 = .ok (.astore_n 2, 1) := by decide +kernel
theorem dL_addKey_7 : decode cL_addKey 7 = .ok (.ldc 16, 2) := by decide +kernel
theorem dL_addKey_9 : decode cL_addKey 9 = .ok (.ireturn, 1) := by decide +kernel
theorem dL_addKey_10 : decode cL_addKey 10 = .ok (.astore_n 2, 1) := by decide +kernel
theorem dL_addKey_11 : decode cL_addKey 11 = .ok (.ldc 16, 2) := by decide +kernel
theorem dL_addKey_13 : decode cL_addKey 13 = .ok (.ireturn, 1) := by decide +kernel
set_option maxRecDepth 20000 in
theorem ggL_setKeyPlan_X4_setKeyPlan : GoodIn wsL_setKeyPlan wsX4_setKeyPlan := goodIn_ca (goodIn_ca (goodIn_r _ [8, 9, 10, 11, 7, 12, 13, 14, 15, 16, 17, 18, 19, 20, 21, 22, 23, 24, 25, 26, 27, 28, 29, 30, 31, 32, 33, 34, 35, 36, 37, 38, 39, 40, 41, 42, 43, 44, 45, 46, 47, 48, 49, 50, 51, 52, 53, 54, 55, 56, 57, 58, 59, 60, 61, 62, 63, 64, 65, 66, 67, 68] (by decide +kernel) (by decide +kernel)) (goodIn_sub (fun _ h => List.mem_cons_of_mem _ (List.mem_append_left _ (List.mem_append_right _ h))) (by decide +kernel))) (goodIn_sub (fun _ h => List.mem_cons_of_mem _ (List.mem_append_right _ h)) (by decide +kernel))
set_option maxRecDepth 20000 in
theorem gL_setKeyPlan_X4_setKeyPlan : GoodIn wsL_setKeyPlan (wsV RL 27 RX4 yX4_setKeyPlan wsX4_setKeyPlan) := goodIn_app (goodIn_of _ (by decide +kernel)) ggL_setKeyPlan_X4_setKeyPlan
theorem dL_setKeyPlan_0 : decode cL_setKeyPlan 0 = .ok (.aload_n 0, 1) := by decide +kernel
theorem dL_setKeyPlan_1 : decode cL_setKeyPlan 1 = .ok (.iload_n 1, 1) := by decide +kernel
theorem dL_setKeyPlan_2 : decode cL_setKeyPlan 2 = .ok (.iload_n 2, 1) := by decide +kernel
theorem dL_setKeyPlan_3 : decode cL_setKeyPlan 3 = .ok (.invokevirtual 27, 3) := by decide +kernel
theorem dL_setKeyPlan_6 : decode cL_setKeyPlan 6 = .ok (.ireturn, 1) := by decide +kernel
theorem dL_setKeyPlan_7 : decode cL_setKeyPlan 7 = .ok (.astore_n 3, 1) := by decide +kernel
theorem dL_setKeyPlan_8 : decode cL_setKeyPlan 8 = .ok (.ldc 16, 2) := by decide +kernel
theorem dL_setKeyPlan_10 : decode cL_setKeyPlan 10 = .ok (.ireturn, 1) := by decide +kernel
theorem dL_setKeyPlan_11 : decode cL_setKeyPlan 11 = .ok (.astore_n 3, 1) := by decide +kernel
theorem dL_setKeyPlan_12 : decode cL_setKeyPlan 12 = .ok (.ldc 16, 2) := by decide +kernel
theorem dL_setKeyPlan_14 : decode cL_setKeyPlan 14 = .ok (.ireturn, 1) := by decide +kernel
set_option maxRecDepth 20000 in
theorem ggL_setTrust_X4_setTrust : GoodIn wsL_setTrust wsX4_setTrust := goodIn_ca (goodIn_ca (goodIn_r _ [8, 9, 10, 11, 7, 12, 13, 14, 15, 16, 17, 18, 19, 20, 21, 22, 23, 24, 25, 26, 27, 28, 29, 30, 31, 32, 33, 34, 35, 36, 37, 38, 39, 40, 41, 42, 43, 44, 45, 46, 47, 48, 49, 50, 51, 52, 53, 54, 55, 56, 57, 58, 59, 60, 61, 62] (by decide +kernel) (by decide +kernel)) (goodIn_sub (fun _ h => List.mem_cons_of_mem _ (List.mem_append_left _ (List.mem_append_right _ h))) (by decide +kernel))) (goodIn_sub (fun _ h => List.mem_cons_of_mem _ (List.mem_append_right _ h)) (by decide +kernel))
set_option maxRecDepth 20000 in
theorem gL_setTrust_X4_setTrust : GoodIn wsL_setTrust (wsV RL 33 RX4 yX4_setTrust wsX4_setTrust) := goodIn_app (goodIn_of _ (by decide +kernel)) ggL_setTrust_X4_setTrust
theorem dL_setTrust_0 : decode cL_setTrust 0 = .ok (.aload_n 0, 1) := by decide +kernel
theorem dL_setTrust_1 : decode cL_setTrust 1 = .ok (.iload_n 1, 1) := by decide +kernel
theorem dL_setTrust_2 : decode cL_setTrust 2 = .ok (.iload_n 2, 1) := by decide +kernel
theorem dL_setTrust_3 : decode cL_setTrust 3 = .ok (.invokevirtual 33, 3) := by decide +kernel
theorem dL_setTrust_6 : decode cL_setTrust 6 = .ok (.ireturn, 1) := by decide +kernel
theorem dL_setTrust_7 : decode cL_setTrust 7 = .ok (.astore_n 3, 1) := by decide +kernel
theorem dL_setTrust_8 : decode cL_setTrust 8 = .ok (.ldc 16, 2) := by decide +kernel
theorem dL_setTrust_10 : decode cL_setTrust 10 = .ok (.ireturn, 1) := by decide +kernel
theorem dL_setTrust_11 : decode cL_setTrust 11 = .ok (.astore_n 3, 1) := by decide +kernel
theorem dL_setTrust_12 : decode cL_setTrust 12 = .ok (.ldc 16, 2) := by decide +kernel
theorem dL_setTrust_14 : decode cL_setTrust 14 = .ok (.ireturn, 1) := by decide +kernel
set_option maxRecDepth 20000 in
theorem ggL_pay_X4_pay : GoodIn wsL_pay wsX4_pay := goodIn_ca (goodIn_ca (goodIn_r _ [8, 9, 10, 11, 12, 7, 13, 14, 15, 16, 17, 18, 19, 20, 21, 22, 23, 24, 25, 26, 27, 28, 29, 30, 31, 32, 33, 34, 35, 36, 37, 38, 39, 40, 41, 42, 43, 44, 45, 46, 47, 48, 49, 50, 51, 52, 53, 54, 55, 56, 57, 58, 59, 60, 61, 62, 63, 64, 65, 66, 67, 68, 69, 70, 71, 72, 73] (by decide +kernel) (by decide +kernel)) (goodIn_sub (fun _ h => List.mem_cons_of_mem _ (List.mem_append_left _ (List.mem_append_right _ h))) (by decide +kernel))) (goodIn_sub (fun _ h => List.mem_cons_of_mem _ (List.mem_append_right _ h)) (by decide +kernel))
set_option maxRecDepth 20000 in
theorem gL_pay_X4_pay : GoodIn wsL_pay (wsV RL 36 RX4 yX4_pay wsX4_pay) := goodIn_app (goodIn_of _ (by decide +kernel)) ggL_pay_X4_pay
theorem dL_pay_0 : decode cL_pay 0 = .ok (.aload_n 0, 1) := by decide +kernel
theorem dL_pay_1 : decode cL_pay 1 = .ok (.iload_n 1, 1) := by decide +kernel
theorem dL_pay_2 : decode cL_pay 2 = .ok (.iload_n 2, 1) := by decide +kernel
theorem dL_pay_3 : decode cL_pay 3 = .ok (.invokevirtual 36, 3) := by decide +kernel
theorem dL_pay_6 : decode cL_pay 6 = .ok (.ireturn, 1) := by decide +kernel
theorem dL_pay_7 : decode cL_pay 7 = .ok (.astore_n 3, 1) := by decide +kernel
theorem dL_pay_8 : decode cL_pay 8 = .ok (.ldc 16, 2) := by decide +kernel
theorem dL_pay_10 : decode cL_pay 10 = .ok (.ireturn, 1) := by decide +kernel
theorem dL_pay_11 : decode cL_pay 11 = .ok (.astore_n 3, 1) := by decide +kernel
theorem dL_pay_12 : decode cL_pay 12 = .ok (.ldc 16, 2) := by decide +kernel
theorem dL_pay_14 : decode cL_pay 14 = .ok (.ireturn, 1) := by decide +kernel
set_option maxRecDepth 20000 in
theorem ggL_call_X4_call : GoodIn wsL_call wsX4_call := goodIn_ca (goodIn_ca (goodIn_ca (goodIn_r _ [9, 10, 11, 12, 13, 14, 15, 16, 17, 18, 19, 8, 20, 21, 22, 23, 24, 25, 26, 27, 28, 29, 30, 31, 32, 33, 34, 35, 36, 37, 38, 39, 40, 41, 42, 43, 44, 45, 46, 47, 48, 49, 50, 51, 52, 53, 54, 55, 56, 57, 58, 59, 60, 61, 62, 63, 64, 65, 66, 67, 68, 69, 70, 71, 72, 73, 74, 75, 76, 77, 78, 79, 80, 81, 82, 83, 84, 85, 86, 87, 88, 89, 90, 91, 92, 93, 94, 95, 96, 97, 98, 99, 100, 101, 102, 103, 104, 105, 106, 107, 108, 109, 110, 111, 112, 113, 114, 115, 116, 117, 118, 119, 120, 121, 122, 123, 124, 125, 126, 127, 128, 129, 130, 131, 132, 133, 134, 135, 136, 137, 138, 139, 140, 141, 142, 143, 144, 145, 146, 147, 148, 149, 150, 151, 152, 153, 154, 155, 156, 157, 158, 159, 160, 161] (by decide +kernel) (by decide +kernel)) (goodIn_sub (fun _ h => List.mem_cons_of_mem _ (List.mem_append_left _ (List.mem_append_left _ (List.mem_append_right _ h)))) (by decide +kernel))) (goodIn_sub (fun _ h => List.mem_cons_of_mem _ (List.mem_append_left _ (List.mem_append_right _ h))) (by decide +kernel))) (goodIn_sub (fun _ h => List.mem_cons_of_mem _ (List.mem_append_right _ h)) (by decide +kernel))
set_option maxRecDepth 20000 in
theorem gL_call_X4_call : GoodIn wsL_call (wsV RL 39 RX4 yX4_call wsX4_call) := goodIn_app (goodIn_of _ (by decide +kernel)) ggL_call_X4_call
theorem dL_call_0 : decode cL_call 0 = .ok (.aload_n 0, 1) := by decide +kernel
theorem dL_call_1 : decode cL_call 1 = .ok (.iload_n 1, 1) := by decide +kernel
theorem dL_call_2 : decode cL_call 2 = .ok (.iload_n 2, 1) := by decide +kernel
theorem dL_call_3 : decode cL_call 3 = .ok (.iload_n 3, 1) := by decide +kernel
theorem dL_call_4 : decode cL_call 4 = .ok (.invokevirtual 39, 3) := by decide +kernel
theorem dL_call_7 : decode cL_call 7 = .ok (.ireturn, 1) := by decide +kernel
theorem dL_call_8 : decode cL_call 8 = .ok (.astore 4, 2) := by decide +kernel
theorem dL_call_10 : decode cL_call 10 = .ok (.ldc 16, 2) := by decide +kernel
theorem dL_call_12 : decode cL_call 12 = .ok (.ireturn, 1) := by decide +kernel
theorem dL_call_13 : decode cL_call 13 = .ok (.astore 4, 2) := by decide +kernel
theorem dL_call_15 : decode cL_call 15 = .ok (.ldc 16, 2) := by decide +kernel
theorem dL_call_17 : decode cL_call 17 = .ok (.ireturn, 1) := by decide +kernel
theorem dL_call_18 : decode cL_call 18 = .ok (.astore 4, 2) := by decide +kernel
theorem dL_call_20 : decode cL_call 20 = .ok (.ldc 16, 2) := by decide +kernel
theorem dL_call_22 : decode cL_call 22 = .ok (.ireturn, 1) := by decide +kernel
set_option maxRecDepth 20000 in
theorem ggL_end_X4_end : GoodIn wsL_end wsX4_end := goodIn_ca (goodIn_ca (goodIn_ca (goodIn_r _ [9, 10, 11, 12, 13, 14, 15, 8, 16, 17, 18, 19, 20, 21, 22, 23, 24, 25, 26, 27, 28, 29, 30, 31, 32, 33, 34, 35, 36, 37, 38, 39, 40, 41, 42, 43, 44, 45, 46, 47, 48, 49, 50, 51, 52, 53, 54, 55, 56, 57, 58, 59, 60, 61, 62, 63, 64, 65, 66, 67, 68, 69, 70, 71, 72, 73, 74, 75, 76, 77, 78, 79, 80, 81, 82, 83, 84, 85, 86, 87, 88, 89, 90, 91, 92, 93, 94, 95, 96, 97, 98, 99, 100, 101, 102, 103, 104, 105] (by decide +kernel) (by decide +kernel)) (goodIn_sub (fun _ h => List.mem_cons_of_mem _ (List.mem_append_left _ (List.mem_append_left _ (List.mem_append_right _ h)))) (by decide +kernel))) (goodIn_sub (fun _ h => List.mem_cons_of_mem _ (List.mem_append_left _ (List.mem_append_right _ h))) (by decide +kernel))) (goodIn_sub (fun _ h => List.mem_cons_of_mem _ (List.mem_append_right _ h)) (by decide +kernel))
set_option maxRecDepth 20000 in
theorem gL_end_X4_end : GoodIn wsL_end (wsV RL 43 RX4 yX4_end wsX4_end) := goodIn_app (goodIn_of _ (by decide +kernel)) ggL_end_X4_end
theorem dL_end_0 : decode cL_end 0 = .ok (.aload_n 0, 1) := by decide +kernel
theorem dL_end_1 : decode cL_end 1 = .ok (.iload_n 1, 1) := by decide +kernel
theorem dL_end_2 : decode cL_end 2 = .ok (.iload_n 2, 1) := by decide +kernel
theorem dL_end_3 : decode cL_end 3 = .ok (.invokevirtual 43, 3) := by decide +kernel
theorem dL_end_6 : decode cL_end 6 = .ok (.ireturn, 1) := by decide +kernel
theorem dL_end_7 : decode cL_end 7 = .ok (.astore_n 3, 1) := by decide +kernel
theorem dL_end_8 : decode cL_end 8 = .ok (.ldc 16, 2) := by decide +kernel
theorem dL_end_10 : decode cL_end 10 = .ok (.ireturn, 1) := by decide +kernel
theorem dL_end_11 : decode cL_end 11 = .ok (.astore_n 3, 1) := by decide +kernel
theorem dL_end_12 : decode cL_end 12 = .ok (.ldc 16, 2) := by decide +kernel
theorem dL_end_14 : decode cL_end 14 = .ok (.ireturn, 1) := by decide +kernel
theorem dL_end_15 : decode cL_end 15 = .ok (.astore_n 3, 1) := by decide +kernel
theorem dL_end_16 : decode cL_end 16 = .ok (.ldc 16, 2) := by decide +kernel
theorem dL_end_18 : decode cL_end 18 = .ok (.ireturn, 1) := by decide +kernel
set_option maxRecDepth 20000 in
theorem ggL_dispute_X4_dispute : GoodIn wsL_dispute wsX4_dispute := goodIn_ca (goodIn_ca (goodIn_r _ [8, 9, 10, 11, 12, 13, 14, 7, 15, 16, 17, 18, 19, 20, 21, 22, 23, 24, 25, 26, 27, 28, 29, 30, 31, 32, 33, 34, 35, 36, 37, 38, 39, 40, 41, 42, 43, 44, 45, 46, 47, 48, 49, 50, 51, 52, 53, 54, 55, 56, 57, 58, 59, 60, 61, 62, 63, 64, 65, 66, 67, 68, 69, 70, 71, 72, 73, 74, 75, 76, 77, 78, 79, 80, 81, 82, 83, 84, 85, 86, 87, 88] (by decide +kernel) (by decide +kernel)) (goodIn_sub (fun _ h => List.mem_cons_of_mem _ (List.mem_append_left _ (List.mem_append_right _ h))) (by decide +kernel))) (goodIn_sub (fun _ h => List.mem_cons_of_mem _ (List.mem_append_right _ h)) (by decide +kernel))
set_option maxRecDepth 20000 in
theorem gL_dispute_X4_dispute : GoodIn wsL_dispute (wsV RL 46 RX4 yX4_dispute wsX4_dispute) := goodIn_app (goodIn_of _ (by decide +kernel)) ggL_dispute_X4_dispute
theorem dL_dispute_0 : decode cL_dispute 0 = .ok (.aload_n 0, 1) := by decide +kernel
theorem dL_dispute_1 : decode cL_dispute 1 = .ok (.iload_n 1, 1) := by decide +kernel
theorem dL_dispute_2 : decode cL_dispute 2 = .ok (.invokevirtual 46, 3) := by decide +kernel
theorem dL_dispute_5 : decode cL_dispute 5 = .ok (.ireturn, 1) := by decide +kernel
theorem dL_dispute_6 : decode cL_dispute 6 = .ok (.astore_n 2, 1) := by decide +kernel
theorem dL_dispute_7 : decode cL_dispute 7 = .ok (.ldc 16, 2) := by decide +kernel
theorem dL_dispute_9 : decode cL_dispute 9 = .ok (.ireturn, 1) := by decide +kernel
theorem dL_dispute_10 : decode cL_dispute 10 = .ok (.astore_n 2, 1) := by decide +kernel
theorem dL_dispute_11 : decode cL_dispute 11 = .ok (.ldc 16, 2) := by decide +kernel
theorem dL_dispute_13 : decode cL_dispute 13 = .ok (.ireturn, 1) := by decide +kernel
set_option maxRecDepth 20000 in
theorem ggL_pass_X4_pass : GoodIn wsL_pass wsX4_pass := goodIn_ca (goodIn_r _ [7, 8, 9, 10, 6, 11, 12, 13, 14, 15, 16, 17, 18, 19, 20, 21, 22, 23, 24, 25, 26, 27, 28, 29, 30, 31, 32, 33, 34, 35, 36, 37, 38, 39, 40, 41, 42, 43, 44, 45, 46, 47, 48, 49, 50, 51, 52, 53, 54, 55, 56, 57, 58, 59, 60, 61, 62, 63, 64, 65, 66, 67, 68, 69, 70, 71, 72, 73, 74, 75, 76, 77, 78, 79, 80, 81, 82, 83, 84, 85, 86, 87, 88, 89, 90, 91, 92, 93, 94, 95, 96, 97, 98, 99, 100, 101, 102, 103, 104, 105, 106, 107, 108, 109, 110, 111, 112, 113, 114, 115, 116, 117, 118, 119] (by decide +kernel) (by decide +kernel)) (goodIn_sub (fun _ h => List.mem_cons_of_mem _ (List.mem_append_right _ h)) (by decide +kernel))
set_option maxRecDepth 20000 in
theorem gL_pass_X4_pass : GoodIn wsL_pass (wsV RL 49 RX4 yX4_pass wsX4_pass) := goodIn_app (goodIn_of _ (by decide +kernel)) ggL_pass_X4_pass
theorem dL_pass_0 : decode cL_pass 0 = .ok (.aload_n 0, 1) := by decide +kernel
theorem dL_pass_1 : decode cL_pass 1 = .ok (.iload_n 1, 1) := by decide +kernel
theorem dL_pass_2 : decode cL_pass 2 = .ok (.invokevirtual 49, 3) := by decide +kernel
theorem dL_pass_5 : decode cL_pass 5 = .ok (.ireturn, 1) := by decide +kernel
theorem dL_pass_6 : decode cL_pass 6 = .ok (.astore_n 2, 1) := by decide +kernel
theorem dL_pass_7 : decode cL_pass 7 = .ok (.ldc 16, 2) := by decide +kernel
theorem dL_pass_9 : decode cL_pass 9 = .ok (.ireturn, 1) := by decide +kernel
set_option maxRecDepth 20000 in
theorem ggL_credit_X4_credit : GoodIn wsL_credit wsX4_credit := goodIn_ca (goodIn_r _ [6, 7, 8, 9, 5, 10, 11, 12, 13, 14, 15, 16, 17, 18, 19, 20, 21, 22, 23, 24, 25, 26, 27, 28, 29, 30, 31, 32, 33, 34, 35, 36, 37, 38, 39, 40, 41, 42, 43, 44, 45, 46, 47, 48, 49, 50, 51, 52, 53, 54, 55] (by decide +kernel) (by decide +kernel)) (goodIn_sub (fun _ h => List.mem_cons_of_mem _ (List.mem_append_right _ h)) (by decide +kernel))
set_option maxRecDepth 20000 in
theorem gL_credit_X4_credit : GoodIn wsL_credit (wsV RL 52 RX4 yX4_credit wsX4_credit) := goodIn_app (goodIn_of _ (by decide +kernel)) ggL_credit_X4_credit
theorem dL_credit_0 : decode cL_credit 0 = .ok (.aload_n 0, 1) := by decide +kernel
theorem dL_credit_1 : decode cL_credit 1 = .ok (.iload_n 1, 1) := by decide +kernel
theorem dL_credit_2 : decode cL_credit 2 = .ok (.invokevirtual 52, 3) := by decide +kernel
theorem dL_credit_5 : decode cL_credit 5 = .ok (.ireturn, 1) := by decide +kernel
theorem dL_credit_6 : decode cL_credit 6 = .ok (.astore_n 2, 1) := by decide +kernel
theorem dL_credit_7 : decode cL_credit 7 = .ok (.iconst (-1), 1) := by decide +kernel
theorem dL_credit_8 : decode cL_credit 8 = .ok (.ireturn, 1) := by decide +kernel
set_option maxRecDepth 20000 in
theorem ggL_act_L_low : GoodIn wsL_act wsL_low := goodIn_r _ [5, 6] (by decide +kernel) (by decide +kernel)
set_option maxRecDepth 20000 in
theorem gL_act_L_low : GoodIn wsL_act (va_wsS RL 55 yL_low wsL_low) := goodIn_app (goodIn_of _ (by decide +kernel)) ggL_act_L_low
set_option maxRecDepth 20000 in
theorem ggL_act_X4_calls : GoodIn wsL_act wsX4_calls := goodIn_r _ [11, 12, 13, 14, 15, 16, 17, 18, 268, 269, 270, 271, 272, 273, 274, 275, 276] (by decide +kernel) (by decide +kernel)
set_option maxRecDepth 20000 in
theorem gL_act_X4_calls : GoodIn wsL_act (wsV RL 60 RX4 yX4_calls wsX4_calls) := goodIn_app (goodIn_of _ (by decide +kernel)) ggL_act_X4_calls
set_option maxRecDepth 20000 in
theorem ggL_act_L_setPlan : GoodIn wsL_act wsL_setPlan := goodIn_ca (goodIn_r _ [21, 22, 23, 24, 25, 26, 10, 27, 28, 29, 30, 31, 32, 33, 34, 35, 36, 37, 277, 278, 279, 280, 268, 269, 270, 271, 272, 273] (by decide +kernel) (by decide +kernel)) (goodIn_sub (fun _ h => List.mem_cons_of_mem _ (List.mem_append_left _ (List.mem_append_left _ (List.mem_append_right _ h)))) (by decide +kernel))
set_option maxRecDepth 20000 in
theorem gL_act_L_setPlan : GoodIn wsL_act (va_wsS RL 64 yL_setPlan wsL_setPlan) := goodIn_app (goodIn_of _ (by decide +kernel)) ggL_act_L_setPlan
set_option maxRecDepth 20000 in
theorem ggL_act_L_setRoute : GoodIn wsL_act wsL_setRoute := goodIn_ca (goodIn_r _ [40, 22, 23, 41, 42, 43, 10, 44, 45, 46, 47, 48, 32, 33, 49, 35, 36, 37, 281, 282, 268, 269, 270, 271, 272, 273] (by decide +kernel) (by decide +kernel)) (goodIn_sub (fun _ h => List.mem_cons_of_mem _ (List.mem_append_left _ (List.mem_append_left _ (List.mem_append_right _ h)))) (by decide +kernel))
set_option maxRecDepth 20000 in
theorem gL_act_L_setRoute : GoodIn wsL_act (va_wsS RL 67 yL_setRoute wsL_setRoute) := goodIn_app (goodIn_of _ (by decide +kernel)) ggL_act_L_setRoute
set_option maxRecDepth 20000 in
theorem ggL_act_L_addKey : GoodIn wsL_act wsL_addKey := goodIn_ca (goodIn_ca (goodIn_r _ [52, 22, 53, 23, 54, 55, 56, 10, 57, 58, 59, 60, 61, 62, 63, 28, 29, 30, 31, 32, 33, 34, 13, 14, 15, 16, 17, 18, 64, 65, 66, 67, 68, 69, 70, 71, 72, 73, 74, 75, 76, 77, 78, 79, 80, 81, 82, 83, 84, 85, 86, 87, 88, 89, 90, 91, 92, 93, 94, 95, 96, 97, 98, 99, 100, 101, 102, 103, 104, 105, 106, 107, 108, 109, 110, 111, 112, 113, 114, 115, 116, 117, 118, 119, 120, 121, 122, 123, 124, 268, 269, 270, 271, 272, 273, 283, 284, 285, 286, 287, 288, 289, 290, 291, 274, 275, 276, 277, 278, 279, 280] (by decide +kernel) (by decide +kernel)) (goodIn_sub (fun _ h => List.mem_cons_of_mem _ (List.mem_append_left _ (List.mem_append_right _ h))) (by decide +kernel))) (goodIn_sub (fun _ h => List.mem_cons_of_mem _ (List.mem_append_left _ (List.mem_append_left _ (List.mem_append_right _ h)))) (by decide +kernel))
set_option maxRecDepth 20000 in
theorem gL_act_L_addKey : GoodIn wsL_act (va_wsS RL 70 yL_addKey wsL_addKey) := goodIn_app (goodIn_of _ (by decide +kernel)) ggL_act_L_addKey
set_option maxRecDepth 20000 in
theorem ggL_act_L_setKeyPlan : GoodIn wsL_act wsL_setKeyPlan := goodIn_ca (goodIn_ca (goodIn_r _ [127, 128, 22, 23, 129, 130, 131, 10, 132, 133, 134, 135, 136, 137, 138, 60, 139, 13, 14, 15, 16, 17, 18, 140, 141, 142, 143, 144, 145, 146, 147, 148, 149, 150, 151, 152, 153, 154, 155, 77, 28, 29, 30, 31, 32, 33, 34, 283, 284, 285, 286, 287, 288, 289, 290, 291, 277, 278, 279, 280, 268, 269, 270, 271, 272, 273, 274, 275, 276] (by decide +kernel) (by decide +kernel)) (goodIn_sub (fun _ h => List.mem_cons_of_mem _ (List.mem_append_right _ h)) (by decide +kernel))) (goodIn_sub (fun _ h => List.mem_cons_of_mem _ (List.mem_append_left _ (List.mem_append_left _ (List.mem_append_right _ h)))) (by decide +kernel))
set_option maxRecDepth 20000 in
theorem gL_act_L_setKeyPlan : GoodIn wsL_act (va_wsS RL 73 yL_setKeyPlan wsL_setKeyPlan) := goodIn_app (goodIn_of _ (by decide +kernel)) ggL_act_L_setKeyPlan
set_option maxRecDepth 20000 in
theorem ggL_act_L_setTrust : GoodIn wsL_act wsL_setTrust := goodIn_ca (goodIn_ca (goodIn_r _ [158, 128, 22, 23, 159, 160, 161, 10, 162, 133, 134, 135, 136, 137, 138, 60, 139, 13, 14, 15, 16, 17, 18, 140, 141, 142, 143, 144, 145, 146, 147, 148, 149, 150, 151, 152, 153, 154, 155, 77, 35, 36, 37, 32, 33, 283, 284, 285, 286, 287, 288, 289, 290, 291, 268, 269, 270, 271, 272, 273, 274, 275, 276] (by decide +kernel) (by decide +kernel)) (goodIn_sub (fun _ h => List.mem_cons_of_mem _ (List.mem_append_right _ h)) (by decide +kernel))) (goodIn_sub (fun _ h => List.mem_cons_of_mem _ (List.mem_append_left _ (List.mem_append_left _ (List.mem_append_right _ h)))) (by decide +kernel))
set_option maxRecDepth 20000 in
theorem gL_act_L_setTrust : GoodIn wsL_act (va_wsS RL 76 yL_setTrust wsL_setTrust) := goodIn_app (goodIn_of _ (by decide +kernel)) ggL_act_L_setTrust
set_option maxRecDepth 20000 in
theorem ggL_act_L_pay : GoodIn wsL_act wsL_pay := goodIn_ca (goodIn_ca (goodIn_r _ [165, 128, 22, 23, 166, 167, 168, 10, 169, 170, 133, 134, 135, 136, 137, 138, 60, 139, 13, 14, 15, 16, 17, 18, 140, 141, 142, 143, 144, 145, 146, 147, 148, 149, 150, 151, 152, 153, 154, 155, 77, 35, 36, 37, 32, 33, 171, 63, 172, 173, 174, 175, 119, 93, 120, 176, 283, 284, 285, 286, 287, 288, 289, 290, 291, 268, 269, 270, 271, 272, 273, 274, 275, 276] (by decide +kernel) (by decide +kernel)) (goodIn_sub (fun _ h => List.mem_cons_of_mem _ (List.mem_append_right _ h)) (by decide +kernel))) (goodIn_sub (fun _ h => List.mem_cons_of_mem _ (List.mem_append_left _ (List.mem_append_left _ (List.mem_append_right _ h)))) (by decide +kernel))
set_option maxRecDepth 20000 in
theorem gL_act_L_pay : GoodIn wsL_act (va_wsS RL 79 yL_pay wsL_pay) := goodIn_app (goodIn_of _ (by decide +kernel)) ggL_act_L_pay
set_option maxRecDepth 20000 in
theorem ggL_act_L_end : GoodIn wsL_act wsL_end := goodIn_ca (goodIn_ca (goodIn_ca (goodIn_r _ [179, 128, 22, 53, 23, 180, 181, 182, 10, 183, 58, 59, 184, 185, 186, 187, 188, 137, 138, 12, 189, 13, 14, 15, 16, 17, 18, 140, 141, 142, 143, 144, 145, 146, 147, 148, 149, 150, 151, 152, 153, 154, 155, 77, 35, 36, 37, 32, 33, 190, 191, 192, 193, 194, 195, 196, 197, 198, 199, 200, 201, 202, 203, 204, 205, 63, 206, 207, 208, 209, 210, 211, 171, 172, 173, 174, 175, 119, 93, 120, 176, 268, 269, 270, 271, 272, 273, 292, 293, 294, 295, 296, 297, 298, 274, 275, 276, 283, 284, 285, 286, 287, 288, 289, 290, 291] (by decide +kernel) (by decide +kernel)) (goodIn_sub (fun _ h => List.mem_cons_of_mem _ (List.mem_append_left _ (List.mem_append_right _ h))) (by decide +kernel))) (goodIn_sub (fun _ h => List.mem_cons_of_mem _ (List.mem_append_right _ h)) (by decide +kernel))) (goodIn_sub (fun _ h => List.mem_cons_of_mem _ (List.mem_append_left _ (List.mem_append_left _ (List.mem_append_right _ h)))) (by decide +kernel))
set_option maxRecDepth 20000 in
theorem gL_act_L_end : GoodIn wsL_act (va_wsS RL 81 yL_end wsL_end) := goodIn_app (goodIn_of _ (by decide +kernel)) ggL_act_L_end
set_option maxRecDepth 20000 in
theorem ggL_act_L_dispute : GoodIn wsL_act wsL_dispute := goodIn_ca (goodIn_ca (goodIn_r _ [214, 128, 53, 23, 215, 216, 217, 10, 218, 58, 59, 184, 185, 186, 187, 188, 137, 138, 12, 189, 13, 14, 15, 16, 17, 18, 140, 141, 142, 143, 144, 145, 146, 147, 148, 149, 150, 151, 152, 153, 154, 155, 77, 190, 191, 192, 193, 194, 219, 220, 221, 222, 199, 223, 171, 63, 172, 173, 174, 175, 119, 93, 120, 176, 292, 293, 294, 295, 296, 297, 298, 268, 269, 270, 271, 272, 273, 274, 275, 276, 283, 284, 285, 286, 287, 288, 289, 290, 291] (by decide +kernel) (by decide +kernel)) (goodIn_sub (fun _ h => List.mem_cons_of_mem _ (List.mem_append_left _ (List.mem_append_right _ h))) (by decide +kernel))) (goodIn_sub (fun _ h => List.mem_cons_of_mem _ (List.mem_append_right _ h)) (by decide +kernel))
set_option maxRecDepth 20000 in
theorem gL_act_L_dispute : GoodIn wsL_act (va_wsS RL 83 yL_dispute wsL_dispute) := goodIn_app (goodIn_of _ (by decide +kernel)) ggL_act_L_dispute
set_option maxRecDepth 20000 in
theorem ggL_act_L_pass : GoodIn wsL_act wsL_pass := goodIn_ca (goodIn_r _ [226, 22, 23, 227, 228, 229, 10, 230, 184, 35, 36, 37, 32, 33, 231, 232, 233, 234, 235, 12, 189, 13, 14, 15, 16, 17, 18, 140, 141, 142, 143, 144, 145, 146, 147, 148, 149, 150, 151, 152, 153, 154, 155, 77, 190, 191, 192, 193, 194, 195, 196, 197, 198, 199, 200, 201, 202, 203, 204, 205, 63, 206, 207, 208, 209, 210, 211, 171, 172, 173, 174, 175, 119, 93, 120, 176, 236, 237, 238, 239, 60, 139, 240, 241, 242, 70, 69, 243, 244, 245, 246, 268, 269, 270, 271, 272, 273, 292, 293, 294, 295, 296, 297, 298, 274, 275, 276, 283, 284, 285, 286, 287, 288, 289, 290, 291, 277, 278, 279, 280] (by decide +kernel) (by decide +kernel)) (goodIn_sub (fun _ h => List.mem_cons_of_mem _ (List.mem_append_left _ (List.mem_append_left _ (List.mem_append_right _ h)))) (by decide +kernel))
set_option maxRecDepth 20000 in
theorem gL_act_L_pass : GoodIn wsL_act (va_wsS RL 85 yL_pass wsL_pass) := goodIn_app (goodIn_of _ (by decide +kernel)) ggL_act_L_pass
set_option maxRecDepth 20000 in
theorem ggL_act_L_call : GoodIn wsL_act wsL_call := goodIn_ca (goodIn_ca (goodIn_ca (goodIn_r _ [249, 128, 22, 53, 23, 250, 251, 252, 10, 253, 58, 59, 12, 254, 255, 191, 184, 133, 134, 135, 136, 137, 138, 60, 139, 13, 14, 15, 16, 17, 18, 140, 141, 142, 143, 144, 145, 146, 147, 148, 149, 150, 151, 152, 153, 154, 155, 77, 45, 46, 47, 48, 32, 33, 49, 35, 36, 37, 256, 63, 257, 258, 259, 174, 260, 92, 93, 94, 176, 261, 262, 263, 175, 119, 120, 208, 209, 264, 265, 266, 67, 68, 194, 199, 200, 223, 267, 71, 72, 73, 74, 75, 76, 78, 79, 80, 81, 82, 83, 84, 85, 86, 87, 88, 89, 90, 91, 95, 96, 97, 98, 99, 100, 101, 102, 103, 104, 105, 106, 107, 108, 109, 110, 111, 112, 113, 114, 115, 116, 117, 118, 121, 122, 123, 124, 268, 269, 270, 271, 272, 273, 281, 282, 283, 284, 285, 286, 287, 288, 289, 290, 291, 292, 293, 294, 295, 296, 297, 298, 274, 275, 276] (by decide +kernel) (by decide +kernel)) (goodIn_sub (fun _ h => List.mem_cons_of_mem _ (List.mem_append_left _ (List.mem_append_right _ h))) (by decide +kernel))) (goodIn_sub (fun _ h => List.mem_cons_of_mem _ (List.mem_append_right _ h)) (by decide +kernel))) (goodIn_sub (fun _ h => List.mem_cons_of_mem _ (List.mem_append_left _ (List.mem_append_left _ (List.mem_append_right _ h)))) (by decide +kernel))
set_option maxRecDepth 20000 in
theorem gL_act_L_call : GoodIn wsL_act (va_wsS RL 87 yL_call wsL_call) := goodIn_app (goodIn_of _ (by decide +kernel)) ggL_act_L_call
theorem dL_act_0 : decode cL_act 0 = .ok (.iload_n 1, 1) := by decide +kernel
theorem dL_act_1 : decode cL_act 1 = .ok (.bipush 24, 2) := by decide +kernel
theorem dL_act_3 : decode cL_act 3 = .ok (.ishr, 1) := by decide +kernel
theorem dL_act_4 : decode cL_act 4 = .ok (.bipush 9, 2) := by decide +kernel
theorem dL_act_6 : decode cL_act 6 = .ok (.invokestatic 55, 3) := by decide +kernel
theorem dL_act_9 : decode cL_act 9 = .ok (.ifCond .ne 7, 3) := by decide +kernel
theorem dL_act_12 : decode cL_act 12 = .ok (.iconst 1, 1) := by decide +kernel
theorem dL_act_13 : decode cL_act 13 = .ok (.goto 4, 3) := by decide +kernel
theorem dL_act_16 : decode cL_act 16 = .ok (.iconst 0, 1) := by decide +kernel
theorem dL_act_17 : decode cL_act 17 = .ok (.istore_n 2, 1) := by decide +kernel
theorem dL_act_18 : decode cL_act 18 = .ok (.iload_n 2, 1) := by decide +kernel
theorem dL_act_19 : decode cL_act 19 = .ok (.ifCond .eq 16, 3) := by decide +kernel
theorem dL_act_22 : decode cL_act 22 = .ok (.iload_n 1, 1) := by decide +kernel
theorem dL_act_23 : decode cL_act 23 = .ok (.iconst 4, 1) := by decide +kernel
theorem dL_act_24 : decode cL_act 24 = .ok (.ishr, 1) := by decide +kernel
theorem dL_act_25 : decode cL_act 25 = .ok (.bipush 10, 2) := by decide +kernel
theorem dL_act_27 : decode cL_act 27 = .ok (.invokestatic 55, 3) := by decide +kernel
theorem dL_act_30 : decode cL_act 30 = .ok (.iconst 1, 1) := by decide +kernel
theorem dL_act_31 : decode cL_act 31 = .ok (.isub, 1) := by decide +kernel
theorem dL_act_32 : decode cL_act 32 = .ok (.goto 10, 3) := by decide +kernel
theorem dL_act_35 : decode cL_act 35 = .ok (.iload_n 1, 1) := by decide +kernel
theorem dL_act_36 : decode cL_act 36 = .ok (.iconst 4, 1) := by decide +kernel
theorem dL_act_37 : decode cL_act 37 = .ok (.ishr, 1) := by decide +kernel
theorem dL_act_38 : decode cL_act 38 = .ok (.iconst 3, 1) := by decide +kernel
theorem dL_act_39 : decode cL_act 39 = .ok (.invokestatic 55, 3) := by decide +kernel
theorem dL_act_42 : decode cL_act 42 = .ok (.istore_n 3, 1) := by decide +kernel
theorem dL_act_43 : decode cL_act 43 = .ok (.iload_n 2, 1) := by decide +kernel
theorem dL_act_44 : decode cL_act 44 = .ok (.ifCond .eq 17, 3) := by decide +kernel
theorem dL_act_47 : decode cL_act 47 = .ok (.iload_n 1, 1) := by decide +kernel
theorem dL_act_48 : decode cL_act 48 = .ok (.bipush 7, 2) := by decide +kernel
theorem dL_act_50 : decode cL_act 50 = .ok (.ishr, 1) := by decide +kernel
theorem dL_act_51 : decode cL_act 51 = .ok (.bipush 6, 2) := by decide +kernel
theorem dL_act_53 : decode cL_act 53 = .ok (.invokestatic 55, 3) := by decide +kernel
theorem dL_act_56 : decode cL_act 56 = .ok (.iconst 1, 1) := by decide +kernel
theorem dL_act_57 : decode cL_act 57 = .ok (.isub, 1) := by decide +kernel
theorem dL_act_58 : decode cL_act 58 = .ok (.goto 11, 3) := by decide +kernel
theorem dL_act_61 : decode cL_act 61 = .ok (.iload_n 1, 1) := by decide +kernel
theorem dL_act_62 : decode cL_act 62 = .ok (.bipush 7, 2) := by decide +kernel
theorem dL_act_64 : decode cL_act 64 = .ok (.ishr, 1) := by decide +kernel
theorem dL_act_65 : decode cL_act 65 = .ok (.iconst 2, 1) := by decide +kernel
theorem dL_act_66 : decode cL_act 66 = .ok (.invokestatic 55, 3) := by decide +kernel
theorem dL_act_69 : decode cL_act 69 = .ok (.istore 4, 2) := by decide +kernel
theorem dL_act_71 : decode cL_act 71 = .ok (.iload_n 2, 1) := by decide +kernel
theorem dL_act_72 : decode cL_act 72 = .ok (.ifCond .eq 17, 3) := by decide +kernel
theorem dL_act_75 : decode cL_act 75 = .ok (.iload_n 1, 1) := by decide +kernel
theorem dL_act_76 : decode cL_act 76 = .ok (.bipush 7, 2) := by decide +kernel
theorem dL_act_78 : decode cL_act 78 = .ok (.ishr, 1) := by decide +kernel
theorem dL_act_79 : decode cL_act 79 = .ok (.bipush 8, 2) := by decide +kernel
theorem dL_act_81 : decode cL_act 81 = .ok (.invokestatic 55, 3) := by decide +kernel
theorem dL_act_84 : decode cL_act 84 = .ok (.iconst 1, 1) := by decide +kernel
theorem dL_act_85 : decode cL_act 85 = .ok (.isub, 1) := by decide +kernel
theorem dL_act_86 : decode cL_act 86 = .ok (.goto 11, 3) := by decide +kernel
theorem dL_act_89 : decode cL_act 89 = .ok (.iload_n 1, 1) := by decide +kernel
theorem dL_act_90 : decode cL_act 90 = .ok (.bipush 7, 2) := by decide +kernel
theorem dL_act_92 : decode cL_act 92 = .ok (.ishr, 1) := by decide +kernel
theorem dL_act_93 : decode cL_act 93 = .ok (.iconst 3, 1) := by decide +kernel
theorem dL_act_94 : decode cL_act 94 = .ok (.invokestatic 55, 3) := by decide +kernel
theorem dL_act_97 : decode cL_act 97 = .ok (.istore 5, 2) := by decide +kernel
theorem dL_act_99 : decode cL_act 99 = .ok (.iload_n 2, 1) := by decide +kernel
theorem dL_act_100 : decode cL_act 100 = .ok (.ifCond .eq 16, 3) := by decide +kernel
theorem dL_act_103 : decode cL_act 103 = .ok (.iload_n 1, 1) := by decide +kernel
theorem dL_act_104 : decode cL_act 104 = .ok (.iconst 4, 1) := by decide +kernel
theorem dL_act_105 : decode cL_act 105 = .ok (.ishr, 1) := by decide +kernel
theorem dL_act_106 : decode cL_act 106 = .ok (.bipush 82, 2) := by decide +kernel
theorem dL_act_108 : decode cL_act 108 = .ok (.invokestatic 55, 3) := by decide +kernel
theorem dL_act_111 : decode cL_act 111 = .ok (.iconst 1, 1) := by decide +kernel
theorem dL_act_112 : decode cL_act 112 = .ok (.isub, 1) := by decide +kernel
theorem dL_act_113 : decode cL_act 113 = .ok (.goto 43, 3) := by decide +kernel
theorem dL_act_116 : decode cL_act 116 = .ok (.aload_n 0, 1) := by decide +kernel
theorem dL_act_117 : decode cL_act 117 = .ok (.invokevirtual 60, 3) := by decide +kernel
theorem dL_act_120 : decode cL_act 120 = .ok (.ifCond .ne 7, 3) := by decide +kernel
theorem dL_act_123 : decode cL_act 123 = .ok (.iconst 0, 1) := by decide +kernel
theorem dL_act_124 : decode cL_act 124 = .ok (.goto 32, 3) := by decide +kernel
theorem dL_act_127 : decode cL_act 127 = .ok (.aload_n 0, 1) := by decide +kernel
theorem dL_act_128 : decode cL_act 128 = .ok (.invokevirtual 60, 3) := by decide +kernel
theorem dL_act_131 : decode cL_act 131 = .ok (.iconst 1, 1) := by decide +kernel
theorem dL_act_132 : decode cL_act 132 = .ok (.isub, 1) := by decide +kernel
theorem dL_act_133 : decode cL_act 133 = .ok (.iload_n 1, 1) := by decide +kernel
theorem dL_act_134 : decode cL_act 134 = .ok (.iconst 4, 1) := by decide +kernel
theorem dL_act_135 : decode cL_act 135 = .ok (.ishr, 1) := by decide +kernel
theorem dL_act_136 : decode cL_act 136 = .ok (.aload_n 0, 1) := by decide +kernel
theorem dL_act_137 : decode cL_act 137 = .ok (.invokevirtual 60, 3) := by decide +kernel
theorem dL_act_140 : decode cL_act 140 = .ok (.iconst 5, 1) := by decide +kernel
theorem dL_act_141 : decode cL_act 141 = .ok (.if_icmp .ge 10, 3) := by decide +kernel
theorem dL_act_144 : decode cL_act 144 = .ok (.aload_n 0, 1) := by decide +kernel
theorem dL_act_145 : decode cL_act 145 = .ok (.invokevirtual 60, 3) := by decide +kernel
theorem dL_act_148 : decode cL_act 148 = .ok (.goto 4, 3) := by decide +kernel
theorem dL_act_151 : decode cL_act 151 = .ok (.iconst 5, 1) := by decide +kernel
theorem dL_act_152 : decode cL_act 152 = .ok (.invokestatic 55, 3) := by decide +kernel
theorem dL_act_155 : decode cL_act 155 = .ok (.isub, 1) := by decide +kernel
theorem dL_act_156 : decode cL_act 156 = .ok (.istore 6, 2) := by decide +kernel
theorem dL_act_158 : decode cL_act 158 = .ok (.iload_n 1, 1) := by decide +kernel
theorem dL_act_159 : decode cL_act 159 = .ok (.bipush 20, 2) := by decide +kernel
theorem dL_act_161 : decode cL_act 161 = .ok (.invokestatic 55, 3) := by decide +kernel
theorem dL_act_164 : decode cL_act 164 = .ok (.tableswitch 371 0 11 #[64, 142, 203, 210, 266, 266, 302, 302, 302, 334, 341, 341], 64) := by decide +kernel
theorem dL_act_228 : decode cL_act 228 = .ok (.aload_n 0, 1) := by decide +kernel
theorem dL_act_229 : decode cL_act 229 = .ok (.iload 4, 2) := by decide +kernel
theorem dL_act_231 : decode cL_act 231 = .ok (.iload_n 2, 1) := by decide +kernel
theorem dL_act_232 : decode cL_act 232 = .ok (.ifCond .eq 15, 3) := by decide +kernel
theorem dL_act_235 : decode cL_act 235 = .ok (.iload_n 1, 1) := by decide +kernel
theorem dL_act_236 : decode cL_act 236 = .ok (.bipush 9, 2) := by decide +kernel
theorem dL_act_238 : decode cL_act 238 = .ok (.ishr, 1) := by decide +kernel
theorem dL_act_239 : decode cL_act 239 = .ok (.bipush 103, 2) := by decide +kernel
theorem dL_act_241 : decode cL_act 241 = .ok (.invokestatic 55, 3) := by decide +kernel
theorem dL_act_244 : decode cL_act 244 = .ok (.goto 14, 3) := by decide +kernel
theorem dL_act_247 : decode cL_act 247 = .ok (.iconst 1, 1) := by decide +kernel
theorem dL_act_248 : decode cL_act 248 = .ok (.iload_n 1, 1) := by decide +kernel
theorem dL_act_249 : decode cL_act 249 = .ok (.bipush 9, 2) := by decide +kernel
theorem dL_act_251 : decode cL_act 251 = .ok (.ishr, 1) := by decide +kernel
theorem dL_act_252 : decode cL_act 252 = .ok (.bipush 20, 2) := by decide +kernel
theorem dL_act_254 : decode cL_act 254 = .ok (.invokestatic 55, 3) := by decide +kernel
theorem dL_act_257 : decode cL_act 257 = .ok (.iadd, 1) := by decide +kernel
theorem dL_act_258 : decode cL_act 258 = .ok (.iload_n 2, 1) := by decide +kernel
theorem dL_act_259 : decode cL_act 259 = .ok (.ifCond .eq 17, 3) := by decide +kernel
theorem dL_act_262 : decode cL_act 262 = .ok (.iload_n 1, 1) := by decide +kernel
theorem dL_act_263 : decode cL_act 263 = .ok (.bipush 13, 2) := by decide +kernel
theorem dL_act_265 : decode cL_act 265 = .ok (.ishr, 1) := by decide +kernel
theorem dL_act_266 : decode cL_act 266 = .ok (.bipush 103, 2) := by decide +kernel
theorem dL_act_268 : decode cL_act 268 = .ok (.invokestatic 55, 3) := by decide +kernel
theorem dL_act_271 : decode cL_act 271 = .ok (.iconst 1, 1) := by decide +kernel
theorem dL_act_272 : decode cL_act 272 = .ok (.isub, 1) := by decide +kernel
theorem dL_act_273 : decode cL_act 273 = .ok (.goto 13, 3) := by decide +kernel
theorem dL_act_276 : decode cL_act 276 = .ok (.iconst 2, 1) := by decide +kernel
theorem dL_act_277 : decode cL_act 277 = .ok (.iload_n 1, 1) := by decide +kernel
theorem dL_act_278 : decode cL_act 278 = .ok (.bipush 13, 2) := by decide +kernel
theorem dL_act_280 : decode cL_act 280 = .ok (.ishr, 1) := by decide +kernel
theorem dL_act_281 : decode cL_act 281 = .ok (.iconst 3, 1) := by decide +kernel
theorem dL_act_282 : decode cL_act 282 = .ok (.invokestatic 55, 3) := by decide +kernel
theorem dL_act_285 : decode cL_act 285 = .ok (.iadd, 1) := by decide +kernel
theorem dL_act_286 : decode cL_act 286 = .ok (.iload_n 1, 1) := by decide +kernel
theorem dL_act_287 : decode cL_act 287 = .ok (.bipush 16, 2) := by decide +kernel
theorem dL_act_289 : decode cL_act 289 = .ok (.ishr, 1) := by decide +kernel
theorem dL_act_290 : decode cL_act 290 = .ok (.iload_n 2, 1) := by decide +kernel
theorem dL_act_291 : decode cL_act 291 = .ok (.ifCond .eq 7, 3) := by decide +kernel
theorem dL_act_294 : decode cL_act 294 = .ok (.iconst 5, 1) := by decide +kernel
theorem dL_act_295 : decode cL_act 295 = .ok (.goto 4, 3) := by decide +kernel
theorem dL_act_298 : decode cL_act 298 = .ok (.iconst 3, 1) := by decide +kernel
theorem dL_act_299 : decode cL_act 299 = .ok (.invokestatic 55, 3) := by decide +kernel
theorem dL_act_302 : decode cL_act 302 = .ok (.invokestatic 64, 3) := by decide +kernel
theorem dL_act_305 : decode cL_act 305 = .ok (.ireturn, 1) := by decide +kernel
theorem dL_act_306 : decode cL_act 306 = .ok (.aload_n 0, 1) := by decide +kernel
theorem dL_act_307 : decode cL_act 307 = .ok (.iload 5, 2) := by decide +kernel
theorem dL_act_309 : decode cL_act 309 = .ok (.iload_n 2, 1) := by decide +kernel
theorem dL_act_310 : decode cL_act 310 = .ok (.ifCond .eq 18, 3) := by decide +kernel
theorem dL_act_313 : decode cL_act 313 = .ok (.iload_n 1, 1) := by decide +kernel
theorem dL_act_314 : decode cL_act 314 = .ok (.bipush 9, 2) := by decide +kernel
theorem dL_act_316 : decode cL_act 316 = .ok (.ishr, 1) := by decide +kernel
theorem dL_act_317 : decode cL_act 317 = .ok (.sipush 1005, 3) := by decide +kernel
theorem dL_act_320 : decode cL_act 320 = .ok (.invokestatic 55, 3) := by decide +kernel
theorem dL_act_323 : decode cL_act 323 = .ok (.iconst 2, 1) := by decide +kernel
theorem dL_act_324 : decode cL_act 324 = .ok (.isub, 1) := by decide +kernel
theorem dL_act_325 : decode cL_act 325 = .ok (.goto 12, 3) := by decide +kernel
theorem dL_act_328 : decode cL_act 328 = .ok (.iload_n 1, 1) := by decide +kernel
theorem dL_act_329 : decode cL_act 329 = .ok (.bipush 9, 2) := by decide +kernel
theorem dL_act_331 : decode cL_act 331 = .ok (.ishr, 1) := by decide +kernel
theorem dL_act_332 : decode cL_act 332 = .ok (.bipush 60, 2) := by decide +kernel
theorem dL_act_334 : decode cL_act 334 = .ok (.invokestatic 55, 3) := by decide +kernel
theorem dL_act_337 : decode cL_act 337 = .ok (.iload_n 2, 1) := by decide +kernel
theorem dL_act_338 : decode cL_act 338 = .ok (.ifCond .eq 15, 3) := by decide +kernel
theorem dL_act_341 : decode cL_act 341 = .ok (.iload_n 1, 1) := by decide +kernel
theorem dL_act_342 : decode cL_act 342 = .ok (.bipush 14, 2) := by decide +kernel
theorem dL_act_344 : decode cL_act 344 = .ok (.ishr, 1) := by decide +kernel
theorem dL_act_345 : decode cL_act 345 = .ok (.bipush 23, 2) := by decide +kernel
theorem dL_act_347 : decode cL_act 347 = .ok (.invokestatic 55, 3) := by decide +kernel
theorem dL_act_350 : decode cL_act 350 = .ok (.goto 13, 3) := by decide +kernel
theorem dL_act_353 : decode cL_act 353 = .ok (.iconst 1, 1) := by decide +kernel
theorem dL_act_354 : decode cL_act 354 = .ok (.iload_n 1, 1) := by decide +kernel
theorem dL_act_355 : decode cL_act 355 = .ok (.bipush 14, 2) := by decide +kernel
theorem dL_act_357 : decode cL_act 357 = .ok (.ishr, 1) := by decide +kernel
theorem dL_act_358 : decode cL_act 358 = .ok (.iconst 4, 1) := by decide +kernel
theorem dL_act_359 : decode cL_act 359 = .ok (.invokestatic 55, 3) := by decide +kernel
theorem dL_act_362 : decode cL_act 362 = .ok (.iadd, 1) := by decide +kernel
theorem dL_act_363 : decode cL_act 363 = .ok (.invokestatic 67, 3) := by decide +kernel
theorem dL_act_366 : decode cL_act 366 = .ok (.ireturn, 1) := by decide +kernel
theorem dL_act_367 : decode cL_act 367 = .ok (.aload_n 0, 1) := by decide +kernel
theorem dL_act_368 : decode cL_act 368 = .ok (.iload 4, 2) := by decide +kernel
theorem dL_act_370 : decode cL_act 370 = .ok (.invokestatic 70, 3) := by decide +kernel
theorem dL_act_373 : decode cL_act 373 = .ok (.ireturn, 1) := by decide +kernel
theorem dL_act_374 : decode cL_act 374 = .ok (.iload_n 1, 1) := by decide +kernel
theorem dL_act_375 : decode cL_act 375 = .ok (.bipush 10, 2) := by decide +kernel
theorem dL_act_377 : decode cL_act 377 = .ok (.ishr, 1) := by decide +kernel
theorem dL_act_378 : decode cL_act 378 = .ok (.iconst 2, 1) := by decide +kernel
theorem dL_act_379 : decode cL_act 379 = .ok (.invokestatic 55, 3) := by decide +kernel
theorem dL_act_382 : decode cL_act 382 = .ok (.ifCond .ne 13, 3) := by decide +kernel
theorem dL_act_385 : decode cL_act 385 = .ok (.aload_n 0, 1) := by decide +kernel
theorem dL_act_386 : decode cL_act 386 = .ok (.iload_n 3, 1) := by decide +kernel
theorem dL_act_387 : decode cL_act 387 = .ok (.iload 4, 2) := by decide +kernel
theorem dL_act_389 : decode cL_act 389 = .ok (.invokestatic 73, 3) := by decide +kernel
theorem dL_act_392 : decode cL_act 392 = .ok (.goto 37, 3) := by decide +kernel
theorem dL_act_395 : decode cL_act 395 = .ok (.aload_n 0, 1) := by decide +kernel
theorem dL_act_396 : decode cL_act 396 = .ok (.iload_n 3, 1) := by decide +kernel
theorem dL_act_397 : decode cL_act 397 = .ok (.iload_n 2, 1) := by decide +kernel
theorem dL_act_398 : decode cL_act 398 = .ok (.ifCond .eq 18, 3) := by decide +kernel
theorem dL_act_401 : decode cL_act 401 = .ok (.iload_n 1, 1) := by decide +kernel
theorem dL_act_402 : decode cL_act 402 = .ok (.bipush 7, 2) := by decide +kernel
theorem dL_act_404 : decode cL_act 404 = .ok (.ishr, 1) := by decide +kernel
theorem dL_act_405 : decode cL_act 405 = .ok (.sipush 10005, 3) := by decide +kernel
theorem dL_act_408 : decode cL_act 408 = .ok (.invokestatic 55, 3) := by decide +kernel
theorem dL_act_411 : decode cL_act 411 = .ok (.iconst 2, 1) := by decide +kernel
theorem dL_act_412 : decode cL_act 412 = .ok (.isub, 1) := by decide +kernel
theorem dL_act_413 : decode cL_act 413 = .ok (.goto 13, 3) := by decide +kernel
theorem dL_act_416 : decode cL_act 416 = .ok (.iload_n 1, 1) := by decide +kernel
theorem dL_act_417 : decode cL_act 417 = .ok (.bipush 7, 2) := by decide +kernel
theorem dL_act_419 : decode cL_act 419 = .ok (.ishr, 1) := by decide +kernel
theorem dL_act_420 : decode cL_act 420 = .ok (.sipush 300, 3) := by decide +kernel
theorem dL_act_423 : decode cL_act 423 = .ok (.invokestatic 55, 3) := by decide +kernel
theorem dL_act_426 : decode cL_act 426 = .ok (.invokestatic 76, 3) := by decide +kernel
theorem dL_act_429 : decode cL_act 429 = .ok (.ireturn, 1) := by decide +kernel
theorem dL_act_430 : decode cL_act 430 = .ok (.aload_n 0, 1) := by decide +kernel
theorem dL_act_431 : decode cL_act 431 = .ok (.iload_n 3, 1) := by decide +kernel
theorem dL_act_432 : decode cL_act 432 = .ok (.iload_n 2, 1) := by decide +kernel
theorem dL_act_433 : decode cL_act 433 = .ok (.ifCond .eq 17, 3) := by decide +kernel
theorem dL_act_436 : decode cL_act 436 = .ok (.iload_n 1, 1) := by decide +kernel
theorem dL_act_437 : decode cL_act 437 = .ok (.bipush 7, 2) := by decide +kernel
theorem dL_act_439 : decode cL_act 439 = .ok (.ishr, 1) := by decide +kernel
theorem dL_act_440 : decode cL_act 440 = .ok (.ldc 78, 2) := by decide +kernel
theorem dL_act_442 : decode cL_act 442 = .ok (.invokestatic 55, 3) := by decide +kernel
theorem dL_act_445 : decode cL_act 445 = .ok (.iconst 1, 1) := by decide +kernel
theorem dL_act_446 : decode cL_act 446 = .ok (.isub, 1) := by decide +kernel
theorem dL_act_447 : decode cL_act 447 = .ok (.goto 15, 3) := by decide +kernel
theorem dL_act_450 : decode cL_act 450 = .ok (.iconst 1, 1) := by decide +kernel
theorem dL_act_451 : decode cL_act 451 = .ok (.iload_n 1, 1) := by decide +kernel
theorem dL_act_452 : decode cL_act 452 = .ok (.bipush 7, 2) := by decide +kernel
theorem dL_act_454 : decode cL_act 454 = .ok (.ishr, 1) := by decide +kernel
theorem dL_act_455 : decode cL_act 455 = .ok (.sipush 400, 3) := by decide +kernel
theorem dL_act_458 : decode cL_act 458 = .ok (.invokestatic 55, 3) := by decide +kernel
theorem dL_act_461 : decode cL_act 461 = .ok (.iadd, 1) := by decide +kernel
theorem dL_act_462 : decode cL_act 462 = .ok (.invokestatic 79, 3) := by decide +kernel
theorem dL_act_465 : decode cL_act 465 = .ok (.ireturn, 1) := by decide +kernel
theorem dL_act_466 : decode cL_act 466 = .ok (.aload_n 0, 1) := by decide +kernel
theorem dL_act_467 : decode cL_act 467 = .ok (.iload 6, 2) := by decide +kernel
theorem dL_act_469 : decode cL_act 469 = .ok (.iload_n 2, 1) := by decide +kernel
theorem dL_act_470 : decode cL_act 470 = .ok (.ifCond .eq 16, 3) := by decide +kernel
theorem dL_act_473 : decode cL_act 473 = .ok (.iload_n 1, 1) := by decide +kernel
theorem dL_act_474 : decode cL_act 474 = .ok (.bipush 10, 2) := by decide +kernel
theorem dL_act_476 : decode cL_act 476 = .ok (.ishr, 1) := by decide +kernel
theorem dL_act_477 : decode cL_act 477 = .ok (.iconst 5, 1) := by decide +kernel
theorem dL_act_478 : decode cL_act 478 = .ok (.invokestatic 55, 3) := by decide +kernel
theorem dL_act_481 : decode cL_act 481 = .ok (.iconst 1, 1) := by decide +kernel
theorem dL_act_482 : decode cL_act 482 = .ok (.isub, 1) := by decide +kernel
theorem dL_act_483 : decode cL_act 483 = .ok (.goto 11, 3) := by decide +kernel
theorem dL_act_486 : decode cL_act 486 = .ok (.iload_n 1, 1) := by decide +kernel
theorem dL_act_487 : decode cL_act 487 = .ok (.bipush 10, 2) := by decide +kernel
theorem dL_act_489 : decode cL_act 489 = .ok (.ishr, 1) := by decide +kernel
theorem dL_act_490 : decode cL_act 490 = .ok (.iconst 3, 1) := by decide +kernel
theorem dL_act_491 : decode cL_act 491 = .ok (.invokestatic 55, 3) := by decide +kernel
theorem dL_act_494 : decode cL_act 494 = .ok (.invokestatic 81, 3) := by decide +kernel
theorem dL_act_497 : decode cL_act 497 = .ok (.ireturn, 1) := by decide +kernel
theorem dL_act_498 : decode cL_act 498 = .ok (.aload_n 0, 1) := by decide +kernel
theorem dL_act_499 : decode cL_act 499 = .ok (.iload 6, 2) := by decide +kernel
theorem dL_act_501 : decode cL_act 501 = .ok (.invokestatic 83, 3) := by decide +kernel
theorem dL_act_504 : decode cL_act 504 = .ok (.ireturn, 1) := by decide +kernel
theorem dL_act_505 : decode cL_act 505 = .ok (.aload_n 0, 1) := by decide +kernel
theorem dL_act_506 : decode cL_act 506 = .ok (.iload_n 2, 1) := by decide +kernel
theorem dL_act_507 : decode cL_act 507 = .ok (.ifCond .eq 14, 3) := by decide +kernel
theorem dL_act_510 : decode cL_act 510 = .ok (.iload_n 1, 1) := by decide +kernel
theorem dL_act_511 : decode cL_act 511 = .ok (.iconst 4, 1) := by decide +kernel
theorem dL_act_512 : decode cL_act 512 = .ok (.ishr, 1) := by decide +kernel
theorem dL_act_513 : decode cL_act 513 = .ok (.bipush 103, 2) := by decide +kernel
theorem dL_act_515 : decode cL_act 515 = .ok (.invokestatic 55, 3) := by decide +kernel
theorem dL_act_518 : decode cL_act 518 = .ok (.goto 13, 3) := by decide +kernel
theorem dL_act_521 : decode cL_act 521 = .ok (.iconst 1, 1) := by decide +kernel
theorem dL_act_522 : decode cL_act 522 = .ok (.iload_n 1, 1) := by decide +kernel
theorem dL_act_523 : decode cL_act 523 = .ok (.iconst 4, 1) := by decide +kernel
theorem dL_act_524 : decode cL_act 524 = .ok (.ishr, 1) := by decide +kernel
theorem dL_act_525 : decode cL_act 525 = .ok (.bipush 9, 2) := by decide +kernel
theorem dL_act_527 : decode cL_act 527 = .ok (.invokestatic 55, 3) := by decide +kernel
theorem dL_act_530 : decode cL_act 530 = .ok (.iadd, 1) := by decide +kernel
theorem dL_act_531 : decode cL_act 531 = .ok (.invokestatic 85, 3) := by decide +kernel
theorem dL_act_534 : decode cL_act 534 = .ok (.ireturn, 1) := by decide +kernel
theorem dL_act_535 : decode cL_act 535 = .ok (.aload_n 0, 1) := by decide +kernel
theorem dL_act_536 : decode cL_act 536 = .ok (.iload_n 3, 1) := by decide +kernel
theorem dL_act_537 : decode cL_act 537 = .ok (.iload 5, 2) := by decide +kernel
theorem dL_act_539 : decode cL_act 539 = .ok (.iload_n 2, 1) := by decide +kernel
theorem dL_act_540 : decode cL_act 540 = .ok (.ifCond .eq 15, 3) := by decide +kernel
theorem dL_act_543 : decode cL_act 543 = .ok (.iload_n 1, 1) := by decide +kernel
theorem dL_act_544 : decode cL_act 544 = .ok (.bipush 10, 2) := by decide +kernel
theorem dL_act_546 : decode cL_act 546 = .ok (.ishr, 1) := by decide +kernel
theorem dL_act_547 : decode cL_act 547 = .ok (.bipush 11, 2) := by decide +kernel
theorem dL_act_549 : decode cL_act 549 = .ok (.invokestatic 55, 3) := by decide +kernel
theorem dL_act_552 : decode cL_act 552 = .ok (.goto 14, 3) := by decide +kernel
theorem dL_act_555 : decode cL_act 555 = .ok (.iconst 1, 1) := by decide +kernel
theorem dL_act_556 : decode cL_act 556 = .ok (.iload_n 1, 1) := by decide +kernel
theorem dL_act_557 : decode cL_act 557 = .ok (.bipush 10, 2) := by decide +kernel
theorem dL_act_559 : decode cL_act 559 = .ok (.ishr, 1) := by decide +kernel
theorem dL_act_560 : decode cL_act 560 = .ok (.bipush 9, 2) := by decide +kernel
theorem dL_act_562 : decode cL_act 562 = .ok (.invokestatic 55, 3) := by decide +kernel
theorem dL_act_565 : decode cL_act 565 = .ok (.iadd, 1) := by decide +kernel
theorem dL_act_566 : decode cL_act 566 = .ok (.invokestatic 87, 3) := by decide +kernel
theorem dL_act_569 : decode cL_act 569 = .ok (.ireturn, 1) := by decide +kernel
set_option maxRecDepth 20000 in
theorem ggL_areAlike_X4_now : GoodIn wsL_areAlike wsX4_now := goodIn_r _ [5, 6, 78, 79, 80, 81, 82, 83] (by decide +kernel) (by decide +kernel)
set_option maxRecDepth 20000 in
theorem gL_areAlike_X4_now : GoodIn wsL_areAlike (wsV RL 89 RX4 yX4_now wsX4_now) := goodIn_app (goodIn_of _ (by decide +kernel)) ggL_areAlike_X4_now
set_option maxRecDepth 20000 in
theorem ggL_areAlike_X4_calls : GoodIn wsL_areAlike wsX4_calls := goodIn_r _ [10, 11, 12, 13, 14, 15, 16, 17, 78, 79, 80, 81, 82, 83, 84, 85, 86] (by decide +kernel) (by decide +kernel)
set_option maxRecDepth 20000 in
theorem gL_areAlike_X4_calls : GoodIn wsL_areAlike (wsV RL 60 RX4 yX4_calls wsX4_calls) := goodIn_app (goodIn_of _ (by decide +kernel)) ggL_areAlike_X4_calls
set_option maxRecDepth 20000 in
theorem ggL_areAlike_L_credit : GoodIn wsL_areAlike wsL_credit := goodIn_ca (goodIn_r _ [21, 22, 23, 24, 25, 4, 26, 27, 28, 29, 30, 31, 32, 33, 34, 12, 13, 14, 15, 16, 17, 35, 36, 37, 38, 39, 40, 41, 42, 43, 44, 45, 46, 47, 48, 49, 50, 51, 87, 88, 89, 90, 91, 92, 93, 94, 95, 78, 79, 80, 81, 82, 83, 84, 85, 86] (by decide +kernel) (by decide +kernel)) (goodIn_sub (fun _ h => List.mem_cons_of_mem _ (List.mem_append_right _ h)) (by decide +kernel))
set_option maxRecDepth 20000 in
theorem gL_areAlike_L_credit : GoodIn wsL_areAlike (va_wsS RL 92 yL_credit wsL_credit) := goodIn_app (goodIn_of _ (by decide +kernel)) ggL_areAlike_L_credit
set_option maxRecDepth 20000 in
theorem ggL_areAlike_X4_credit : GoodIn wsL_areAlike wsX4_credit := goodIn_ca (goodIn_r _ [26, 27, 28, 29, 4, 30, 31, 32, 33, 34, 12, 13, 14, 15, 16, 17, 35, 36, 37, 38, 39, 40, 41, 42, 43, 44, 45, 46, 47, 48, 49, 50, 51, 87, 88, 89, 90, 91, 92, 93, 94, 95, 78, 79, 80, 81, 82, 83, 84, 85, 86] (by decide +kernel) (by decide +kernel)) (goodIn_sub (fun _ h => List.mem_cons_of_mem _ (List.mem_append_right _ h)) (by decide +kernel))
set_option maxRecDepth 20000 in
theorem gL_areAlike_X4_credit : GoodIn wsL_areAlike (wsV RL 52 RX4 yX4_credit wsX4_credit) := goodIn_app (goodIn_of _ (by decide +kernel)) ggL_areAlike_X4_credit
set_option maxRecDepth 20000 in
theorem ggL_areAlike_X4_debt : GoodIn wsL_areAlike wsX4_debt := goodIn_ca (goodIn_r _ [55, 27, 28, 29, 4, 30, 31, 32, 33, 34, 12, 13, 14, 15, 16, 17, 35, 36, 37, 38, 39, 40, 41, 42, 43, 44, 45, 46, 47, 48, 49, 50, 51, 87, 88, 89, 90, 91, 92, 93, 94, 95, 78, 79, 80, 81, 82, 83, 84, 85, 86] (by decide +kernel) (by decide +kernel)) (goodIn_sub (fun _ h => List.mem_cons_of_mem _ (List.mem_append_right _ h)) (by decide +kernel))
set_option maxRecDepth 20000 in
theorem gL_areAlike_X4_debt : GoodIn wsL_areAlike (wsV RL 94 RX4 yX4_debt wsX4_debt) := goodIn_app (goodIn_of _ (by decide +kernel)) ggL_areAlike_X4_debt
set_option maxRecDepth 20000 in
theorem ggL_areAlike_X4_held : GoodIn wsL_areAlike wsX4_held := goodIn_ca (goodIn_r _ [59, 27, 28, 29, 4, 30, 31, 32, 33, 34, 12, 13, 14, 15, 16, 17, 35, 36, 37, 38, 39, 40, 41, 42, 43, 44, 45, 46, 47, 48, 49, 50, 51, 87, 88, 89, 90, 91, 92, 93, 94, 95, 78, 79, 80, 81, 82, 83, 84, 85, 86] (by decide +kernel) (by decide +kernel)) (goodIn_sub (fun _ h => List.mem_cons_of_mem _ (List.mem_append_right _ h)) (by decide +kernel))
set_option maxRecDepth 20000 in
theorem gL_areAlike_X4_held : GoodIn wsL_areAlike (wsV RL 97 RX4 yX4_held wsX4_held) := goodIn_app (goodIn_of _ (by decide +kernel)) ggL_areAlike_X4_held
set_option maxRecDepth 20000 in
theorem ggL_areAlike_X4_tokens : GoodIn wsL_areAlike wsX4_tokens := goodIn_ca (goodIn_r _ [63, 27, 28, 29, 4, 30, 31, 32, 33, 34, 12, 13, 14, 15, 16, 17, 35, 36, 37, 38, 39, 40, 41, 42, 43, 44, 45, 46, 47, 48, 49, 50, 51, 87, 88, 89, 90, 91, 92, 93, 94, 95, 78, 79, 80, 81, 82, 83, 84, 85, 86] (by decide +kernel) (by decide +kernel)) (goodIn_sub (fun _ h => List.mem_cons_of_mem _ (List.mem_append_right _ h)) (by decide +kernel))
set_option maxRecDepth 20000 in
theorem gL_areAlike_X4_tokens : GoodIn wsL_areAlike (wsV RL 100 RX4 yX4_tokens wsX4_tokens) := goodIn_app (goodIn_of _ (by decide +kernel)) ggL_areAlike_X4_tokens
set_option maxRecDepth 20000 in
theorem ggL_areAlike_X4_spent : GoodIn wsL_areAlike wsX4_spent := goodIn_ca (goodIn_r _ [67, 27, 28, 29, 4, 30, 31, 32, 33, 34, 12, 13, 14, 15, 16, 17, 35, 36, 37, 38, 39, 40, 41, 42, 43, 44, 45, 46, 47, 48, 49, 50, 51, 87, 88, 89, 90, 91, 92, 93, 94, 95, 78, 79, 80, 81, 82, 83, 84, 85, 86] (by decide +kernel) (by decide +kernel)) (goodIn_sub (fun _ h => List.mem_cons_of_mem _ (List.mem_append_right _ h)) (by decide +kernel))
set_option maxRecDepth 20000 in
theorem gL_areAlike_X4_spent : GoodIn wsL_areAlike (wsV RL 103 RX4 yX4_spent wsX4_spent) := goodIn_app (goodIn_of _ (by decide +kernel)) ggL_areAlike_X4_spent
set_option maxRecDepth 20000 in
theorem ggL_areAlike_X4_isSlowed : GoodIn wsL_areAlike wsX4_isSlowed := goodIn_ca (goodIn_r _ [71, 27, 28, 29, 4, 30, 31, 32, 33, 34, 12, 13, 14, 15, 16, 17, 35, 36, 37, 38, 39, 40, 41, 42, 43, 44, 45, 46, 47, 48, 49, 50, 51, 72, 73, 74, 75, 76, 77, 78, 79, 80, 81, 82, 83, 84, 85, 86, 87, 88, 89, 90, 91, 92, 93, 94, 95] (by decide +kernel) (by decide +kernel)) (goodIn_sub (fun _ h => List.mem_cons_of_mem _ (List.mem_append_right _ h)) (by decide +kernel))
set_option maxRecDepth 20000 in
theorem gL_areAlike_X4_isSlowed : GoodIn wsL_areAlike (wsV RL 106 RX4 yX4_isSlowed wsX4_isSlowed) := goodIn_app (goodIn_of _ (by decide +kernel)) ggL_areAlike_X4_isSlowed
theorem dL_areAlike_0 : decode cL_areAlike 0 = .ok (.aload_n 0, 1) := by decide +kernel
theorem dL_areAlike_1 : decode cL_areAlike 1 = .ok (.invokevirtual 89, 3) := by decide +kernel
theorem dL_areAlike_4 : decode cL_areAlike 4 = .ok (.aload_n 1, 1) := by decide +kernel
theorem dL_areAlike_5 : decode cL_areAlike 5 = .ok (.invokevirtual 89, 3) := by decide +kernel
theorem dL_areAlike_8 : decode cL_areAlike 8 = .ok (.if_icmp .ne 18, 3) := by decide +kernel
theorem dL_areAlike_11 : decode cL_areAlike 11 = .ok (.aload_n 0, 1) := by decide +kernel
theorem dL_areAlike_12 : decode cL_areAlike 12 = .ok (.invokevirtual 60, 3) := by decide +kernel
theorem dL_areAlike_15 : decode cL_areAlike 15 = .ok (.aload_n 1, 1) := by decide +kernel
theorem dL_areAlike_16 : decode cL_areAlike 16 = .ok (.invokevirtual 60, 3) := by decide +kernel
theorem dL_areAlike_19 : decode cL_areAlike 19 = .ok (.if_icmp .ne 7, 3) := by decide +kernel
theorem dL_areAlike_22 : decode cL_areAlike 22 = .ok (.iconst 1, 1) := by decide +kernel
theorem dL_areAlike_23 : decode cL_areAlike 23 = .ok (.goto 4, 3) := by decide +kernel
theorem dL_areAlike_26 : decode cL_areAlike 26 = .ok (.iconst 0, 1) := by decide +kernel
theorem dL_areAlike_27 : decode cL_areAlike 27 = .ok (.istore_n 2, 1) := by decide +kernel
theorem dL_areAlike_28 : decode cL_areAlike 28 = .ok (.iconst 0, 1) := by decide +kernel
theorem dL_areAlike_29 : decode cL_areAlike 29 = .ok (.istore_n 3, 1) := by decide +kernel
theorem dL_areAlike_30 : decode cL_areAlike 30 = .ok (.iload_n 3, 1) := by decide +kernel
theorem dL_areAlike_31 : decode cL_areAlike 31 = .ok (.bipush 8, 2) := by decide +kernel
theorem dL_areAlike_33 : decode cL_areAlike 33 = .ok (.if_icmp .ge 105, 3) := by decide +kernel
theorem dL_areAlike_36 : decode cL_areAlike 36 = .ok (.aload_n 0, 1) := by decide +kernel
theorem dL_areAlike_37 : decode cL_areAlike 37 = .ok (.iload_n 3, 1) := by decide +kernel
theorem dL_areAlike_38 : decode cL_areAlike 38 = .ok (.invokestatic 92, 3) := by decide +kernel
theorem dL_areAlike_41 : decode cL_areAlike 41 = .ok (.ifCond .lt 97, 3) := by decide +kernel
theorem dL_areAlike_44 : decode cL_areAlike 44 = .ok (.iload_n 2, 1) := by decide +kernel
theorem dL_areAlike_45 : decode cL_areAlike 45 = .ok (.ifCond .eq 93, 3) := by decide +kernel
theorem dL_areAlike_48 : decode cL_areAlike 48 = .ok (.aload_n 1, 1) := by decide +kernel
theorem dL_areAlike_49 : decode cL_areAlike 49 = .ok (.iload_n 3, 1) := by decide +kernel
theorem dL_areAlike_50 : decode cL_areAlike 50 = .ok (.invokestatic 92, 3) := by decide +kernel
theorem dL_areAlike_53 : decode cL_areAlike 53 = .ok (.aload_n 0, 1) := by decide +kernel
theorem dL_areAlike_54 : decode cL_areAlike 54 = .ok (.iload_n 3, 1) := by decide +kernel
theorem dL_areAlike_55 : decode cL_areAlike 55 = .ok (.invokevirtual 52, 3) := by decide +kernel
theorem dL_areAlike_58 : decode cL_areAlike 58 = .ok (.if_icmp .ne 72, 3) := by decide +kernel
theorem dL_areAlike_61 : decode cL_areAlike 61 = .ok (.aload_n 0, 1) := by decide +kernel
theorem dL_areAlike_62 : decode cL_areAlike 62 = .ok (.iload_n 3, 1) := by decide +kernel
theorem dL_areAlike_63 : decode cL_areAlike 63 = .ok (.invokevirtual 94, 3) := by decide +kernel
theorem dL_areAlike_66 : decode cL_areAlike 66 = .ok (.aload_n 1, 1) := by decide +kernel
theorem dL_areAlike_67 : decode cL_areAlike 67 = .ok (.iload_n 3, 1) := by decide +kernel
theorem dL_areAlike_68 : decode cL_areAlike 68 = .ok (.invokevirtual 94, 3) := by decide +kernel
theorem dL_areAlike_71 : decode cL_areAlike 71 = .ok (.if_icmp .ne 59, 3) := by decide +kernel
theorem dL_areAlike_74 : decode cL_areAlike 74 = .ok (.aload_n 0, 1) := by decide +kernel
theorem dL_areAlike_75 : decode cL_areAlike 75 = .ok (.iload_n 3, 1) := by decide +kernel
theorem dL_areAlike_76 : decode cL_areAlike 76 = .ok (.invokevirtual 97, 3) := by decide +kernel
theorem dL_areAlike_79 : decode cL_areAlike 79 = .ok (.aload_n 1, 1) := by decide +kernel
theorem dL_areAlike_80 : decode cL_areAlike 80 = .ok (.iload_n 3, 1) := by decide +kernel
theorem dL_areAlike_81 : decode cL_areAlike 81 = .ok (.invokevirtual 97, 3) := by decide +kernel
theorem dL_areAlike_84 : decode cL_areAlike 84 = .ok (.if_icmp .ne 46, 3) := by decide +kernel
theorem dL_areAlike_87 : decode cL_areAlike 87 = .ok (.aload_n 0, 1) := by decide +kernel
theorem dL_areAlike_88 : decode cL_areAlike 88 = .ok (.iload_n 3, 1) := by decide +kernel
theorem dL_areAlike_89 : decode cL_areAlike 89 = .ok (.invokevirtual 100, 3) := by decide +kernel
theorem dL_areAlike_92 : decode cL_areAlike 92 = .ok (.aload_n 1, 1) := by decide +kernel
theorem dL_areAlike_93 : decode cL_areAlike 93 = .ok (.iload_n 3, 1) := by decide +kernel
theorem dL_areAlike_94 : decode cL_areAlike 94 = .ok (.invokevirtual 100, 3) := by decide +kernel
theorem dL_areAlike_97 : decode cL_areAlike 97 = .ok (.if_icmp .ne 33, 3) := by decide +kernel
theorem dL_areAlike_100 : decode cL_areAlike 100 = .ok (.aload_n 0, 1) := by decide +kernel
theorem dL_areAlike_101 : decode cL_areAlike 101 = .ok (.iload_n 3, 1) := by decide +kernel
theorem dL_areAlike_102 : decode cL_areAlike 102 = .ok (.invokevirtual 103, 3) := by decide +kernel
theorem dL_areAlike_105 : decode cL_areAlike 105 = .ok (.aload_n 1, 1) := by decide +kernel
theorem dL_areAlike_106 : decode cL_areAlike 106 = .ok (.iload_n 3, 1) := by decide +kernel
theorem dL_areAlike_107 : decode cL_areAlike 107 = .ok (.invokevirtual 103, 3) := by decide +kernel
theorem dL_areAlike_110 : decode cL_areAlike 110 = .ok (.if_icmp .ne 20, 3) := by decide +kernel
theorem dL_areAlike_113 : decode cL_areAlike 113 = .ok (.aload_n 0, 1) := by decide +kernel
theorem dL_areAlike_114 : decode cL_areAlike 114 = .ok (.iload_n 3, 1) := by decide +kernel
theorem dL_areAlike_115 : decode cL_areAlike 115 = .ok (.invokevirtual 106, 3) := by decide +kernel
theorem dL_areAlike_118 : decode cL_areAlike 118 = .ok (.aload_n 1, 1) := by decide +kernel
theorem dL_areAlike_119 : decode cL_areAlike 119 = .ok (.iload_n 3, 1) := by decide +kernel
theorem dL_areAlike_120 : decode cL_areAlike 120 = .ok (.invokevirtual 106, 3) := by decide +kernel
theorem dL_areAlike_123 : decode cL_areAlike 123 = .ok (.if_icmp .ne 7, 3) := by decide +kernel
theorem dL_areAlike_126 : decode cL_areAlike 126 = .ok (.iconst 1, 1) := by decide +kernel
theorem dL_areAlike_127 : decode cL_areAlike 127 = .ok (.goto 4, 3) := by decide +kernel
theorem dL_areAlike_130 : decode cL_areAlike 130 = .ok (.iconst 0, 1) := by decide +kernel
theorem dL_areAlike_131 : decode cL_areAlike 131 = .ok (.istore_n 2, 1) := by decide +kernel
theorem dL_areAlike_132 : decode cL_areAlike 132 = .ok (.iinc 3 1, 3) := by decide +kernel
theorem dL_areAlike_135 : decode cL_areAlike 135 = .ok (.goto (-105), 3) := by decide +kernel
theorem dL_areAlike_138 : decode cL_areAlike 138 = .ok (.iload_n 2, 1) := by decide +kernel
theorem dL_areAlike_139 : decode cL_areAlike 139 = .ok (.ireturn, 1) := by decide +kernel
set_option maxRecDepth 20000 in
theorem ggL_areKeysSo_L_credit : GoodIn wsL_areKeysSo wsL_credit := goodIn_ca (goodIn_r _ [4, 5, 6, 7, 8, 9, 10, 11, 12, 13, 14, 15, 16, 17, 18, 19, 20, 21, 22, 23, 24, 25, 26, 27, 28, 29, 30, 31, 32, 33, 34, 35, 36, 37, 38, 39, 40, 41, 86, 87, 88, 89, 90, 91, 92, 93, 94, 95, 96, 97, 98, 99, 100, 101, 102, 103] (by decide +kernel) (by decide +kernel)) (goodIn_sub (fun _ h => List.mem_cons_of_mem _ (List.mem_append_right _ h)) (by decide +kernel))
set_option maxRecDepth 20000 in
theorem gL_areKeysSo_L_credit : GoodIn wsL_areKeysSo (va_wsS RL 92 yL_credit wsL_credit) := goodIn_app (goodIn_of _ (by decide +kernel)) ggL_areKeysSo_L_credit
set_option maxRecDepth 20000 in
theorem ggL_areKeysSo_X4_credit : GoodIn wsL_areKeysSo wsX4_credit := goodIn_ca (goodIn_r _ [10, 11, 12, 13, 9, 14, 15, 16, 17, 18, 19, 20, 21, 22, 23, 24, 25, 26, 27, 28, 29, 30, 31, 32, 33, 34, 35, 36, 37, 38, 39, 40, 41, 86, 87, 88, 89, 90, 91, 92, 93, 94, 95, 96, 97, 98, 99, 100, 101, 102, 103] (by decide +kernel) (by decide +kernel)) (goodIn_sub (fun _ h => List.mem_cons_of_mem _ (List.mem_append_right _ h)) (by decide +kernel))
set_option maxRecDepth 20000 in
theorem gL_areKeysSo_X4_credit : GoodIn wsL_areKeysSo (wsV RL 52 RX4 yX4_credit wsX4_credit) := goodIn_app (goodIn_of _ (by decide +kernel)) ggL_areKeysSo_X4_credit
set_option maxRecDepth 20000 in
theorem ggL_areKeysSo_X4_debt : GoodIn wsL_areKeysSo wsX4_debt := goodIn_ca (goodIn_r _ [45, 11, 12, 13, 9, 14, 15, 16, 17, 18, 19, 20, 21, 22, 23, 24, 25, 26, 27, 28, 29, 30, 31, 32, 33, 34, 35, 36, 37, 38, 39, 40, 41, 86, 87, 88, 89, 90, 91, 92, 93, 94, 95, 96, 97, 98, 99, 100, 101, 102, 103] (by decide +kernel) (by decide +kernel)) (goodIn_sub (fun _ h => List.mem_cons_of_mem _ (List.mem_append_right _ h)) (by decide +kernel))
set_option maxRecDepth 20000 in
theorem gL_areKeysSo_X4_debt : GoodIn wsL_areKeysSo (wsV RL 94 RX4 yX4_debt wsX4_debt) := goodIn_app (goodIn_of _ (by decide +kernel)) ggL_areKeysSo_X4_debt
set_option maxRecDepth 20000 in
theorem ggL_areKeysSo_X4_held : GoodIn wsL_areKeysSo wsX4_held := goodIn_ca (goodIn_r _ [49, 11, 12, 13, 9, 14, 15, 16, 17, 18, 19, 20, 21, 22, 23, 24, 25, 26, 27, 28, 29, 30, 31, 32, 33, 34, 35, 36, 37, 38, 39, 40, 41, 86, 87, 88, 89, 90, 91, 92, 93, 94, 95, 96, 97, 98, 99, 100, 101, 102, 103] (by decide +kernel) (by decide +kernel)) (goodIn_sub (fun _ h => List.mem_cons_of_mem _ (List.mem_append_right _ h)) (by decide +kernel))
set_option maxRecDepth 20000 in
theorem gL_areKeysSo_X4_held : GoodIn wsL_areKeysSo (wsV RL 97 RX4 yX4_held wsX4_held) := goodIn_app (goodIn_of _ (by decide +kernel)) ggL_areKeysSo_X4_held
set_option maxRecDepth 20000 in
theorem ggL_areKeysSo_X4_spent : GoodIn wsL_areKeysSo wsX4_spent := goodIn_ca (goodIn_r _ [53, 11, 12, 13, 9, 14, 15, 16, 17, 18, 19, 20, 21, 22, 23, 24, 25, 26, 27, 28, 29, 30, 31, 32, 33, 34, 35, 36, 37, 38, 39, 40, 41, 86, 87, 88, 89, 90, 91, 92, 93, 94, 95, 96, 97, 98, 99, 100, 101, 102, 103] (by decide +kernel) (by decide +kernel)) (goodIn_sub (fun _ h => List.mem_cons_of_mem _ (List.mem_append_right _ h)) (by decide +kernel))
set_option maxRecDepth 20000 in
theorem gL_areKeysSo_X4_spent : GoodIn wsL_areKeysSo (wsV RL 103 RX4 yX4_spent wsX4_spent) := goodIn_app (goodIn_of _ (by decide +kernel)) ggL_areKeysSo_X4_spent
set_option maxRecDepth 20000 in
theorem ggL_areKeysSo_X4_paid : GoodIn wsL_areKeysSo wsX4_paid := goodIn_ca (goodIn_r _ [57, 11, 12, 13, 9, 14, 15, 16, 17, 18, 19, 20, 21, 22, 23, 24, 25, 26, 27, 28, 29, 30, 31, 32, 33, 34, 35, 36, 37, 38, 39, 40, 41, 86, 87, 88, 89, 90, 91, 92, 93, 94, 95, 96, 97, 98, 99, 100, 101, 102, 103] (by decide +kernel) (by decide +kernel)) (goodIn_sub (fun _ h => List.mem_cons_of_mem _ (List.mem_append_right _ h)) (by decide +kernel))
set_option maxRecDepth 20000 in
theorem gL_areKeysSo_X4_paid : GoodIn wsL_areKeysSo (wsV RL 110 RX4 yX4_paid wsX4_paid) := goodIn_app (goodIn_of _ (by decide +kernel)) ggL_areKeysSo_X4_paid
set_option maxRecDepth 20000 in
theorem ggL_areKeysSo_X4_tokens : GoodIn wsL_areKeysSo wsX4_tokens := goodIn_ca (goodIn_r _ [61, 11, 12, 13, 9, 14, 15, 16, 17, 18, 19, 20, 21, 22, 23, 24, 25, 26, 27, 28, 29, 30, 31, 32, 33, 34, 35, 36, 37, 38, 39, 40, 41, 86, 87, 88, 89, 90, 91, 92, 93, 94, 95, 96, 97, 98, 99, 100, 101, 102, 103] (by decide +kernel) (by decide +kernel)) (goodIn_sub (fun _ h => List.mem_cons_of_mem _ (List.mem_append_right _ h)) (by decide +kernel))
set_option maxRecDepth 20000 in
theorem gL_areKeysSo_X4_tokens : GoodIn wsL_areKeysSo (wsV RL 100 RX4 yX4_tokens wsX4_tokens) := goodIn_app (goodIn_of _ (by decide +kernel)) ggL_areKeysSo_X4_tokens
set_option maxRecDepth 20000 in
theorem ggL_areKeysSo_X4_isSlowed : GoodIn wsL_areKeysSo wsX4_isSlowed := goodIn_ca (goodIn_r _ [65, 11, 12, 13, 9, 14, 15, 16, 17, 18, 19, 20, 21, 22, 23, 24, 25, 26, 27, 28, 29, 30, 31, 32, 33, 34, 35, 36, 37, 38, 39, 40, 41, 66, 67, 68, 69, 70, 71, 95, 96, 97, 98, 99, 100, 101, 102, 103, 86, 87, 88, 89, 90, 91, 92, 93, 94] (by decide +kernel) (by decide +kernel)) (goodIn_sub (fun _ h => List.mem_cons_of_mem _ (List.mem_append_right _ h)) (by decide +kernel))
set_option maxRecDepth 20000 in
theorem gL_areKeysSo_X4_isSlowed : GoodIn wsL_areKeysSo (wsV RL 106 RX4 yX4_isSlowed wsX4_isSlowed) := goodIn_app (goodIn_of _ (by decide +kernel)) ggL_areKeysSo_X4_isSlowed
set_option maxRecDepth 20000 in
theorem ggL_areKeysSo_X4_calls : GoodIn wsL_areKeysSo wsX4_calls := goodIn_r _ [75, 76, 19, 20, 21, 22, 23, 24, 95, 96, 97, 98, 99, 100, 101, 102, 103] (by decide +kernel) (by decide +kernel)
set_option maxRecDepth 20000 in
theorem gL_areKeysSo_X4_calls : GoodIn wsL_areKeysSo (wsV RL 60 RX4 yX4_calls wsX4_calls) := goodIn_app (goodIn_of _ (by decide +kernel)) ggL_areKeysSo_X4_calls
set_option maxRecDepth 20000 in
theorem ggL_areKeysSo_X4_cost : GoodIn wsL_areKeysSo wsX4_cost := goodIn_ca (goodIn_r _ [80, 81, 82, 83, 9, 84, 15, 16, 76, 85, 19, 20, 21, 22, 23, 24, 25, 26, 27, 28, 29, 30, 31, 32, 33, 34, 35, 36, 37, 38, 39, 40, 41, 104, 105, 106, 107, 108, 109, 110, 95, 96, 97, 98, 99, 100, 101, 102, 103] (by decide +kernel) (by decide +kernel)) (goodIn_sub (fun _ h => List.mem_cons_of_mem _ (List.mem_append_right _ h)) (by decide +kernel))
set_option maxRecDepth 20000 in
theorem gL_areKeysSo_X4_cost : GoodIn wsL_areKeysSo (wsV RL 113 RX4 yX4_cost wsX4_cost) := goodIn_app (goodIn_of _ (by decide +kernel)) ggL_areKeysSo_X4_cost
theorem dL_areKeysSo_0 : decode cL_areKeysSo 0 = .ok (.iconst 0, 1) := by decide +kernel
theorem dL_areKeysSo_1 : decode cL_areKeysSo 1 = .ok (.istore_n 1, 1) := by decide +kernel
theorem dL_areKeysSo_2 : decode cL_areKeysSo 2 = .ok (.iconst 0, 1) := by decide +kernel
theorem dL_areKeysSo_3 : decode cL_areKeysSo 3 = .ok (.istore_n 2, 1) := by decide +kernel
theorem dL_areKeysSo_4 : decode cL_areKeysSo 4 = .ok (.iload_n 2, 1) := by decide +kernel
theorem dL_areKeysSo_5 : decode cL_areKeysSo 5 = .ok (.bipush 8, 2) := by decide +kernel
theorem dL_areKeysSo_7 : decode cL_areKeysSo 7 = .ok (.if_icmp .ge 119, 3) := by decide +kernel
theorem dL_areKeysSo_10 : decode cL_areKeysSo 10 = .ok (.aload_n 0, 1) := by decide +kernel
theorem dL_areKeysSo_11 : decode cL_areKeysSo 11 = .ok (.iload_n 2, 1) := by decide +kernel
theorem dL_areKeysSo_12 : decode cL_areKeysSo 12 = .ok (.invokestatic 92, 3) := by decide +kernel
theorem dL_areKeysSo_15 : decode cL_areKeysSo 15 = .ok (.ifCond .lt 111, 3) := by decide +kernel
theorem dL_areKeysSo_18 : decode cL_areKeysSo 18 = .ok (.aload_n 0, 1) := by decide +kernel
theorem dL_areKeysSo_19 : decode cL_areKeysSo 19 = .ok (.iload_n 2, 1) := by decide +kernel
theorem dL_areKeysSo_20 : decode cL_areKeysSo 20 = .ok (.invokevirtual 52, 3) := by decide +kernel
theorem dL_areKeysSo_23 : decode cL_areKeysSo 23 = .ok (.aload_n 0, 1) := by decide +kernel
theorem dL_areKeysSo_24 : decode cL_areKeysSo 24 = .ok (.iload_n 2, 1) := by decide +kernel
theorem dL_areKeysSo_25 : decode cL_areKeysSo 25 = .ok (.invokevirtual 94, 3) := by decide +kernel
theorem dL_areKeysSo_28 : decode cL_areKeysSo 28 = .ok (.isub, 1) := by decide +kernel
theorem dL_areKeysSo_29 : decode cL_areKeysSo 29 = .ok (.aload_n 0, 1) := by decide +kernel
theorem dL_areKeysSo_30 : decode cL_areKeysSo 30 = .ok (.iload_n 2, 1) := by decide +kernel
theorem dL_areKeysSo_31 : decode cL_areKeysSo 31 = .ok (.invokevirtual 97, 3) := by decide +kernel
theorem dL_areKeysSo_34 : decode cL_areKeysSo 34 = .ok (.iadd, 1) := by decide +kernel
theorem dL_areKeysSo_35 : decode cL_areKeysSo 35 = .ok (.aload_n 0, 1) := by decide +kernel
theorem dL_areKeysSo_36 : decode cL_areKeysSo 36 = .ok (.iload_n 2, 1) := by decide +kernel
theorem dL_areKeysSo_37 : decode cL_areKeysSo 37 = .ok (.invokevirtual 103, 3) := by decide +kernel
theorem dL_areKeysSo_40 : decode cL_areKeysSo 40 = .ok (.iadd, 1) := by decide +kernel
theorem dL_areKeysSo_41 : decode cL_areKeysSo 41 = .ok (.aload_n 0, 1) := by decide +kernel
theorem dL_areKeysSo_42 : decode cL_areKeysSo 42 = .ok (.iload_n 2, 1) := by decide +kernel
theorem dL_areKeysSo_43 : decode cL_areKeysSo 43 = .ok (.invokevirtual 110, 3) := by decide +kernel
theorem dL_areKeysSo_46 : decode cL_areKeysSo 46 = .ok (.if_icmp .ne 39, 3) := by decide +kernel
theorem dL_areKeysSo_49 : decode cL_areKeysSo 49 = .ok (.aload_n 0, 1) := by decide +kernel
theorem dL_areKeysSo_50 : decode cL_areKeysSo 50 = .ok (.iload_n 2, 1) := by decide +kernel
theorem dL_areKeysSo_51 : decode cL_areKeysSo 51 = .ok (.invokevirtual 94, 3) := by decide +kernel
theorem dL_areKeysSo_54 : decode cL_areKeysSo 54 = .ok (.ifCond .lt 31, 3) := by decide +kernel
theorem dL_areKeysSo_57 : decode cL_areKeysSo 57 = .ok (.aload_n 0, 1) := by decide +kernel
theorem dL_areKeysSo_58 : decode cL_areKeysSo 58 = .ok (.iload_n 2, 1) := by decide +kernel
theorem dL_areKeysSo_59 : decode cL_areKeysSo 59 = .ok (.invokevirtual 97, 3) := by decide +kernel
theorem dL_areKeysSo_62 : decode cL_areKeysSo 62 = .ok (.ifCond .lt 23, 3) := by decide +kernel
theorem dL_areKeysSo_65 : decode cL_areKeysSo 65 = .ok (.aload_n 0, 1) := by decide +kernel
theorem dL_areKeysSo_66 : decode cL_areKeysSo 66 = .ok (.iload_n 2, 1) := by decide +kernel
theorem dL_areKeysSo_67 : decode cL_areKeysSo 67 = .ok (.invokevirtual 100, 3) := by decide +kernel
theorem dL_areKeysSo_70 : decode cL_areKeysSo 70 = .ok (.ifCond .lt 15, 3) := by decide +kernel
theorem dL_areKeysSo_73 : decode cL_areKeysSo 73 = .ok (.aload_n 0, 1) := by decide +kernel
theorem dL_areKeysSo_74 : decode cL_areKeysSo 74 = .ok (.iload_n 2, 1) := by decide +kernel
theorem dL_areKeysSo_75 : decode cL_areKeysSo 75 = .ok (.invokevirtual 103, 3) := by decide +kernel
theorem dL_areKeysSo_78 : decode cL_areKeysSo 78 = .ok (.ifCond .lt 7, 3) := by decide +kernel
theorem dL_areKeysSo_81 : decode cL_areKeysSo 81 = .ok (.iconst 1, 1) := by decide +kernel
