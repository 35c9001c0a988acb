theorem dX0_init_0 : decode cX0_init 0 = .ok (.aload_n 0, 1) := by decide +kernel
theorem dX0_init_1 : decode cX0_init 1 = .ok (.invokespecial 3, 3) := by decide +kernel
theorem dX0_init_4 : decode cX0_init 4 = .ok (.aload_n 0, 1) := by decide +kernel
theorem dX0_init_5 : decode cX0_init 5 = .ok (.iconst (-1), 1) := by decide +kernel
theorem dX0_init_6 : decode cX0_init 6 = .ok (.putfield 9, 3) := by decide +kernel
theorem dX0_init_9 : decode cX0_init 9 = .ok (.aload_n 0, 1) := by decide +kernel
theorem dX0_init_10 : decode cX0_init 10 = .ok (.aload_n 1, 1) := by decide +kernel
theorem dX0_init_11 : decode cX0_init 11 = .ok (.putfield 15, 3) := by decide +kernel
theorem dX0_init_14 : decode cX0_init 14 = .ok (.aload_n 0, 1) := by decide +kernel
theorem dX0_init_15 : decode cX0_init 15 = .ok (.iload_n 2, 1) := by decide +kernel
theorem dX0_init_16 : decode cX0_init 16 = .ok (.putfield 19, 3) := by decide +kernel
theorem dX0_init_19 : decode cX0_init 19 = .ok (.aload_n 0, 1) := by decide +kernel
theorem dX0_init_20 : decode cX0_init 20 = .ok (.iload_n 3, 1) := by decide +kernel
theorem dX0_init_21 : decode cX0_init 21 = .ok (.putfield 22, 3) := by decide +kernel
theorem dX0_init_24 : decode cX0_init 24 = .ok (.aload_n 0, 1) := by decide +kernel
theorem dX0_init_25 : decode cX0_init 25 = .ok (.iload 4, 2) := by decide +kernel
theorem dX0_init_27 : decode cX0_init 27 = .ok (.putfield 25, 3) := by decide +kernel
theorem dX0_init_30 : decode cX0_init 30 = .ok (.return_, 1) := by decide +kernel
theorem dX0_hasEnded_0 : decode cX0_hasEnded 0 = .ok (.aload_n 0, 1) := by decide +kernel
theorem dX0_hasEnded_1 : decode cX0_hasEnded 1 = .ok (.getfield 9, 3) := by decide +kernel
theorem dX0_hasEnded_4 : decode cX0_hasEnded 4 = .ok (.iconst (-1), 1) := by decide +kernel
theorem dX0_hasEnded_5 : decode cX0_hasEnded 5 = .ok (.if_icmp .eq 7, 3) := by decide +kernel
theorem dX0_hasEnded_8 : decode cX0_hasEnded 8 = .ok (.iconst 1, 1) := by decide +kernel
theorem dX0_hasEnded_9 : decode cX0_hasEnded 9 = .ok (.goto 4, 3) := by decide +kernel
theorem dX0_hasEnded_12 : decode cX0_hasEnded 12 = .ok (.iconst 0, 1) := by decide +kernel
theorem dX0_hasEnded_13 : decode cX0_hasEnded 13 = .ok (.ireturn, 1) := by decide +kernel
set_option maxRecDepth 20000 in
theorem ggX0_settle_X0_costOf : GoodIn wsX0_settle wsX0_costOf := goodIn_r _ [9, 4, 27, 28, 29, 30, 31, 32, 33] (by decide +kernel) (by decide +kernel)
set_option maxRecDepth 20000 in
theorem gX0_settle_X0_costOf : GoodIn wsX0_settle (wsV RX0 28 RX0 yX0_costOf wsX0_costOf) := goodIn_app (goodIn_of _ (by decide +kernel)) ggX0_settle_X0_costOf
set_option maxRecDepth 20000 in
theorem ggX0_settle_X1_closeHold : GoodIn wsX0_settle wsX1_closeHold := goodIn_r _ [13, 14, 15, 16, 17, 18, 19, 11, 20, 21, 22, 23, 24, 25, 26, 34, 35, 36, 37, 38, 39, 40, 41, 42] (by decide +kernel) (by decide +kernel)
set_option maxRecDepth 20000 in
theorem gX0_settle_X1_closeHold_n35 : GoodIn wsX0_settle (wsX1_closeHold) := ggX0_settle_X1_closeHold
theorem dX0_settle_0 : decode cX0_settle 0 = .ok (.aload_n 0, 1) := by decide +kernel
theorem dX0_settle_1 : decode cX0_settle 1 = .ok (.aload_n 0, 1) := by decide +kernel
theorem dX0_settle_2 : decode cX0_settle 2 = .ok (.iload_n 1, 1) := by decide +kernel
theorem dX0_settle_3 : decode cX0_settle 3 = .ok (.invokevirtual 28, 3) := by decide +kernel
theorem dX0_settle_6 : decode cX0_settle 6 = .ok (.putfield 9, 3) := by decide +kernel
theorem dX0_settle_9 : decode cX0_settle 9 = .ok (.aload_n 0, 1) := by decide +kernel
theorem dX0_settle_10 : decode cX0_settle 10 = .ok (.iload_n 2, 1) := by decide +kernel
theorem dX0_settle_11 : decode cX0_settle 11 = .ok (.putfield 32, 3) := by decide +kernel
theorem dX0_settle_14 : decode cX0_settle 14 = .ok (.aload_n 0, 1) := by decide +kernel
theorem dX0_settle_15 : decode cX0_settle 15 = .ok (.getfield 15, 3) := by decide +kernel
theorem dX0_settle_18 : decode cX0_settle 18 = .ok (.aload_n 0, 1) := by decide +kernel
theorem dX0_settle_19 : decode cX0_settle 19 = .ok (.getfield 19, 3) := by decide +kernel
theorem dX0_settle_22 : decode cX0_settle 22 = .ok (.aload_n 0, 1) := by decide +kernel
theorem dX0_settle_23 : decode cX0_settle 23 = .ok (.getfield 9, 3) := by decide +kernel
theorem dX0_settle_26 : decode cX0_settle 26 = .ok (.invokevirtual 35, 3) := by decide +kernel
theorem dX0_settle_29 : decode cX0_settle 29 = .ok (.return_, 1) := by decide +kernel
theorem dX0_costOf_0 : decode cX0_costOf 0 = .ok (.iload_n 1, 1) := by decide +kernel
theorem dX0_costOf_1 : decode cX0_costOf 1 = .ok (.ifCond .ne 8, 3) := by decide +kernel
theorem dX0_costOf_4 : decode cX0_costOf 4 = .ok (.aload_n 0, 1) := by decide +kernel
theorem dX0_costOf_5 : decode cX0_costOf 5 = .ok (.getfield 19, 3) := by decide +kernel
theorem dX0_costOf_8 : decode cX0_costOf 8 = .ok (.ireturn, 1) := by decide +kernel
theorem dX0_costOf_9 : decode cX0_costOf 9 = .ok (.iload_n 1, 1) := by decide +kernel
theorem dX0_costOf_10 : decode cX0_costOf 10 = .ok (.iconst 1, 1) := by decide +kernel
theorem dX0_costOf_11 : decode cX0_costOf 11 = .ok (.if_icmp .ne 14, 3) := by decide +kernel
theorem dX0_costOf_14 : decode cX0_costOf 14 = .ok (.aload_n 0, 1) := by decide +kernel
theorem dX0_costOf_15 : decode cX0_costOf 15 = .ok (.getfield 19, 3) := by decide +kernel
theorem dX0_costOf_18 : decode cX0_costOf 18 = .ok (.iconst 1, 1) := by decide +kernel
theorem dX0_costOf_19 : decode cX0_costOf 19 = .ok (.iadd, 1) := by decide +kernel
theorem dX0_costOf_20 : decode cX0_costOf 20 = .ok (.iconst 2, 1) := by decide +kernel
theorem dX0_costOf_21 : decode cX0_costOf 21 = .ok (.idiv, 1) := by decide +kernel
theorem dX0_costOf_22 : decode cX0_costOf 22 = .ok (.goto 4, 3) := by decide +kernel
theorem dX0_costOf_25 : decode cX0_costOf 25 = .ok (.iconst 0, 1) := by decide +kernel
theorem dX0_costOf_26 : decode cX0_costOf 26 = .ok (.ireturn, 1) := by decide +kernel
set_option maxRecDepth 20000 in
theorem ggX0_giveBack_X1_receive : GoodIn wsX0_giveBack wsX1_receive := goodIn_r _ [8, 9, 10, 11, 12, 13, 14, 22, 23, 24, 25, 26, 27, 28, 29, 30] (by decide +kernel) (by decide +kernel)
set_option maxRecDepth 20000 in
theorem gX0_giveBack_X1_receive_n48 : GoodIn wsX0_giveBack (wsX1_receive) := ggX0_giveBack_X1_receive
theorem dX0_giveBack_0 : decode cX0_giveBack 0 = .ok (.aload_n 0, 1) := by decide +kernel
theorem dX0_giveBack_1 : decode cX0_giveBack 1 = .ok (.getfield 9, 3) := by decide +kernel
theorem dX0_giveBack_4 : decode cX0_giveBack 4 = .ok (.istore_n 1, 1) := by decide +kernel
theorem dX0_giveBack_5 : decode cX0_giveBack 5 = .ok (.aload_n 0, 1) := by decide +kernel
theorem dX0_giveBack_6 : decode cX0_giveBack 6 = .ok (.iconst 0, 1) := by decide +kernel
theorem dX0_giveBack_7 : decode cX0_giveBack 7 = .ok (.putfield 9, 3) := by decide +kernel
theorem dX0_giveBack_10 : decode cX0_giveBack 10 = .ok (.aload_n 0, 1) := by decide +kernel
theorem dX0_giveBack_11 : decode cX0_giveBack 11 = .ok (.iconst 1, 1) := by decide +kernel
theorem dX0_giveBack_12 : decode cX0_giveBack 12 = .ok (.putfield 41, 3) := by decide +kernel
theorem dX0_giveBack_15 : decode cX0_giveBack 15 = .ok (.aload_n 0, 1) := by decide +kernel
theorem dX0_giveBack_16 : decode cX0_giveBack 16 = .ok (.getfield 15, 3) := by decide +kernel
theorem dX0_giveBack_19 : decode cX0_giveBack 19 = .ok (.dup, 1) := by decide +kernel
theorem dX0_giveBack_20 : decode cX0_giveBack 20 = .ok (.getfield 45, 3) := by decide +kernel
theorem dX0_giveBack_23 : decode cX0_giveBack 23 = .ok (.iload_n 1, 1) := by decide +kernel
theorem dX0_giveBack_24 : decode cX0_giveBack 24 = .ok (.isub, 1) := by decide +kernel
theorem dX0_giveBack_25 : decode cX0_giveBack 25 = .ok (.putfield 45, 3) := by decide +kernel
theorem dX0_giveBack_28 : decode cX0_giveBack 28 = .ok (.aload_n 0, 1) := by decide +kernel
theorem dX0_giveBack_29 : decode cX0_giveBack 29 = .ok (.getfield 15, 3) := by decide +kernel
theorem dX0_giveBack_32 : decode cX0_giveBack 32 = .ok (.iload_n 1, 1) := by decide +kernel
theorem dX0_giveBack_33 : decode cX0_giveBack 33 = .ok (.invokevirtual 48, 3) := by decide +kernel
theorem dX0_giveBack_36 : decode cX0_giveBack 36 = .ok (.aload_n 0, 1) := by decide +kernel
theorem dX0_giveBack_37 : decode cX0_giveBack 37 = .ok (.getfield 15, 3) := by decide +kernel
theorem dX0_giveBack_40 : decode cX0_giveBack 40 = .ok (.dup, 1) := by decide +kernel
theorem dX0_giveBack_41 : decode cX0_giveBack 41 = .ok (.getfield 52, 3) := by decide +kernel
theorem dX0_giveBack_44 : decode cX0_giveBack 44 = .ok (.aload_n 0, 1) := by decide +kernel
theorem dX0_giveBack_45 : decode cX0_giveBack 45 = .ok (.getfield 22, 3) := by decide +kernel
theorem dX0_giveBack_48 : decode cX0_giveBack 48 = .ok (.iadd, 1) := by decide +kernel
theorem dX0_giveBack_49 : decode cX0_giveBack 49 = .ok (.putfield 52, 3) := by decide +kernel
theorem dX0_giveBack_52 : decode cX0_giveBack 52 = .ok (.iload_n 1, 1) := by decide +kernel
theorem dX0_giveBack_53 : decode cX0_giveBack 53 = .ok (.ireturn, 1) := by decide +kernel
theorem dX1_init_0 : decode cX1_init 0 = .ok (.aload_n 0, 1) := by decide +kernel
theorem dX1_init_1 : decode cX1_init 1 = .ok (.invokespecial 1, 3) := by decide +kernel
theorem dX1_init_4 : decode cX1_init 4 = .ok (.aload_n 0, 1) := by decide +kernel
theorem dX1_init_5 : decode cX1_init 5 = .ok (.aload_n 1, 1) := by decide +kernel
theorem dX1_init_6 : decode cX1_init 6 = .ok (.putfield 7, 3) := by decide +kernel
theorem dX1_init_9 : decode cX1_init 9 = .ok (.aload_n 0, 1) := by decide +kernel
theorem dX1_init_10 : decode cX1_init 10 = .ok (.aload_n 1, 1) := by decide +kernel
theorem dX1_init_11 : decode cX1_init 11 = .ok (.getfield 13, 3) := by decide +kernel
theorem dX1_init_14 : decode cX1_init 14 = .ok (.putfield 19, 3) := by decide +kernel
theorem dX1_init_17 : decode cX1_init 17 = .ok (.return_, 1) := by decide +kernel
theorem dX1_receive_0 : decode cX1_receive 0 = .ok (.aload_n 0, 1) := by decide +kernel
theorem dX1_receive_1 : decode cX1_receive 1 = .ok (.getfield 22, 3) := by decide +kernel
theorem dX1_receive_4 : decode cX1_receive 4 = .ok (.iload_n 1, 1) := by decide +kernel
theorem dX1_receive_5 : decode cX1_receive 5 = .ok (.invokestatic 25, 3) := by decide +kernel
theorem dX1_receive_8 : decode cX1_receive 8 = .ok (.istore_n 2, 1) := by decide +kernel
theorem dX1_receive_9 : decode cX1_receive 9 = .ok (.aload_n 0, 1) := by decide +kernel
theorem dX1_receive_10 : decode cX1_receive 10 = .ok (.dup, 1) := by decide +kernel
theorem dX1_receive_11 : decode cX1_receive 11 = .ok (.getfield 22, 3) := by decide +kernel
theorem dX1_receive_14 : decode cX1_receive 14 = .ok (.iload_n 2, 1) := by decide +kernel
theorem dX1_receive_15 : decode cX1_receive 15 = .ok (.isub, 1) := by decide +kernel
theorem dX1_receive_16 : decode cX1_receive 16 = .ok (.putfield 22, 3) := by decide +kernel
theorem dX1_receive_19 : decode cX1_receive 19 = .ok (.aload_n 0, 1) := by decide +kernel
theorem dX1_receive_20 : decode cX1_receive 20 = .ok (.dup, 1) := by decide +kernel
theorem dX1_receive_21 : decode cX1_receive 21 = .ok (.getfield 31, 3) := by decide +kernel
theorem dX1_receive_24 : decode cX1_receive 24 = .ok (.iload_n 1, 1) := by decide +kernel
theorem dX1_receive_25 : decode cX1_receive 25 = .ok (.iload_n 2, 1) := by decide +kernel
theorem dX1_receive_26 : decode cX1_receive 26 = .ok (.isub, 1) := by decide +kernel
theorem dX1_receive_27 : decode cX1_receive 27 = .ok (.iadd, 1) := by decide +kernel
theorem dX1_receive_28 : decode cX1_receive 28 = .ok (.putfield 31, 3) := by decide +kernel
theorem dX1_receive_31 : decode cX1_receive 31 = .ok (.return_, 1) := by decide +kernel
theorem dX1_canCover_0 : decode cX1_canCover 0 = .ok (.iconst 0, 1) := by decide +kernel
theorem dX1_canCover_1 : decode cX1_canCover 1 = .ok (.aload_n 0, 1) := by decide +kernel
theorem dX1_canCover_2 : decode cX1_canCover 2 = .ok (.getfield 34, 3) := by decide +kernel
theorem dX1_canCover_5 : decode cX1_canCover 5 = .ok (.aload_n 0, 1) := by decide +kernel
theorem dX1_canCover_6 : decode cX1_canCover 6 = .ok (.getfield 22, 3) := by decide +kernel
theorem dX1_canCover_9 : decode cX1_canCover 9 = .ok (.isub, 1) := by decide +kernel
theorem dX1_canCover_10 : decode cX1_canCover 10 = .ok (.invokestatic 37, 3) := by decide +kernel
theorem dX1_canCover_13 : decode cX1_canCover 13 = .ok (.istore_n 2, 1) := by decide +kernel
theorem dX1_canCover_14 : decode cX1_canCover 14 = .ok (.aload_n 0, 1) := by decide +kernel
theorem dX1_canCover_15 : decode cX1_canCover 15 = .ok (.getfield 31, 3) := by decide +kernel
theorem dX1_canCover_18 : decode cX1_canCover 18 = .ok (.iload_n 2, 1) := by decide +kernel
theorem dX1_canCover_19 : decode cX1_canCover 19 = .ok (.iadd, 1) := by decide +kernel
theorem dX1_canCover_20 : decode cX1_canCover 20 = .ok (.iload_n 1, 1) := by decide +kernel
theorem dX1_canCover_21 : decode cX1_canCover 21 = .ok (.if_icmp .lt 7, 3) := by decide +kernel
theorem dX1_canCover_24 : decode cX1_canCover 24 = .ok (.iconst 1, 1) := by decide +kernel
theorem dX1_canCover_25 : decode cX1_canCover 25 = .ok (.goto 4, 3) := by decide +kernel
theorem dX1_canCover_28 : decode cX1_canCover 28 = .ok (.iconst 0, 1) := by decide +kernel
theorem dX1_canCover_29 : decode cX1_canCover 29 = .ok (.ireturn, 1) := by decide +kernel
theorem dX1_openHold_0 : decode cX1_openHold 0 = .ok (.aload_n 0, 1) := by decide +kernel
theorem dX1_openHold_1 : decode cX1_openHold 1 = .ok (.getfield 31, 3) := by decide +kernel
theorem dX1_openHold_4 : decode cX1_openHold 4 = .ok (.iload_n 1, 1) := by decide +kernel
theorem dX1_openHold_5 : decode cX1_openHold 5 = .ok (.invokestatic 25, 3) := by decide +kernel
theorem dX1_openHold_8 : decode cX1_openHold 8 = .ok (.istore_n 2, 1) := by decide +kernel
theorem dX1_openHold_9 : decode cX1_openHold 9 = .ok (.aload_n 0, 1) := by decide +kernel
theorem dX1_openHold_10 : decode cX1_openHold 10 = .ok (.dup, 1) := by decide +kernel
theorem dX1_openHold_11 : decode cX1_openHold 11 = .ok (.getfield 31, 3) := by decide +kernel
theorem dX1_openHold_14 : decode cX1_openHold 14 = .ok (.iload_n 2, 1) := by decide +kernel
theorem dX1_openHold_15 : decode cX1_openHold 15 = .ok (.isub, 1) := by decide +kernel
theorem dX1_openHold_16 : decode cX1_openHold 16 = .ok (.putfield 31, 3) := by decide +kernel
theorem dX1_openHold_19 : decode cX1_openHold 19 = .ok (.aload_n 0, 1) := by decide +kernel
theorem dX1_openHold_20 : decode cX1_openHold 20 = .ok (.dup, 1) := by decide +kernel
theorem dX1_openHold_21 : decode cX1_openHold 21 = .ok (.getfield 22, 3) := by decide +kernel
theorem dX1_openHold_24 : decode cX1_openHold 24 = .ok (.iload_n 1, 1) := by decide +kernel
theorem dX1_openHold_25 : decode cX1_openHold 25 = .ok (.iload_n 2, 1) := by decide +kernel
theorem dX1_openHold_26 : decode cX1_openHold 26 = .ok (.isub, 1) := by decide +kernel
theorem dX1_openHold_27 : decode cX1_openHold 27 = .ok (.iadd, 1) := by decide +kernel
theorem dX1_openHold_28 : decode cX1_openHold 28 = .ok (.putfield 22, 3) := by decide +kernel
theorem dX1_openHold_31 : decode cX1_openHold 31 = .ok (.aload_n 0, 1) := by decide +kernel
theorem dX1_openHold_32 : decode cX1_openHold 32 = .ok (.dup, 1) := by decide +kernel
theorem dX1_openHold_33 : decode cX1_openHold 33 = .ok (.getfield 40, 3) := by decide +kernel
theorem dX1_openHold_36 : decode cX1_openHold 36 = .ok (.iload_n 1, 1) := by decide +kernel
theorem dX1_openHold_37 : decode cX1_openHold 37 = .ok (.iadd, 1) := by decide +kernel
theorem dX1_openHold_38 : decode cX1_openHold 38 = .ok (.putfield 40, 3) := by decide +kernel
theorem dX1_openHold_41 : decode cX1_openHold 41 = .ok (.aload_n 0, 1) := by decide +kernel
theorem dX1_openHold_42 : decode cX1_openHold 42 = .ok (.dup, 1) := by decide +kernel
theorem dX1_openHold_43 : decode cX1_openHold 43 = .ok (.getfield 43, 3) := by decide +kernel
theorem dX1_openHold_46 : decode cX1_openHold 46 = .ok (.iconst 1, 1) := by decide +kernel
theorem dX1_openHold_47 : decode cX1_openHold 47 = .ok (.iadd, 1) := by decide +kernel
theorem dX1_openHold_48 : decode cX1_openHold 48 = .ok (.putfield 43, 3) := by decide +kernel
theorem dX1_openHold_51 : decode cX1_openHold 51 = .ok (.return_, 1) := by decide +kernel
set_option maxRecDepth 20000 in
theorem ggX1_closeHold_X1_receive : GoodIn wsX1_closeHold wsX1_receive := goodIn_r _ [8, 9, 10, 11, 12, 13, 14, 15, 16, 17, 18, 19, 20, 21, 22, 23] (by decide +kernel) (by decide +kernel)
set_option maxRecDepth 20000 in
theorem gX1_closeHold_X1_receive : GoodIn wsX1_closeHold (wsV RX1 49 RX1 yX1_receive wsX1_receive) := goodIn_app (goodIn_of _ (by decide +kernel)) ggX1_closeHold_X1_receive
theorem dX1_closeHold_0 : decode cX1_closeHold 0 = .ok (.aload_n 0, 1) := by decide +kernel
theorem dX1_closeHold_1 : decode cX1_closeHold 1 = .ok (.dup, 1) := by decide +kernel
theorem dX1_closeHold_2 : decode cX1_closeHold 2 = .ok (.getfield 40, 3) := by decide +kernel
theorem dX1_closeHold_5 : decode cX1_closeHold 5 = .ok (.iload_n 1, 1) := by decide +kernel
theorem dX1_closeHold_6 : decode cX1_closeHold 6 = .ok (.isub, 1) := by decide +kernel
theorem dX1_closeHold_7 : decode cX1_closeHold 7 = .ok (.putfield 40, 3) := by decide +kernel
theorem dX1_closeHold_10 : decode cX1_closeHold 10 = .ok (.aload_n 0, 1) := by decide +kernel
theorem dX1_closeHold_11 : decode cX1_closeHold 11 = .ok (.dup, 1) := by decide +kernel
theorem dX1_closeHold_12 : decode cX1_closeHold 12 = .ok (.getfield 43, 3) := by decide +kernel
theorem dX1_closeHold_15 : decode cX1_closeHold 15 = .ok (.iconst 1, 1) := by decide +kernel
theorem dX1_closeHold_16 : decode cX1_closeHold 16 = .ok (.isub, 1) := by decide +kernel
theorem dX1_closeHold_17 : decode cX1_closeHold 17 = .ok (.putfield 43, 3) := by decide +kernel
theorem dX1_closeHold_20 : decode cX1_closeHold 20 = .ok (.aload_n 0, 1) := by decide +kernel
theorem dX1_closeHold_21 : decode cX1_closeHold 21 = .ok (.dup, 1) := by decide +kernel
theorem dX1_closeHold_22 : decode cX1_closeHold 22 = .ok (.getfield 46, 3) := by decide +kernel
theorem dX1_closeHold_25 : decode cX1_closeHold 25 = .ok (.iload_n 2, 1) := by decide +kernel
theorem dX1_closeHold_26 : decode cX1_closeHold 26 = .ok (.iadd, 1) := by decide +kernel
theorem dX1_closeHold_27 : decode cX1_closeHold 27 = .ok (.putfield 46, 3) := by decide +kernel
theorem dX1_closeHold_30 : decode cX1_closeHold 30 = .ok (.aload_n 0, 1) := by decide +kernel
theorem dX1_closeHold_31 : decode cX1_closeHold 31 = .ok (.iload_n 1, 1) := by decide +kernel
theorem dX1_closeHold_32 : decode cX1_closeHold 32 = .ok (.iload_n 2, 1) := by decide +kernel
theorem dX1_closeHold_33 : decode cX1_closeHold 33 = .ok (.isub, 1) := by decide +kernel
theorem dX1_closeHold_34 : decode cX1_closeHold 34 = .ok (.invokevirtual 49, 3) := by decide +kernel
theorem dX1_closeHold_37 : decode cX1_closeHold 37 = .ok (.return_, 1) := by decide +kernel
theorem dX1_refillsSlowly_0 : decode cX1_refillsSlowly 0 = .ok (.aload_n 0, 1) := by decide +kernel
theorem dX1_refillsSlowly_1 : decode cX1_refillsSlowly 1 = .ok (.getfield 31, 3) := by decide +kernel
theorem dX1_refillsSlowly_4 : decode cX1_refillsSlowly 4 = .ok (.ifCond .ne 14, 3) := by decide +kernel
theorem dX1_refillsSlowly_7 : decode cX1_refillsSlowly 7 = .ok (.aload_n 0, 1) := by decide +kernel
theorem dX1_refillsSlowly_8 : decode cX1_refillsSlowly 8 = .ok (.getfield 43, 3) := by decide +kernel
theorem dX1_refillsSlowly_11 : decode cX1_refillsSlowly 11 = .ok (.ifCond .ne 7, 3) := by decide +kernel
theorem dX1_refillsSlowly_14 : decode cX1_refillsSlowly 14 = .ok (.iconst 1, 1) := by decide +kernel
theorem dX1_refillsSlowly_15 : decode cX1_refillsSlowly 15 = .ok (.goto 4, 3) := by decide +kernel
theorem dX1_refillsSlowly_18 : decode cX1_refillsSlowly 18 = .ok (.iconst 0, 1) := by decide +kernel
theorem dX1_refillsSlowly_19 : decode cX1_refillsSlowly 19 = .ok (.ireturn, 1) := by decide +kernel
set_option maxRecDepth 20000 in
theorem ggX1_refillBucket_X1_refillsSlowly : GoodIn wsX1_refillBucket wsX1_refillsSlowly := goodIn_r _ [11, 12, 13, 14, 15, 16, 17, 18, 19, 20, 21, 22] (by decide +kernel) (by decide +kernel)
set_option maxRecDepth 20000 in
theorem gX1_refillBucket_X1_refillsSlowly : GoodIn wsX1_refillBucket (wsV RX1 53 RX1 yX1_refillsSlowly wsX1_refillsSlowly) := goodIn_app (goodIn_of _ (by decide +kernel)) ggX1_refillBucket_X1_refillsSlowly
theorem dX1_refillBucket_0 : decode cX1_refillBucket 0 = .ok (.aload_n 0, 1) := by decide +kernel
theorem dX1_refillBucket_1 : decode cX1_refillBucket 1 = .ok (.getfield 19, 3) := by decide +kernel
theorem dX1_refillBucket_4 : decode cX1_refillBucket 4 = .ok (.aload_n 0, 1) := by decide +kernel
theorem dX1_refillBucket_5 : decode cX1_refillBucket 5 = .ok (.getfield 7, 3) := by decide +kernel
theorem dX1_refillBucket_8 : decode cX1_refillBucket 8 = .ok (.getfield 13, 3) := by decide +kernel
theorem dX1_refillBucket_11 : decode cX1_refillBucket 11 = .ok (.if_icmp .ge 48, 3) := by decide +kernel
theorem dX1_refillBucket_14 : decode cX1_refillBucket 14 = .ok (.aload_n 0, 1) := by decide +kernel
theorem dX1_refillBucket_15 : decode cX1_refillBucket 15 = .ok (.invokevirtual 53, 3) := by decide +kernel
theorem dX1_refillBucket_18 : decode cX1_refillBucket 18 = .ok (.ifCond .eq 13, 3) := by decide +kernel
theorem dX1_refillBucket_21 : decode cX1_refillBucket 21 = .ok (.aload_n 0, 1) := by decide +kernel
theorem dX1_refillBucket_22 : decode cX1_refillBucket 22 = .ok (.getfield 7, 3) := by decide +kernel
theorem dX1_refillBucket_25 : decode cX1_refillBucket 25 = .ok (.getfield 57, 3) := by decide +kernel
theorem dX1_refillBucket_28 : decode cX1_refillBucket 28 = .ok (.goto 10, 3) := by decide +kernel
theorem dX1_refillBucket_31 : decode cX1_refillBucket 31 = .ok (.aload_n 0, 1) := by decide +kernel
theorem dX1_refillBucket_32 : decode cX1_refillBucket 32 = .ok (.getfield 7, 3) := by decide +kernel
theorem dX1_refillBucket_35 : decode cX1_refillBucket 35 = .ok (.getfield 60, 3) := by decide +kernel
theorem dX1_refillBucket_38 : decode cX1_refillBucket 38 = .ok (.istore_n 1, 1) := by decide +kernel
theorem dX1_refillBucket_39 : decode cX1_refillBucket 39 = .ok (.aload_n 0, 1) := by decide +kernel
theorem dX1_refillBucket_40 : decode cX1_refillBucket 40 = .ok (.aload_n 0, 1) := by decide +kernel
theorem dX1_refillBucket_41 : decode cX1_refillBucket 41 = .ok (.getfield 7, 3) := by decide +kernel
theorem dX1_refillBucket_44 : decode cX1_refillBucket 44 = .ok (.getfield 13, 3) := by decide +kernel
theorem dX1_refillBucket_47 : decode cX1_refillBucket 47 = .ok (.aload_n 0, 1) := by decide +kernel
theorem dX1_refillBucket_48 : decode cX1_refillBucket 48 = .ok (.getfield 19, 3) := by decide +kernel
theorem dX1_refillBucket_51 : decode cX1_refillBucket 51 = .ok (.iload_n 1, 1) := by decide +kernel
theorem dX1_refillBucket_52 : decode cX1_refillBucket 52 = .ok (.iadd, 1) := by decide +kernel
theorem dX1_refillBucket_53 : decode cX1_refillBucket 53 = .ok (.invokestatic 25, 3) := by decide +kernel
theorem dX1_refillBucket_56 : decode cX1_refillBucket 56 = .ok (.putfield 19, 3) := by decide +kernel
theorem dX1_refillBucket_59 : decode cX1_refillBucket 59 = .ok (.return_, 1) := by decide +kernel
theorem dX2_init_0 : decode cX2_init 0 = .ok (.aload_n 0, 1) := by decide +kernel
theorem dX2_init_1 : decode cX2_init 1 = .ok (.invokespecial 1, 3) := by decide +kernel
theorem dX2_init_4 : decode cX2_init 4 = .ok (.aload_n 0, 1) := by decide +kernel
theorem dX2_init_5 : decode cX2_init 5 = .ok (.bipush 10, 2) := by decide +kernel
theorem dX2_init_7 : decode cX2_init 7 = .ok (.putfield 7, 3) := by decide +kernel
theorem dX2_init_10 : decode cX2_init 10 = .ok (.aload_n 0, 1) := by decide +kernel
theorem dX2_init_11 : decode cX2_init 11 = .ok (.iconst 1, 1) := by decide +kernel
theorem dX2_init_12 : decode cX2_init 12 = .ok (.putfield 13, 3) := by decide +kernel
theorem dX2_init_15 : decode cX2_init 15 = .ok (.aload_n 0, 1) := by decide +kernel
theorem dX2_init_16 : decode cX2_init 16 = .ok (.iconst 0, 1) := by decide +kernel
theorem dX2_init_17 : decode cX2_init 17 = .ok (.putfield 16, 3) := by decide +kernel
theorem dX2_init_20 : decode cX2_init 20 = .ok (.aload_n 0, 1) := by decide +kernel
theorem dX2_init_21 : decode cX2_init 21 = .ok (.iload_n 1, 1) := by decide +kernel
theorem dX2_init_22 : decode cX2_init 22 = .ok (.putfield 19, 3) := by decide +kernel
theorem dX2_init_25 : decode cX2_init 25 = .ok (.return_, 1) := by decide +kernel
theorem dX3_init_0 : decode cX3_init 0 = .ok (.aload_n 0, 1) := by decide +kernel
theorem dX3_init_1 : decode cX3_init 1 = .ok (.invokespecial 1, 3) := by decide +kernel
theorem dX3_init_4 : decode cX3_init 4 = .ok (.aload_n 0, 1) := by decide +kernel
theorem dX3_init_5 : decode cX3_init 5 = .ok (.bipush 10, 2) := by decide +kernel
theorem dX3_init_7 : decode cX3_init 7 = .ok (.putfield 7, 3) := by decide +kernel
theorem dX3_init_10 : decode cX3_init 10 = .ok (.aload_n 0, 1) := by decide +kernel
theorem dX3_init_11 : decode cX3_init 11 = .ok (.iconst 1, 1) := by decide +kernel
theorem dX3_init_12 : decode cX3_init 12 = .ok (.putfield 13, 3) := by decide +kernel
theorem dX3_init_15 : decode cX3_init 15 = .ok (.return_, 1) := by decide +kernel
set_option maxRecDepth 20000 in
theorem ggX4_init_Jx4a65c_init_da8c8 : GoodIn wsX4_init wsJx4a65c_init_da8c8 := goodIn_r _ [19, 20, 21, 22, 23, 24, 25, 26, 27, 28, 29, 30, 31, 2, 3, 50, 51, 52] (by decide +kernel) (by decide +kernel)
set_option maxRecDepth 20000 in
theorem gX4_init_Jx4a65c_init_da8c8 : GoodIn wsX4_init (wsJx4a65c_init_da8c8) := ggX4_init_Jx4a65c_init_da8c8
set_option maxRecDepth 20000 in
theorem ggX4_init_X2_init : GoodIn wsX4_init wsX2_init := goodIn_r _ [33, 34, 2, 3, 35, 36, 37, 38, 53, 54, 55, 56] (by decide +kernel) (by decide +kernel)
set_option maxRecDepth 20000 in
theorem gX4_init_X2_init_n31 : GoodIn wsX4_init (wsX2_init) := ggX4_init_X2_init
set_option maxRecDepth 20000 in
theorem ggX4_init_X3_init : GoodIn wsX4_init wsX3_init := goodIn_r _ [40, 41, 2, 3, 42, 43, 57, 58] (by decide +kernel) (by decide +kernel)
set_option maxRecDepth 20000 in
theorem gX4_init_X3_init_n34 : GoodIn wsX4_init (wsX3_init) := ggX4_init_X3_init
theorem dX4_init_0 : decode cX4_init 0 = .ok (.aload_n 0, 1) := by decide +kernel
theorem dX4_init_1 : decode cX4_init 1 = .ok (.invokespecial 1, 3) := by decide +kernel
theorem dX4_init_4 : decode cX4_init 4 = .ok (.aload_n 0, 1) := by decide +kernel
theorem dX4_init_5 : decode cX4_init 5 = .ok (.iconst 4, 1) := by decide +kernel
theorem dX4_init_6 : decode cX4_init 6 = .ok (.anewarray 9, 3) := by decide +kernel
theorem dX4_init_9 : decode cX4_init 9 = .ok (.putfield 11, 3) := by decide +kernel
theorem dX4_init_12 : decode cX4_init 12 = .ok (.aload_n 0, 1) := by decide +kernel
theorem dX4_init_13 : decode cX4_init 13 = .ok (.bipush 6, 2) := by decide +kernel
theorem dX4_init_15 : decode cX4_init 15 = .ok (.anewarray 15, 3) := by decide +kernel
theorem dX4_init_18 : decode cX4_init 18 = .ok (.putfield 17, 3) := by decide +kernel
theorem dX4_init_21 : decode cX4_init 21 = .ok (.aload_n 0, 1) := by decide +kernel
theorem dX4_init_22 : decode cX4_init 22 = .ok (.new 21, 3) := by decide +kernel
theorem dX4_init_25 : decode cX4_init 25 = .ok (.dup, 1) := by decide +kernel
theorem dX4_init_26 : decode cX4_init 26 = .ok (.invokespecial 23, 3) := by decide +kernel
theorem dX4_init_29 : decode cX4_init 29 = .ok (.putfield 24, 3) := by decide +kernel
theorem dX4_init_32 : decode cX4_init 32 = .ok (.aload_n 0, 1) := by decide +kernel
theorem dX4_init_33 : decode cX4_init 33 = .ok (.new 21, 3) := by decide +kernel
theorem dX4_init_36 : decode cX4_init 36 = .ok (.dup, 1) := by decide +kernel
theorem dX4_init_37 : decode cX4_init 37 = .ok (.invokespecial 23, 3) := by decide +kernel
theorem dX4_init_40 : decode cX4_init 40 = .ok (.putfield 28, 3) := by decide +kernel
theorem dX4_init_43 : decode cX4_init 43 = .ok (.iconst 0, 1) := by decide +kernel
theorem dX4_init_44 : decode cX4_init 44 = .ok (.istore_n 1, 1) := by decide +kernel
theorem dX4_init_45 : decode cX4_init 45 = .ok (.iload_n 1, 1) := by decide +kernel
theorem dX4_init_46 : decode cX4_init 46 = .ok (.aload_n 0, 1) := by decide +kernel
theorem dX4_init_47 : decode cX4_init 47 = .ok (.getfield 11, 3) := by decide +kernel
theorem dX4_init_50 : decode cX4_init 50 = .ok (.arraylength, 1) := by decide +kernel
theorem dX4_init_51 : decode cX4_init 51 = .ok (.if_icmp .ge 23, 3) := by decide +kernel
theorem dX4_init_54 : decode cX4_init 54 = .ok (.aload_n 0, 1) := by decide +kernel
theorem dX4_init_55 : decode cX4_init 55 = .ok (.getfield 11, 3) := by decide +kernel
theorem dX4_init_58 : decode cX4_init 58 = .ok (.iload_n 1, 1) := by decide +kernel
theorem dX4_init_59 : decode cX4_init 59 = .ok (.new 9, 3) := by decide +kernel
theorem dX4_init_62 : decode cX4_init 62 = .ok (.dup, 1) := by decide +kernel
theorem dX4_init_63 : decode cX4_init 63 = .ok (.iload_n 1, 1) := by decide +kernel
theorem dX4_init_64 : decode cX4_init 64 = .ok (.invokespecial 31, 3) := by decide +kernel
theorem dX4_init_67 : decode cX4_init 67 = .ok (.aastore, 1) := by decide +kernel
theorem dX4_init_68 : decode cX4_init 68 = .ok (.iinc 1 1, 3) := by decide +kernel
theorem dX4_init_71 : decode cX4_init 71 = .ok (.goto (-26), 3) := by decide +kernel
theorem dX4_init_74 : decode cX4_init 74 = .ok (.iconst 0, 1) := by decide +kernel
theorem dX4_init_75 : decode cX4_init 75 = .ok (.istore_n 1, 1) := by decide +kernel
theorem dX4_init_76 : decode cX4_init 76 = .ok (.iload_n 1, 1) := by decide +kernel
theorem dX4_init_77 : decode cX4_init 77 = .ok (.aload_n 0, 1) := by decide +kernel
theorem dX4_init_78 : decode cX4_init 78 = .ok (.getfield 17, 3) := by decide +kernel
theorem dX4_init_81 : decode cX4_init 81 = .ok (.arraylength, 1) := by decide +kernel
theorem dX4_init_82 : decode cX4_init 82 = .ok (.if_icmp .ge 22, 3) := by decide +kernel
theorem dX4_init_85 : decode cX4_init 85 = .ok (.aload_n 0, 1) := by decide +kernel
theorem dX4_init_86 : decode cX4_init 86 = .ok (.getfield 17, 3) := by decide +kernel
theorem dX4_init_89 : decode cX4_init 89 = .ok (.iload_n 1, 1) := by decide +kernel
theorem dX4_init_90 : decode cX4_init 90 = .ok (.new 15, 3) := by decide +kernel
theorem dX4_init_93 : decode cX4_init 93 = .ok (.dup, 1) := by decide +kernel
theorem dX4_init_94 : decode cX4_init 94 = .ok (.invokespecial 34, 3) := by decide +kernel
theorem dX4_init_97 : decode cX4_init 97 = .ok (.aastore, 1) := by decide +kernel
theorem dX4_init_98 : decode cX4_init 98 = .ok (.iinc 1 1, 3) := by decide +kernel
theorem dX4_init_101 : decode cX4_init 101 = .ok (.goto (-25), 3) := by decide +kernel
theorem dX4_init_104 : decode cX4_init 104 = .ok (.return_, 1) := by decide +kernel
set_option maxRecDepth 20000 in
theorem ggX4_setPlan_X4_planAt : GoodIn wsX4_setPlan wsX4_planAt := goodIn_ca (goodIn_r _ [5, 6, 7, 8, 16, 17, 18, 19, 20, 21] (by decide +kernel) (by decide +kernel)) (goodIn_sub (fun _ h => List.mem_cons_of_mem _ (List.mem_append_right _ h)) (by decide +kernel))
set_option maxRecDepth 20000 in
theorem gX4_setPlan_X4_planAt : GoodIn wsX4_setPlan (wsV RX4 35 RX4 yX4_planAt wsX4_planAt) := goodIn_app (goodIn_of _ (by decide +kernel)) ggX4_setPlan_X4_planAt
set_option maxRecDepth 20000 in
theorem ggX4_setPlan_X4_refuseOutside : GoodIn wsX4_setPlan wsX4_refuseOutside := goodIn_ca (goodIn_r _ [11, 6, 7] (by decide +kernel) (by decide +kernel)) (goodIn_sub (fun _ h => List.mem_cons_of_mem _ (List.mem_append_right _ h)) (by decide +kernel))
set_option maxRecDepth 20000 in
theorem gX4_setPlan_X4_refuseOutside : GoodIn wsX4_setPlan (va_wsS RX4 39 yX4_refuseOutside wsX4_refuseOutside) := goodIn_app (goodIn_of _ (by decide +kernel)) ggX4_setPlan_X4_refuseOutside
theorem dX4_setPlan_0 : decode cX4_setPlan 0 = .ok (.aload_n 0, 1) := by decide +kernel
theorem dX4_setPlan_1 : decode cX4_setPlan 1 = .ok (.iload_n 1, 1) := by decide +kernel
theorem dX4_setPlan_2 : decode cX4_setPlan 2 = .ok (.invokevirtual 35, 3) := by decide +kernel
theorem dX4_setPlan_5 : decode cX4_setPlan 5 = .ok (.astore 5, 2) := by decide +kernel
theorem dX4_setPlan_7 : decode cX4_setPlan 7 = .ok (.iload_n 2, 1) := by decide +kernel
theorem dX4_setPlan_8 : decode cX4_setPlan 8 = .ok (.iconst 1, 1) := by decide +kernel
theorem dX4_setPlan_9 : decode cX4_setPlan 9 = .ok (.bipush 100, 2) := by decide +kernel
theorem dX4_setPlan_11 : decode cX4_setPlan 11 = .ok (.invokestatic 39, 3) := by decide +kernel
theorem dX4_setPlan_14 : decode cX4_setPlan 14 = .ok (.iload_n 3, 1) := by decide +kernel
theorem dX4_setPlan_15 : decode cX4_setPlan 15 = .ok (.iconst 0, 1) := by decide +kernel
theorem dX4_setPlan_16 : decode cX4_setPlan 16 = .ok (.bipush 100, 2) := by decide +kernel
theorem dX4_setPlan_18 : decode cX4_setPlan 18 = .ok (.invokestatic 39, 3) := by decide +kernel
theorem dX4_setPlan_21 : decode cX4_setPlan 21 = .ok (.iload 4, 2) := by decide +kernel
theorem dX4_setPlan_23 : decode cX4_setPlan 23 = .ok (.iconst 0, 1) := by decide +kernel
theorem dX4_setPlan_24 : decode cX4_setPlan 24 = .ok (.iload_n 3, 1) := by decide +kernel
theorem dX4_setPlan_25 : decode cX4_setPlan 25 = .ok (.invokestatic 39, 3) := by decide +kernel
theorem dX4_setPlan_28 : decode cX4_setPlan 28 = .ok (.aload 5, 2) := by decide +kernel
theorem dX4_setPlan_30 : decode cX4_setPlan 30 = .ok (.iload_n 2, 1) := by decide +kernel
theorem dX4_setPlan_31 : decode cX4_setPlan 31 = .ok (.putfield 43, 3) := by decide +kernel
theorem dX4_setPlan_34 : decode cX4_setPlan 34 = .ok (.aload 5, 2) := by decide +kernel
theorem dX4_setPlan_36 : decode cX4_setPlan 36 = .ok (.iload_n 3, 1) := by decide +kernel
theorem dX4_setPlan_37 : decode cX4_setPlan 37 = .ok (.putfield 47, 3) := by decide +kernel
theorem dX4_setPlan_40 : decode cX4_setPlan 40 = .ok (.aload 5, 2) := by decide +kernel
theorem dX4_setPlan_42 : decode cX4_setPlan 42 = .ok (.iload 4, 2) := by decide +kernel
theorem dX4_setPlan_44 : decode cX4_setPlan 44 = .ok (.putfield 50, 3) := by decide +kernel
theorem dX4_setPlan_47 : decode cX4_setPlan 47 = .ok (.return_, 1) := by decide +kernel
set_option maxRecDepth 20000 in
theorem ggX4_setRoute_X4_routeAt : GoodIn wsX4_setRoute wsX4_routeAt := goodIn_ca (goodIn_r _ [5, 6, 7, 8, 14, 15, 16, 17, 18, 19] (by decide +kernel) (by decide +kernel)) (goodIn_sub (fun _ h => List.mem_cons_of_mem _ (List.mem_append_right _ h)) (by decide +kernel))
set_option maxRecDepth 20000 in
theorem gX4_setRoute_X4_routeAt : GoodIn wsX4_setRoute (wsV RX4 53 RX4 yX4_routeAt wsX4_routeAt) := goodIn_app (goodIn_of _ (by decide +kernel)) ggX4_setRoute_X4_routeAt
set_option maxRecDepth 20000 in
theorem ggX4_setRoute_X4_refuseOutside : GoodIn wsX4_setRoute wsX4_refuseOutside := goodIn_ca (goodIn_r _ [11, 6, 7] (by decide +kernel) (by decide +kernel)) (goodIn_sub (fun _ h => List.mem_cons_of_mem _ (List.mem_append_right _ h)) (by decide +kernel))
set_option maxRecDepth 20000 in
theorem gX4_setRoute_X4_refuseOutside : GoodIn wsX4_setRoute (va_wsS RX4 39 yX4_refuseOutside wsX4_refuseOutside) := goodIn_app (goodIn_of _ (by decide +kernel)) ggX4_setRoute_X4_refuseOutside
theorem dX4_setRoute_0 : decode cX4_setRoute 0 = .ok (.aload_n 0, 1) := by decide +kernel
theorem dX4_setRoute_1 : decode cX4_setRoute 1 = .ok (.iload_n 1, 1) := by decide +kernel
theorem dX4_setRoute_2 : decode cX4_setRoute 2 = .ok (.invokevirtual 53, 3) := by decide +kernel
theorem dX4_setRoute_5 : decode cX4_setRoute 5 = .ok (.astore 4, 2) := by decide +kernel
theorem dX4_setRoute_7 : decode cX4_setRoute 7 = .ok (.iload_n 2, 1) := by decide +kernel
theorem dX4_setRoute_8 : decode cX4_setRoute 8 = .ok (.iconst 0, 1) := by decide +kernel
theorem dX4_setRoute_9 : decode cX4_setRoute 9 = .ok (.sipush 1000, 3) := by decide +kernel
theorem dX4_setRoute_12 : decode cX4_setRoute 12 = .ok (.invokestatic 39, 3) := by decide +kernel
theorem dX4_setRoute_15 : decode cX4_setRoute 15 = .ok (.iload_n 3, 1) := by decide +kernel
theorem dX4_setRoute_16 : decode cX4_setRoute 16 = .ok (.iconst 1, 1) := by decide +kernel
theorem dX4_setRoute_17 : decode cX4_setRoute 17 = .ok (.bipush 20, 2) := by decide +kernel
theorem dX4_setRoute_19 : decode cX4_setRoute 19 = .ok (.invokestatic 39, 3) := by decide +kernel
theorem dX4_setRoute_22 : decode cX4_setRoute 22 = .ok (.aload 4, 2) := by decide +kernel
theorem dX4_setRoute_24 : decode cX4_setRoute 24 = .ok (.iload_n 2, 1) := by decide +kernel
theorem dX4_setRoute_25 : decode cX4_setRoute 25 = .ok (.putfield 57, 3) := by decide +kernel
theorem dX4_setRoute_28 : decode cX4_setRoute 28 = .ok (.aload 4, 2) := by decide +kernel
theorem dX4_setRoute_30 : decode cX4_setRoute 30 = .ok (.iload_n 3, 1) := by decide +kernel
theorem dX4_setRoute_31 : decode cX4_setRoute 31 = .ok (.putfield 60, 3) := by decide +kernel
theorem dX4_setRoute_34 : decode cX4_setRoute 34 = .ok (.return_, 1) := by decide +kernel
set_option maxRecDepth 20000 in
theorem ggX4_addKey_X4_planAt : GoodIn wsX4_addKey wsX4_planAt := goodIn_ca (goodIn_r _ [11, 12, 13, 14, 82, 83, 84, 85, 86, 87] (by decide +kernel) (by decide +kernel)) (goodIn_sub (fun _ h => List.mem_cons_of_mem _ (List.mem_append_right _ h)) (by decide +kernel))
set_option maxRecDepth 20000 in
theorem gX4_addKey_X4_planAt : GoodIn wsX4_addKey (wsV RX4 35 RX4 yX4_planAt wsX4_planAt) := goodIn_app (goodIn_of _ (by decide +kernel)) ggX4_addKey_X4_planAt
set_option maxRecDepth 20000 in
theorem ggX4_addKey_Jx4a65c_size_8abf5 : GoodIn wsX4_addKey wsJx4a65c_size_8abf5 := goodIn_r _ [19, 20, 97, 98, 99] (by decide +kernel) (by decide +kernel)
set_option maxRecDepth 20000 in
theorem gX4_addKey_Jx4a65c_size_8abf5 : GoodIn wsX4_addKey (wsV RX4 63 RJx4a65c yJx4a65c_size_8abf5 wsJx4a65c_size_8abf5) := goodIn_app (goodIn_of _ (by decide +kernel)) ggX4_addKey_Jx4a65c_size_8abf5
set_option maxRecDepth 20000 in
theorem ggX4_addKey_X1_init : GoodIn wsX4_addKey wsX1_init := goodIn_r _ [22, 23, 24, 25, 26, 27, 88, 89, 90, 91, 92, 93, 94, 95, 96, 100, 101, 102, 103] (by decide +kernel) (by decide +kernel)
set_option maxRecDepth 20000 in
theorem gX4_addKey_X1_init_n75 : GoodIn wsX4_addKey (wsX1_init) := ggX4_addKey_X1_init
set_option maxRecDepth 20000 in
theorem ggX4_addKey_Jx4a65c_add_9ea2d : GoodIn wsX4_addKey wsJx4a65c_add_9ea2d := goodIn_r _ [31, 32, 33, 34, 20, 35, 36, 37, 18, 38, 39, 40, 41, 42, 43, 44, 45, 46, 47, 48, 49, 50, 51, 52, 53, 54, 55, 56, 57, 58, 59, 60, 61, 62, 63, 64, 65, 66, 67, 68, 69, 70, 71, 72, 73, 74, 75, 76, 77, 78, 79, 80, 81, 97, 98, 99] (by decide +kernel) (by decide +kernel)
set_option maxRecDepth 20000 in
theorem gX4_addKey_Jx4a65c_add_9ea2d : GoodIn wsX4_addKey (wsV RX4 78 RJx4a65c yJx4a65c_add_9ea2d wsJx4a65c_add_9ea2d) := goodIn_app (goodIn_of _ (by decide +kernel)) ggX4_addKey_Jx4a65c_add_9ea2d
theorem dX4_addKey_0 : decode cX4_addKey 0 = .ok (.aload_n 0, 1) := by decide +kernel
theorem dX4_addKey_1 : decode cX4_addKey 1 = .ok (.iload_n 1, 1) := by decide +kernel
theorem dX4_addKey_2 : decode cX4_addKey 2 = .ok (.invokevirtual 35, 3) := by decide +kernel
theorem dX4_addKey_5 : decode cX4_addKey 5 = .ok (.astore_n 2, 1) := by decide +kernel
theorem dX4_addKey_6 : decode cX4_addKey 6 = .ok (.aload_n 0, 1) := by decide +kernel
theorem dX4_addKey_7 : decode cX4_addKey 7 = .ok (.getfield 24, 3) := by decide +kernel
theorem dX4_addKey_10 : decode cX4_addKey 10 = .ok (.invokevirtual 63, 3) := by decide +kernel
theorem dX4_addKey_13 : decode cX4_addKey 13 = .ok (.bipush 8, 2) := by decide +kernel
theorem dX4_addKey_15 : decode cX4_addKey 15 = .ok (.if_icmp .lt 13, 3) := by decide +kernel
theorem dX4_addKey_18 : decode cX4_addKey 18 = .ok (.new 66, 3) := by decide +kernel
theorem dX4_addKey_21 : decode cX4_addKey 21 = .ok (.dup, 1) := by decide +kernel
theorem dX4_addKey_22 : decode cX4_addKey 22 = .ok (.ldc 68, 2) := by decide +kernel
theorem dX4_addKey_24 : decode cX4_addKey 24 = .ok (.invokespecial 70, 3) := by decide +kernel
theorem dX4_addKey_27 : decode cX4_addKey 27 = .ok (.athrow, 1) := by decide +kernel
theorem dX4_addKey_28 : decode cX4_addKey 28 = .ok (.aload_n 0, 1) := by decide +kernel
theorem dX4_addKey_29 : decode cX4_addKey 29 = .ok (.getfield 24, 3) := by decide +kernel
theorem dX4_addKey_32 : decode cX4_addKey 32 = .ok (.new 73, 3) := by decide +kernel
theorem dX4_addKey_35 : decode cX4_addKey 35 = .ok (.dup, 1) := by decide +kernel
theorem dX4_addKey_36 : decode cX4_addKey 36 = .ok (.aload_n 2, 1) := by decide +kernel
theorem dX4_addKey_37 : decode cX4_addKey 37 = .ok (.invokespecial 75, 3) := by decide +kernel
theorem dX4_addKey_40 : decode cX4_addKey 40 = .ok (.invokevirtual 78, 3) := by decide +kernel
theorem dX4_addKey_43 : decode cX4_addKey 43 = .ok (.pop, 1) := by decide +kernel
theorem dX4_addKey_44 : decode cX4_addKey 44 = .ok (.aload_n 0, 1) := by decide +kernel
theorem dX4_addKey_45 : decode cX4_addKey 45 = .ok (.getfield 24, 3) := by decide +kernel
theorem dX4_addKey_48 : decode cX4_addKey 48 = .ok (.invokevirtual 63, 3) := by decide +kernel
theorem dX4_addKey_51 : decode cX4_addKey 51 = .ok (.iconst 1, 1) := by decide +kernel
theorem dX4_addKey_52 : decode cX4_addKey 52 = .ok (.isub, 1) := by decide +kernel
theorem dX4_addKey_53 : decode cX4_addKey 53 = .ok (.ireturn, 1) := by decide +kernel
set_option maxRecDepth 20000 in
theorem ggX4_setKeyPlan_X4_keyAt : GoodIn wsX4_setKeyPlan wsX4_keyAt := goodIn_ca (goodIn_r _ [5, 6, 7, 8, 9, 10, 11, 12, 13, 14, 15, 16, 17, 18, 19, 20, 21, 22, 23, 24, 25, 26, 27, 28, 29, 30, 31, 32, 53, 54, 55, 56, 57, 58, 59, 60, 61] (by decide +kernel) (by decide +kernel)) (goodIn_sub (fun _ h => List.mem_cons_of_mem _ (List.mem_append_left _ (List.mem_append_right _ h))) (by decide +kernel))
set_option maxRecDepth 20000 in
theorem gX4_setKeyPlan_X4_keyAt : GoodIn wsX4_setKeyPlan (wsV RX4 82 RX4 yX4_keyAt wsX4_keyAt) := goodIn_app (goodIn_of _ (by decide +kernel)) ggX4_setKeyPlan_X4_keyAt
set_option maxRecDepth 20000 in
theorem ggX4_setKeyPlan_X4_planAt : GoodIn wsX4_setKeyPlan wsX4_planAt := goodIn_ca (goodIn_r _ [36, 37, 38, 39, 53, 54, 55, 56, 57, 58] (by decide +kernel) (by decide +kernel)) (goodIn_sub (fun _ h => List.mem_cons_of_mem _ (List.mem_append_right _ h)) (by decide +kernel))
set_option maxRecDepth 20000 in
theorem gX4_setKeyPlan_X4_planAt : GoodIn wsX4_setKeyPlan (wsV RX4 35 RX4 yX4_planAt wsX4_planAt) := goodIn_app (goodIn_of _ (by decide +kernel)) ggX4_setKeyPlan_X4_planAt
theorem dX4_setKeyPlan_0 : decode cX4_setKeyPlan 0 = .ok (.aload_n 0, 1) := by decide +kernel
theorem dX4_setKeyPlan_1 : decode cX4_setKeyPlan 1 = .ok (.iload_n 1, 1) := by decide +kernel
theorem dX4_setKeyPlan_2 : decode cX4_setKeyPlan 2 = .ok (.invokevirtual 82, 3) := by decide +kernel
theorem dX4_setKeyPlan_5 : decode cX4_setKeyPlan 5 = .ok (.astore_n 3, 1) := by decide +kernel
theorem dX4_setKeyPlan_6 : decode cX4_setKeyPlan 6 = .ok (.aload_n 0, 1) := by decide +kernel
theorem dX4_setKeyPlan_7 : decode cX4_setKeyPlan 7 = .ok (.iload_n 2, 1) := by decide +kernel
theorem dX4_setKeyPlan_8 : decode cX4_setKeyPlan 8 = .ok (.invokevirtual 35, 3) := by decide +kernel
theorem dX4_setKeyPlan_11 : decode cX4_setKeyPlan 11 = .ok (.astore 4, 2) := by decide +kernel
theorem dX4_setKeyPlan_13 : decode cX4_setKeyPlan 13 = .ok (.aload_n 3, 1) := by decide +kernel
theorem dX4_setKeyPlan_14 : decode cX4_setKeyPlan 14 = .ok (.getfield 86, 3) := by decide +kernel
theorem dX4_setKeyPlan_17 : decode cX4_setKeyPlan 17 = .ok (.getfield 90, 3) := by decide +kernel
theorem dX4_setKeyPlan_20 : decode cX4_setKeyPlan 20 = .ok (.istore 5, 2) := by decide +kernel
theorem dX4_setKeyPlan_22 : decode cX4_setKeyPlan 22 = .ok (.aload_n 3, 1) := by decide +kernel
theorem dX4_setKeyPlan_23 : decode cX4_setKeyPlan 23 = .ok (.aload 4, 2) := by decide +kernel
theorem dX4_setKeyPlan_25 : decode cX4_setKeyPlan 25 = .ok (.putfield 86, 3) := by decide +kernel
theorem dX4_setKeyPlan_28 : decode cX4_setKeyPlan 28 = .ok (.iload 5, 2) := by decide +kernel
theorem dX4_setKeyPlan_30 : decode cX4_setKeyPlan 30 = .ok (.ireturn, 1) := by decide +kernel
set_option maxRecDepth 20000 in
theorem ggX4_setTrust_X4_keyAt : GoodIn wsX4_setTrust wsX4_keyAt := goodIn_ca (goodIn_r _ [5, 6, 7, 8, 9, 10, 11, 12, 13, 14, 15, 16, 17, 18, 19, 20, 21, 22, 23, 24, 25, 26, 27, 28, 29, 30, 31, 32, 47, 48, 49, 50, 51, 52, 53, 54, 55] (by decide +kernel) (by decide +kernel)) (goodIn_sub (fun _ h => List.mem_cons_of_mem _ (List.mem_append_left _ (List.mem_append_right _ h))) (by decide +kernel))
set_option maxRecDepth 20000 in
theorem gX4_setTrust_X4_keyAt : GoodIn wsX4_setTrust (wsV RX4 82 RX4 yX4_keyAt wsX4_keyAt) := goodIn_app (goodIn_of _ (by decide +kernel)) ggX4_setTrust_X4_keyAt
set_option maxRecDepth 20000 in
theorem ggX4_setTrust_X4_refuseOutside : GoodIn wsX4_setTrust wsX4_refuseOutside := goodIn_ca (goodIn_r _ [35, 36, 37] (by decide +kernel) (by decide +kernel)) (goodIn_sub (fun _ h => List.mem_cons_of_mem _ (List.mem_append_right _ h)) (by decide +kernel))
set_option maxRecDepth 20000 in
theorem gX4_setTrust_X4_refuseOutside : GoodIn wsX4_setTrust (va_wsS RX4 39 yX4_refuseOutside wsX4_refuseOutside) := goodIn_app (goodIn_of _ (by decide +kernel)) ggX4_setTrust_X4_refuseOutside
theorem dX4_setTrust_0 : decode cX4_setTrust 0 = .ok (.aload_n 0, 1) := by decide +kernel
theorem dX4_setTrust_1 : decode cX4_setTrust 1 = .ok (.iload_n 1, 1) := by decide +kernel
theorem dX4_setTrust_2 : decode cX4_setTrust 2 = .ok (.invokevirtual 82, 3) := by decide +kernel
theorem dX4_setTrust_5 : decode cX4_setTrust 5 = .ok (.astore_n 3, 1) := by decide +kernel
theorem dX4_setTrust_6 : decode cX4_setTrust 6 = .ok (.iload_n 2, 1) := by decide +kernel
theorem dX4_setTrust_7 : decode cX4_setTrust 7 = .ok (.iconst 0, 1) := by decide +kernel
theorem dX4_setTrust_8 : decode cX4_setTrust 8 = .ok (.sipush 10000, 3) := by decide +kernel
theorem dX4_setTrust_11 : decode cX4_setTrust 11 = .ok (.invokestatic 39, 3) := by decide +kernel
theorem dX4_setTrust_14 : decode cX4_setTrust 14 = .ok (.aload_n 3, 1) := by decide +kernel
theorem dX4_setTrust_15 : decode cX4_setTrust 15 = .ok (.getfield 93, 3) := by decide +kernel
theorem dX4_setTrust_18 : decode cX4_setTrust 18 = .ok (.istore 4, 2) := by decide +kernel
theorem dX4_setTrust_20 : decode cX4_setTrust 20 = .ok (.aload_n 3, 1) := by decide +kernel
theorem dX4_setTrust_21 : decode cX4_setTrust 21 = .ok (.iload_n 2, 1) := by decide +kernel
theorem dX4_setTrust_22 : decode cX4_setTrust 22 = .ok (.putfield 93, 3) := by decide +kernel
theorem dX4_setTrust_25 : decode cX4_setTrust 25 = .ok (.iload 4, 2) := by decide +kernel
theorem dX4_setTrust_27 : decode cX4_setTrust 27 = .ok (.ireturn, 1) := by decide +kernel
set_option maxRecDepth 20000 in
theorem ggX4_pay_X4_keyAt : GoodIn wsX4_pay wsX4_keyAt := goodIn_ca (goodIn_r _ [6, 7, 8, 9, 10, 11, 12, 13, 14, 15, 16, 17, 18, 19, 20, 21, 22, 23, 24, 25, 26, 27, 28, 29, 30, 31, 32, 33, 58, 59, 60, 61, 62, 63, 64, 65, 66] (by decide +kernel) (by decide +kernel)) (goodIn_sub (fun _ h => List.mem_cons_of_mem _ (List.mem_append_left _ (List.mem_append_right _ h))) (by decide +kernel))
set_option maxRecDepth 20000 in
theorem gX4_pay_X4_keyAt : GoodIn wsX4_pay (wsV RX4 82 RX4 yX4_keyAt wsX4_keyAt) := goodIn_app (goodIn_of _ (by decide +kernel)) ggX4_pay_X4_keyAt
set_option maxRecDepth 20000 in
theorem ggX4_pay_X4_refuseOutside : GoodIn wsX4_pay wsX4_refuseOutside := goodIn_ca (goodIn_r _ [36, 37, 38] (by decide +kernel) (by decide +kernel)) (goodIn_sub (fun _ h => List.mem_cons_of_mem _ (List.mem_append_right _ h)) (by decide +kernel))
set_option maxRecDepth 20000 in
theorem gX4_pay_X4_refuseOutside : GoodIn wsX4_pay (va_wsS RX4 39 yX4_refuseOutside wsX4_refuseOutside) := goodIn_app (goodIn_of _ (by decide +kernel)) ggX4_pay_X4_refuseOutside
set_option maxRecDepth 20000 in
theorem ggX4_pay_X1_receive : GoodIn wsX4_pay wsX1_receive := goodIn_r _ [42, 43, 44, 45, 46, 47, 48, 49, 50, 51, 52, 53, 54, 55, 56, 57] (by decide +kernel) (by decide +kernel)
set_option maxRecDepth 20000 in
theorem gX4_pay_X1_receive_n100 : GoodIn wsX4_pay (wsX1_receive) := ggX4_pay_X1_receive
theorem dX4_pay_0 : decode cX4_pay 0 = .ok (.aload_n 0, 1) := by decide +kernel
theorem dX4_pay_1 : decode cX4_pay 1 = .ok (.iload_n 1, 1) := by decide +kernel
theorem dX4_pay_2 : decode cX4_pay 2 = .ok (.invokevirtual 82, 3) := by decide +kernel
theorem dX4_pay_5 : decode cX4_pay 5 = .ok (.astore_n 3, 1) := by decide +kernel
theorem dX4_pay_6 : decode cX4_pay 6 = .ok (.iload_n 2, 1) := by decide +kernel
theorem dX4_pay_7 : decode cX4_pay 7 = .ok (.iconst 1, 1) := by decide +kernel
theorem dX4_pay_8 : decode cX4_pay 8 = .ok (.ldc 96, 2) := by decide +kernel
theorem dX4_pay_10 : decode cX4_pay 10 = .ok (.invokestatic 39, 3) := by decide +kernel
theorem dX4_pay_13 : decode cX4_pay 13 = .ok (.aload_n 3, 1) := by decide +kernel
theorem dX4_pay_14 : decode cX4_pay 14 = .ok (.dup, 1) := by decide +kernel
theorem dX4_pay_15 : decode cX4_pay 15 = .ok (.getfield 97, 3) := by decide +kernel
theorem dX4_pay_18 : decode cX4_pay 18 = .ok (.iload_n 2, 1) := by decide +kernel
theorem dX4_pay_19 : decode cX4_pay 19 = .ok (.iadd, 1) := by decide +kernel
theorem dX4_pay_20 : decode cX4_pay 20 = .ok (.putfield 97, 3) := by decide +kernel
theorem dX4_pay_23 : decode cX4_pay 23 = .ok (.aload_n 3, 1) := by decide +kernel
theorem dX4_pay_24 : decode cX4_pay 24 = .ok (.iload_n 2, 1) := by decide +kernel
theorem dX4_pay_25 : decode cX4_pay 25 = .ok (.invokevirtual 100, 3) := by decide +kernel
theorem dX4_pay_28 : decode cX4_pay 28 = .ok (.aload_n 3, 1) := by decide +kernel
theorem dX4_pay_29 : decode cX4_pay 29 = .ok (.getfield 103, 3) := by decide +kernel
theorem dX4_pay_32 : decode cX4_pay 32 = .ok (.ireturn, 1) := by decide +kernel
set_option maxRecDepth 20000 in
theorem ggX4_call_X4_keyAt : GoodIn wsX4_call wsX4_keyAt := goodIn_ca (goodIn_r _ [12, 13, 14, 15, 16, 17, 18, 19, 20, 21, 22, 23, 24, 25, 26, 27, 28, 29, 30, 31, 32, 33, 34, 35, 36, 37, 38, 39, 127, 128, 129, 130, 131, 132, 151, 152, 153] (by decide +kernel) (by decide +kernel)) (goodIn_sub (fun _ h => List.mem_cons_of_mem _ (List.mem_append_left _ (List.mem_append_right _ h))) (by decide +kernel))
set_option maxRecDepth 20000 in
theorem gX4_call_X4_keyAt : GoodIn wsX4_call (wsV RX4 82 RX4 yX4_keyAt wsX4_keyAt) := goodIn_app (goodIn_of _ (by decide +kernel)) ggX4_call_X4_keyAt
set_option maxRecDepth 20000 in
theorem ggX4_call_X4_routeAt : GoodIn wsX4_call wsX4_routeAt := goodIn_ca (goodIn_r _ [43, 44, 45, 46, 127, 128, 129, 130, 131, 132] (by decide +kernel) (by decide +kernel)) (goodIn_sub (fun _ h => List.mem_cons_of_mem _ (List.mem_append_right _ h)) (by decide +kernel))
set_option maxRecDepth 20000 in
theorem gX4_call_X4_routeAt : GoodIn wsX4_call (wsV RX4 53 RX4 yX4_routeAt wsX4_routeAt) := goodIn_app (goodIn_of _ (by decide +kernel)) ggX4_call_X4_routeAt
set_option maxRecDepth 20000 in
theorem ggX4_call_X4_refuseOutside : GoodIn wsX4_call wsX4_refuseOutside := goodIn_ca (goodIn_r _ [49, 44, 45] (by decide +kernel) (by decide +kernel)) (goodIn_sub (fun _ h => List.mem_cons_of_mem _ (List.mem_append_right _ h)) (by decide +kernel))
set_option maxRecDepth 20000 in
theorem gX4_call_X4_refuseOutside : GoodIn wsX4_call (va_wsS RX4 39 yX4_refuseOutside wsX4_refuseOutside) := goodIn_app (goodIn_of _ (by decide +kernel)) ggX4_call_X4_refuseOutside
set_option maxRecDepth 20000 in
theorem ggX4_call_Jx4a65c_size_8abf5 : GoodIn wsX4_call wsJx4a65c_size_8abf5 := goodIn_r _ [21, 22, 151, 152, 153] (by decide +kernel) (by decide +kernel)
set_option maxRecDepth 20000 in
theorem gX4_call_Jx4a65c_size_8abf5 : GoodIn wsX4_call (wsV RX4 63 RJx4a65c yJx4a65c_size_8abf5 wsJx4a65c_size_8abf5) := goodIn_app (goodIn_of _ (by decide +kernel)) ggX4_call_Jx4a65c_size_8abf5
set_option maxRecDepth 20000 in
theorem ggX4_call_X1_canCover : GoodIn wsX4_call wsX1_canCover := goodIn_r _ [53, 54, 55, 56, 57, 58, 59, 60, 135, 136, 137, 138, 139, 140, 141, 142, 143] (by decide +kernel) (by decide +kernel)
set_option maxRecDepth 20000 in
theorem gX4_call_X1_canCover_n111 : GoodIn wsX4_call (wsX1_canCover) := ggX4_call_X1_canCover
set_option maxRecDepth 20000 in
theorem ggX4_call_X1_openHold : GoodIn wsX4_call wsX1_openHold := goodIn_r _ [63, 60, 64, 65, 58, 66, 55, 67, 68, 135, 136, 137, 138, 139, 140, 141, 142, 143] (by decide +kernel) (by decide +kernel)
set_option maxRecDepth 20000 in
theorem gX4_call_X1_openHold_n115 : GoodIn wsX4_call (wsX1_openHold) := ggX4_call_X1_openHold
set_option maxRecDepth 20000 in
theorem ggX4_call_X0_init : GoodIn wsX4_call wsX0_init := goodIn_r _ [70, 71, 72, 73, 74, 75, 76, 77, 78, 144, 145, 146, 147, 148, 149, 150] (by decide +kernel) (by decide +kernel)
set_option maxRecDepth 20000 in
theorem gX4_call_X0_init_n123 : GoodIn wsX4_call (wsX0_init) := ggX4_call_X0_init
set_option maxRecDepth 20000 in
theorem ggX4_call_Jx4a65c_add_9ea2d : GoodIn wsX4_call wsJx4a65c_add_9ea2d := goodIn_r _ [82, 83, 84, 39, 22, 85, 86, 87, 20, 88, 89, 90, 91, 92, 93, 94, 95, 96, 97, 98, 57, 58, 59, 99, 100, 101, 102, 103, 104, 105, 106, 107, 108, 109, 110, 111, 112, 113, 114, 115, 116, 117, 118, 119, 120, 121, 122, 65, 66, 123, 124, 125, 126, 151, 152, 153] (by decide +kernel) (by decide +kernel)
set_option maxRecDepth 20000 in
theorem gX4_call_Jx4a65c_add_9ea2d : GoodIn wsX4_call (wsV RX4 78 RJx4a65c yJx4a65c_add_9ea2d wsJx4a65c_add_9ea2d) := goodIn_app (goodIn_of _ (by decide +kernel)) ggX4_call_Jx4a65c_add_9ea2d
theorem dX4_call_0 : decode cX4_call 0 = .ok (.aload_n 0, 1) := by decide +kernel
theorem dX4_call_1 : decode cX4_call 1 = .ok (.iload_n 1, 1) := by decide +kernel
theorem dX4_call_2 : decode cX4_call 2 = .ok (.invokevirtual 82, 3) := by decide +kernel
theorem dX4_call_5 : decode cX4_call 5 = .ok (.astore 4, 2) := by decide +kernel
theorem dX4_call_7 : decode cX4_call 7 = .ok (.aload_n 0, 1) := by decide +kernel
theorem dX4_call_8 : decode cX4_call 8 = .ok (.iload_n 2, 1) := by decide +kernel
theorem dX4_call_9 : decode cX4_call 9 = .ok (.invokevirtual 53, 3) := by decide +kernel
theorem dX4_call_12 : decode cX4_call 12 = .ok (.astore 5, 2) := by decide +kernel
theorem dX4_call_14 : decode cX4_call 14 = .ok (.iload_n 3, 1) := by decide +kernel
theorem dX4_call_15 : decode cX4_call 15 = .ok (.iconst 1, 1) := by decide +kernel
theorem dX4_call_16 : decode cX4_call 16 = .ok (.bipush 9, 2) := by decide +kernel
theorem dX4_call_18 : decode cX4_call 18 = .ok (.invokestatic 39, 3) := by decide +kernel
theorem dX4_call_21 : decode cX4_call 21 = .ok (.aload_n 0, 1) := by decide +kernel
theorem dX4_call_22 : decode cX4_call 22 = .ok (.getfield 28, 3) := by decide +kernel
theorem dX4_call_25 : decode cX4_call 25 = .ok (.invokevirtual 63, 3) := by decide +kernel
theorem dX4_call_28 : decode cX4_call 28 = .ok (.bipush 80, 2) := by decide +kernel
theorem dX4_call_30 : decode cX4_call 30 = .ok (.if_icmp .lt 13, 3) := by decide +kernel
theorem dX4_call_33 : decode cX4_call 33 = .ok (.new 66, 3) := by decide +kernel
theorem dX4_call_36 : decode cX4_call 36 = .ok (.dup, 1) := by decide +kernel
theorem dX4_call_37 : decode cX4_call 37 = .ok (.ldc 106, 2) := by decide +kernel
theorem dX4_call_39 : decode cX4_call 39 = .ok (.invokespecial 70, 3) := by decide +kernel
theorem dX4_call_42 : decode cX4_call 42 = .ok (.athrow, 1) := by decide +kernel
theorem dX4_call_43 : decode cX4_call 43 = .ok (.aload 5, 2) := by decide +kernel
theorem dX4_call_45 : decode cX4_call 45 = .ok (.getfield 57, 3) := by decide +kernel
theorem dX4_call_48 : decode cX4_call 48 = .ok (.iload_n 3, 1) := by decide +kernel
theorem dX4_call_49 : decode cX4_call 49 = .ok (.imul, 1) := by decide +kernel
theorem dX4_call_50 : decode cX4_call 50 = .ok (.istore 6, 2) := by decide +kernel
theorem dX4_call_52 : decode cX4_call 52 = .ok (.aload 4, 2) := by decide +kernel
theorem dX4_call_54 : decode cX4_call 54 = .ok (.getfield 108, 3) := by decide +kernel
theorem dX4_call_57 : decode cX4_call 57 = .ok (.aload 5, 2) := by decide +kernel
theorem dX4_call_59 : decode cX4_call 59 = .ok (.getfield 60, 3) := by decide +kernel
theorem dX4_call_62 : decode cX4_call 62 = .ok (.if_icmp .ge 5, 3) := by decide +kernel
theorem dX4_call_65 : decode cX4_call 65 = .ok (.iconst 1, 1) := by decide +kernel
theorem dX4_call_66 : decode cX4_call 66 = .ok (.ireturn, 1) := by decide +kernel
theorem dX4_call_67 : decode cX4_call 67 = .ok (.aload 4, 2) := by decide +kernel
theorem dX4_call_69 : decode cX4_call 69 = .ok (.iload 6, 2) := by decide +kernel
theorem dX4_call_71 : decode cX4_call 71 = .ok (.invokevirtual 111, 3) := by decide +kernel
theorem dX4_call_74 : decode cX4_call 74 = .ok (.ifCond .ne 5, 3) := by decide +kernel
theorem dX4_call_77 : decode cX4_call 77 = .ok (.iconst 2, 1) := by decide +kernel
theorem dX4_call_78 : decode cX4_call 78 = .ok (.ireturn, 1) := by decide +kernel
theorem dX4_call_79 : decode cX4_call 79 = .ok (.aload 4, 2) := by decide +kernel
theorem dX4_call_81 : decode cX4_call 81 = .ok (.dup, 1) := by decide +kernel
theorem dX4_call_82 : decode cX4_call 82 = .ok (.getfield 108, 3) := by decide +kernel
theorem dX4_call_85 : decode cX4_call 85 = .ok (.aload 5, 2) := by decide +kernel
theorem dX4_call_87 : decode cX4_call 87 = .ok (.getfield 60, 3) := by decide +kernel
theorem dX4_call_90 : decode cX4_call 90 = .ok (.isub, 1) := by decide +kernel
theorem dX4_call_91 : decode cX4_call 91 = .ok (.putfield 108, 3) := by decide +kernel
theorem dX4_call_94 : decode cX4_call 94 = .ok (.aload 4, 2) := by decide +kernel
theorem dX4_call_96 : decode cX4_call 96 = .ok (.iload 6, 2) := by decide +kernel
theorem dX4_call_98 : decode cX4_call 98 = .ok (.invokevirtual 115, 3) := by decide +kernel
theorem dX4_call_101 : decode cX4_call 101 = .ok (.aload_n 0, 1) := by decide +kernel
theorem dX4_call_102 : decode cX4_call 102 = .ok (.getfield 28, 3) := by decide +kernel
theorem dX4_call_105 : decode cX4_call 105 = .ok (.new 118, 3) := by decide +kernel
theorem dX4_call_108 : decode cX4_call 108 = .ok (.dup, 1) := by decide +kernel
theorem dX4_call_109 : decode cX4_call 109 = .ok (.aload 4, 2) := by decide +kernel
theorem dX4_call_111 : decode cX4_call 111 = .ok (.iload 6, 2) := by decide +kernel
theorem dX4_call_113 : decode cX4_call 113 = .ok (.aload 5, 2) := by decide +kernel
theorem dX4_call_115 : decode cX4_call 115 = .ok (.getfield 60, 3) := by decide +kernel
theorem dX4_call_118 : decode cX4_call 118 = .ok (.aload_n 0, 1) := by decide +kernel
theorem dX4_call_119 : decode cX4_call 119 = .ok (.getfield 120, 3) := by decide +kernel
theorem dX4_call_122 : decode cX4_call 122 = .ok (.bipush 20, 2) := by decide +kernel
theorem dX4_call_124 : decode cX4_call 124 = .ok (.iadd, 1) := by decide +kernel
theorem dX4_call_125 : decode cX4_call 125 = .ok (.invokespecial 123, 3) := by decide +kernel
theorem dX4_call_128 : decode cX4_call 128 = .ok (.invokevirtual 78, 3) := by decide +kernel
theorem dX4_call_131 : decode cX4_call 131 = .ok (.pop, 1) := by decide +kernel
theorem dX4_call_132 : decode cX4_call 132 = .ok (.iconst 0, 1) := by decide +kernel
theorem dX4_call_133 : decode cX4_call 133 = .ok (.ireturn, 1) := by decide +kernel
set_option maxRecDepth 20000 in
theorem ggX4_end_X4_callAt : GoodIn wsX4_end wsX4_callAt := goodIn_ca (goodIn_r _ [8, 9, 10, 11, 12, 13, 14, 15, 16, 17, 18, 19, 20, 21, 22, 23, 24, 25, 26, 27, 28, 29, 30, 31, 32, 33, 34, 35, 73, 74, 75, 76, 77, 78, 86, 87, 88] (by decide +kernel) (by decide +kernel)) (goodIn_sub (fun _ h => List.mem_cons_of_mem _ (List.mem_append_left _ (List.mem_append_right _ h))) (by decide +kernel))
set_option maxRecDepth 20000 in
theorem gX4_end_X4_callAt : GoodIn wsX4_end (wsV RX4 126 RX4 yX4_callAt wsX4_callAt) := goodIn_app (goodIn_of _ (by decide +kernel)) ggX4_end_X4_callAt
set_option maxRecDepth 20000 in
theorem ggX4_end_X4_refuseOutside : GoodIn wsX4_end wsX4_refuseOutside := goodIn_ca (goodIn_r _ [38, 39, 40] (by decide +kernel) (by decide +kernel)) (goodIn_sub (fun _ h => List.mem_cons_of_mem _ (List.mem_append_right _ h)) (by decide +kernel))
set_option maxRecDepth 20000 in
theorem gX4_end_X4_refuseOutside : GoodIn wsX4_end (va_wsS RX4 39 yX4_refuseOutside wsX4_refuseOutside) := goodIn_app (goodIn_of _ (by decide +kernel)) ggX4_end_X4_refuseOutside
set_option maxRecDepth 20000 in
theorem ggX4_end_X0_hasEnded : GoodIn wsX4_end wsX0_hasEnded := goodIn_r _ [44, 45, 79, 80, 81, 82, 83, 84, 85] (by decide +kernel) (by decide +kernel)
set_option maxRecDepth 20000 in
theorem gX4_end_X0_hasEnded_n130 : GoodIn wsX4_end (wsX0_hasEnded) := ggX4_end_X0_hasEnded
set_option maxRecDepth 20000 in
theorem ggX4_end_X0_settle : GoodIn wsX4_end wsX0_settle := goodIn_r _ [48, 45, 49, 50, 51, 52, 53, 54, 42, 55, 56, 57, 58, 59, 60, 61, 62, 63, 64, 65, 66, 67, 68, 69, 70, 71, 72, 79, 80, 81, 82, 83, 84, 85, 89, 90, 91, 92, 93, 94, 95, 96, 97] (by decide +kernel) (by decide +kernel)
set_option maxRecDepth 20000 in
theorem gX4_end_X0_settle_n136 : GoodIn wsX4_end (wsX0_settle) := ggX4_end_X0_settle
theorem dX4_end_0 : decode cX4_end 0 = .ok (.aload_n 0, 1) := by decide +kernel
theorem dX4_end_1 : decode cX4_end 1 = .ok (.iload_n 1, 1) := by decide +kernel
theorem dX4_end_2 : decode cX4_end 2 = .ok (.invokevirtual 126, 3) := by decide +kernel
theorem dX4_end_5 : decode cX4_end 5 = .ok (.astore_n 3, 1) := by decide +kernel
theorem dX4_end_6 : decode cX4_end 6 = .ok (.iload_n 2, 1) := by decide +kernel
theorem dX4_end_7 : decode cX4_end 7 = .ok (.iconst 0, 1) := by decide +kernel
theorem dX4_end_8 : decode cX4_end 8 = .ok (.iconst 2, 1) := by decide +kernel
theorem dX4_end_9 : decode cX4_end 9 = .ok (.invokestatic 39, 3) := by decide +kernel
theorem dX4_end_12 : decode cX4_end 12 = .ok (.aload_n 3, 1) := by decide +kernel
theorem dX4_end_13 : decode cX4_end 13 = .ok (.invokevirtual 130, 3) := by decide +kernel
theorem dX4_end_16 : decode cX4_end 16 = .ok (.ifCond .eq 13, 3) := by decide +kernel
theorem dX4_end_19 : decode cX4_end 19 = .ok (.new 66, 3) := by decide +kernel
theorem dX4_end_22 : decode cX4_end 22 = .ok (.dup, 1) := by decide +kernel
theorem dX4_end_23 : decode cX4_end 23 = .ok (.ldc 134, 2) := by decide +kernel
theorem dX4_end_25 : decode cX4_end 25 = .ok (.invokespecial 70, 3) := by decide +kernel
theorem dX4_end_28 : decode cX4_end 28 = .ok (.athrow, 1) := by decide +kernel
theorem dX4_end_29 : decode cX4_end 29 = .ok (.aload_n 3, 1) := by decide +kernel
theorem dX4_end_30 : decode cX4_end 30 = .ok (.iload_n 2, 1) := by decide +kernel
theorem dX4_end_31 : decode cX4_end 31 = .ok (.aload_n 0, 1) := by decide +kernel
theorem dX4_end_32 : decode cX4_end 32 = .ok (.getfield 120, 3) := by decide +kernel
theorem dX4_end_35 : decode cX4_end 35 = .ok (.invokevirtual 136, 3) := by decide +kernel
theorem dX4_end_38 : decode cX4_end 38 = .ok (.aload_n 3, 1) := by decide +kernel
theorem dX4_end_39 : decode cX4_end 39 = .ok (.getfield 140, 3) := by decide +kernel
theorem dX4_end_42 : decode cX4_end 42 = .ok (.ireturn, 1) := by decide +kernel
set_option maxRecDepth 20000 in
theorem ggX4_dispute_X4_callAt : GoodIn wsX4_dispute wsX4_callAt := goodIn_ca (goodIn_r _ [8, 9, 10, 11, 12, 13, 14, 15, 16, 17, 18, 19, 20, 21, 22, 23, 24, 25, 26, 27, 28, 29, 30, 31, 32, 33, 34, 35, 64, 65, 66, 67, 68, 69, 70, 71, 72] (by decide +kernel) (by decide +kernel)) (goodIn_sub (fun _ h => List.mem_cons_of_mem _ (List.mem_append_right _ h)) (by decide +kernel))
set_option maxRecDepth 20000 in
theorem gX4_dispute_X4_callAt : GoodIn wsX4_dispute (wsV RX4 126 RX4 yX4_callAt wsX4_callAt) := goodIn_app (goodIn_of _ (by decide +kernel)) ggX4_dispute_X4_callAt
set_option maxRecDepth 20000 in
theorem ggX4_dispute_X0_hasEnded : GoodIn wsX4_dispute wsX0_hasEnded := goodIn_r _ [39, 40, 57, 58, 59, 60, 61, 62, 63] (by decide +kernel) (by decide +kernel)
set_option maxRecDepth 20000 in
theorem gX4_dispute_X0_hasEnded_n130 : GoodIn wsX4_dispute (wsX0_hasEnded) := ggX4_dispute_X0_hasEnded
set_option maxRecDepth 20000 in
theorem ggX4_dispute_X0_giveBack : GoodIn wsX4_dispute wsX0_giveBack := goodIn_r _ [43, 40, 44, 45, 46, 47, 48, 49, 50, 51, 52, 53, 54, 55, 56, 57, 58, 59, 60, 61, 62, 63, 73, 74, 75, 76, 77, 78, 79, 80, 81] (by decide +kernel) (by decide +kernel)
set_option maxRecDepth 20000 in
theorem gX4_dispute_X0_giveBack_n156 : GoodIn wsX4_dispute (wsX0_giveBack) := ggX4_dispute_X0_giveBack
theorem dX4_dispute_0 : decode cX4_dispute 0 = .ok (.aload_n 0, 1) := by decide +kernel
theorem dX4_dispute_1 : decode cX4_dispute 1 = .ok (.iload_n 1, 1) := by decide +kernel
theorem dX4_dispute_2 : decode cX4_dispute 2 = .ok (.invokevirtual 126, 3) := by decide +kernel
theorem dX4_dispute_5 : decode cX4_dispute 5 = .ok (.astore_n 2, 1) := by decide +kernel
theorem dX4_dispute_6 : decode cX4_dispute 6 = .ok (.aload_n 2, 1) := by decide +kernel
theorem dX4_dispute_7 : decode cX4_dispute 7 = .ok (.invokevirtual 130, 3) := by decide +kernel
theorem dX4_dispute_10 : decode cX4_dispute 10 = .ok (.ifCond .ne 13, 3) := by decide +kernel
theorem dX4_dispute_13 : decode cX4_dispute 13 = .ok (.new 66, 3) := by decide +kernel
theorem dX4_dispute_16 : decode cX4_dispute 16 = .ok (.dup, 1) := by decide +kernel
theorem dX4_dispute_17 : decode cX4_dispute 17 = .ok (.ldc 143, 2) := by decide +kernel
theorem dX4_dispute_19 : decode cX4_dispute 19 = .ok (.invokespecial 70, 3) := by decide +kernel
theorem dX4_dispute_22 : decode cX4_dispute 22 = .ok (.athrow, 1) := by decide +kernel
theorem dX4_dispute_23 : decode cX4_dispute 23 = .ok (.aload_n 2, 1) := by decide +kernel
theorem dX4_dispute_24 : decode cX4_dispute 24 = .ok (.getfield 145, 3) := by decide +kernel
theorem dX4_dispute_27 : decode cX4_dispute 27 = .ok (.ifCond .eq 13, 3) := by decide +kernel
theorem dX4_dispute_30 : decode cX4_dispute 30 = .ok (.new 66, 3) := by decide +kernel
theorem dX4_dispute_33 : decode cX4_dispute 33 = .ok (.dup, 1) := by decide +kernel
theorem dX4_dispute_34 : decode cX4_dispute 34 = .ok (.ldc 149, 2) := by decide +kernel
theorem dX4_dispute_36 : decode cX4_dispute 36 = .ok (.invokespecial 70, 3) := by decide +kernel
theorem dX4_dispute_39 : decode cX4_dispute 39 = .ok (.athrow, 1) := by decide +kernel
theorem dX4_dispute_40 : decode cX4_dispute 40 = .ok (.aload_n 0, 1) := by decide +kernel
theorem dX4_dispute_41 : decode cX4_dispute 41 = .ok (.getfield 120, 3) := by decide +kernel
theorem dX4_dispute_44 : decode cX4_dispute 44 = .ok (.aload_n 2, 1) := by decide +kernel
theorem dX4_dispute_45 : decode cX4_dispute 45 = .ok (.getfield 151, 3) := by decide +kernel
theorem dX4_dispute_48 : decode cX4_dispute 48 = .ok (.isub, 1) := by decide +kernel
theorem dX4_dispute_49 : decode cX4_dispute 49 = .ok (.bipush 50, 2) := by decide +kernel
theorem dX4_dispute_51 : decode cX4_dispute 51 = .ok (.if_icmp .le 13, 3) := by decide +kernel
theorem dX4_dispute_54 : decode cX4_dispute 54 = .ok (.new 66, 3) := by decide +kernel
theorem dX4_dispute_57 : decode cX4_dispute 57 = .ok (.dup, 1) := by decide +kernel
theorem dX4_dispute_58 : decode cX4_dispute 58 = .ok (.ldc 154, 2) := by decide +kernel
theorem dX4_dispute_60 : decode cX4_dispute 60 = .ok (.invokespecial 70, 3) := by decide +kernel
theorem dX4_dispute_63 : decode cX4_dispute 63 = .ok (.athrow, 1) := by decide +kernel
theorem dX4_dispute_64 : decode cX4_dispute 64 = .ok (.aload_n 2, 1) := by decide +kernel
theorem dX4_dispute_65 : decode cX4_dispute 65 = .ok (.invokevirtual 156, 3) := by decide +kernel
theorem dX4_dispute_68 : decode cX4_dispute 68 = .ok (.ireturn, 1) := by decide +kernel
set_option maxRecDepth 20000 in
theorem ggX4_pass_X4_refuseOutside : GoodIn wsX4_pass wsX4_refuseOutside := goodIn_ca (goodIn_r _ [5, 6, 7] (by decide +kernel) (by decide +kernel)) (goodIn_sub (fun _ h => List.mem_cons_of_mem _ (List.mem_append_right _ h)) (by decide +kernel))
set_option maxRecDepth 20000 in
theorem gX4_pass_X4_refuseOutside : GoodIn wsX4_pass (va_wsS RX4 39 yX4_refuseOutside wsX4_refuseOutside) := goodIn_app (goodIn_of _ (by decide +kernel)) ggX4_pass_X4_refuseOutside
set_option maxRecDepth 20000 in
theorem ggX4_pass_X4_runOutHolds : GoodIn wsX4_pass wsX4_runOutHolds := goodIn_r _ [11, 12, 13, 14, 1, 15, 16, 17, 18, 19, 20, 21, 22, 23, 24, 25, 26, 27, 28, 29, 30, 31, 32, 33, 34, 35, 36, 37, 38, 39, 40, 41, 42, 43, 44, 45, 46, 47, 48, 49, 50, 51, 52, 53, 54, 55, 56, 57, 58, 59, 60, 61, 62, 63, 64, 65, 66, 67, 68, 69, 85, 86, 87, 88, 89, 90, 91, 92, 93, 94, 95, 96, 97, 98, 99, 100, 101, 102, 103, 104, 105, 106, 107, 108, 109] (by decide +kernel) (by decide +kernel)
set_option maxRecDepth 20000 in
theorem gX4_pass_X4_runOutHolds : GoodIn wsX4_pass (wsV RX4 159 RX4 yX4_runOutHolds wsX4_runOutHolds) := goodIn_app (goodIn_of _ (by decide +kernel)) ggX4_pass_X4_runOutHolds
set_option maxRecDepth 20000 in
theorem ggX4_pass_X4_refillBuckets : GoodIn wsX4_pass wsX4_refillBuckets := goodIn_r _ [73, 74, 75, 15, 16, 17, 18, 19, 20, 21, 22, 23, 24, 25, 26, 27, 28, 29, 30, 31, 32, 33, 34, 35, 36, 37, 76, 54, 77, 78, 79, 80, 65, 66, 67, 68, 81, 82, 83, 84, 69, 58, 85, 86, 87, 88, 89, 90, 98, 99, 100, 101, 102, 103, 104, 105, 106, 107, 108, 109, 110, 111, 112, 113] (by decide +kernel) (by decide +kernel)
set_option maxRecDepth 20000 in
theorem gX4_pass_X4_refillBuckets : GoodIn wsX4_pass (wsV RX4 162 RX4 yX4_refillBuckets wsX4_refillBuckets) := goodIn_app (goodIn_of _ (by decide +kernel)) ggX4_pass_X4_refillBuckets
theorem dX4_pass_0 : decode cX4_pass 0 = .ok (.iload_n 1, 1) := by decide +kernel
theorem dX4_pass_1 : decode cX4_pass 1 = .ok (.iconst 1, 1) := by decide +kernel
theorem dX4_pass_2 : decode cX4_pass 2 = .ok (.bipush 100, 2) := by decide +kernel
theorem dX4_pass_4 : decode cX4_pass 4 = .ok (.invokestatic 39, 3) := by decide +kernel
theorem dX4_pass_7 : decode cX4_pass 7 = .ok (.iconst 0, 1) := by decide +kernel
theorem dX4_pass_8 : decode cX4_pass 8 = .ok (.istore_n 2, 1) := by decide +kernel
theorem dX4_pass_9 : decode cX4_pass 9 = .ok (.iconst 0, 1) := by decide +kernel
theorem dX4_pass_10 : decode cX4_pass 10 = .ok (.istore_n 3, 1) := by decide +kernel
theorem dX4_pass_11 : decode cX4_pass 11 = .ok (.iload_n 3, 1) := by decide +kernel
theorem dX4_pass_12 : decode cX4_pass 12 = .ok (.iload_n 1, 1) := by decide +kernel
theorem dX4_pass_13 : decode cX4_pass 13 = .ok (.if_icmp .ge 30, 3) := by decide +kernel
theorem dX4_pass_16 : decode cX4_pass 16 = .ok (.aload_n 0, 1) := by decide +kernel
theorem dX4_pass_17 : decode cX4_pass 17 = .ok (.dup, 1) := by decide +kernel
theorem dX4_pass_18 : decode cX4_pass 18 = .ok (.getfield 120, 3) := by decide +kernel
theorem dX4_pass_21 : decode cX4_pass 21 = .ok (.iconst 1, 1) := by decide +kernel
theorem dX4_pass_22 : decode cX4_pass 22 = .ok (.iadd, 1) := by decide +kernel
theorem dX4_pass_23 : decode cX4_pass 23 = .ok (.putfield 120, 3) := by decide +kernel
theorem dX4_pass_26 : decode cX4_pass 26 = .ok (.iload_n 2, 1) := by decide +kernel
theorem dX4_pass_27 : decode cX4_pass 27 = .ok (.aload_n 0, 1) := by decide +kernel
theorem dX4_pass_28 : decode cX4_pass 28 = .ok (.invokevirtual 159, 3) := by decide +kernel
theorem dX4_pass_31 : decode cX4_pass 31 = .ok (.iadd, 1) := by decide +kernel
theorem dX4_pass_32 : decode cX4_pass 32 = .ok (.istore_n 2, 1) := by decide +kernel
theorem dX4_pass_33 : decode cX4_pass 33 = .ok (.aload_n 0, 1) := by decide +kernel
theorem dX4_pass_34 : decode cX4_pass 34 = .ok (.invokevirtual 162, 3) := by decide +kernel
theorem dX4_pass_37 : decode cX4_pass 37 = .ok (.iinc 3 1, 3) := by decide +kernel
theorem dX4_pass_40 : decode cX4_pass 40 = .ok (.goto (-29), 3) := by decide +kernel
theorem dX4_pass_43 : decode cX4_pass 43 = .ok (.iload_n 2, 1) := by decide +kernel
theorem dX4_pass_44 : decode cX4_pass 44 = .ok (.ireturn, 1) := by decide +kernel
theorem dX4_now_0 : decode cX4_now 0 = .ok (.aload_n 0, 1) := by decide +kernel
theorem dX4_now_1 : decode cX4_now 1 = .ok (.getfield 120, 3) := by decide +kernel
theorem dX4_now_4 : decode cX4_now 4 = .ok (.ireturn, 1) := by decide +kernel
set_option maxRecDepth 20000 in
theorem ggX4_calls_Jx4a65c_size_8abf5 : GoodIn wsX4_calls wsJx4a65c_size_8abf5 := goodIn_r _ [6, 7, 14, 15, 16] (by decide +kernel) (by decide +kernel)
set_option maxRecDepth 20000 in
theorem gX4_calls_Jx4a65c_size_8abf5 : GoodIn wsX4_calls (wsV RX4 63 RJx4a65c yJx4a65c_size_8abf5 wsJx4a65c_size_8abf5) := goodIn_app (goodIn_of _ (by decide +kernel)) ggX4_calls_Jx4a65c_size_8abf5
theorem dX4_calls_0 : decode cX4_calls 0 = .ok (.aload_n 0, 1) := by decide +kernel
theorem dX4_calls_1 : decode cX4_calls 1 = .ok (.getfield 28, 3) := by decide +kernel
theorem dX4_calls_4 : decode cX4_calls 4 = .ok (.invokevirtual 63, 3) := by decide +kernel
theorem dX4_calls_7 : decode cX4_calls 7 = .ok (.ireturn, 1) := by decide +kernel
set_option maxRecDepth 20000 in
theorem ggX4_credit_X4_keyAt : GoodIn wsX4_credit wsX4_keyAt := goodIn_ca (goodIn_r _ [5, 6, 7, 8, 9, 10, 11, 12, 13, 14, 15, 16, 17, 18, 19, 20, 21, 22, 23, 24, 25, 26, 27, 28, 29, 30, 31, 32, 42, 43, 44, 45, 46, 47, 48, 49, 50] (by decide +kernel) (by decide +kernel)) (goodIn_sub (fun _ h => List.mem_cons_of_mem _ (List.mem_append_right _ h)) (by decide +kernel))
set_option maxRecDepth 20000 in
theorem gX4_credit_X4_keyAt : GoodIn wsX4_credit (wsV RX4 82 RX4 yX4_keyAt wsX4_keyAt) := goodIn_app (goodIn_of _ (by decide +kernel)) ggX4_credit_X4_keyAt
theorem dX4_credit_0 : decode cX4_credit 0 = .ok (.aload_n 0, 1) := by decide +kernel
theorem dX4_credit_1 : decode cX4_credit 1 = .ok (.iload_n 1, 1) := by decide +kernel
theorem dX4_credit_2 : decode cX4_credit 2 = .ok (.invokevirtual 82, 3) := by decide +kernel
theorem dX4_credit_5 : decode cX4_credit 5 = .ok (.getfield 103, 3) := by decide +kernel
theorem dX4_credit_8 : decode cX4_credit 8 = .ok (.ireturn, 1) := by decide +kernel
set_option maxRecDepth 20000 in
theorem ggX4_debt_X4_keyAt : GoodIn wsX4_debt wsX4_keyAt := goodIn_ca (goodIn_r _ [5, 6, 7, 8, 9, 10, 11, 12, 13, 14, 15, 16, 17, 18, 19, 20, 21, 22, 23, 24, 25, 26, 27, 28, 29, 30, 31, 32, 42, 43, 44, 45, 46, 47, 48, 49, 50] (by decide +kernel) (by decide +kernel)) (goodIn_sub (fun _ h => List.mem_cons_of_mem _ (List.mem_append_right _ h)) (by decide +kernel))
set_option maxRecDepth 20000 in
theorem gX4_debt_X4_keyAt : GoodIn wsX4_debt (wsV RX4 82 RX4 yX4_keyAt wsX4_keyAt) := goodIn_app (goodIn_of _ (by decide +kernel)) ggX4_debt_X4_keyAt
theorem dX4_debt_0 : decode cX4_debt 0 = .ok (.aload_n 0, 1) := by decide +kernel
theorem dX4_debt_1 : decode cX4_debt 1 = .ok (.iload_n 1, 1) := by decide +kernel
theorem dX4_debt_2 : decode cX4_debt 2 = .ok (.invokevirtual 82, 3) := by decide +kernel
theorem dX4_debt_5 : decode cX4_debt 5 = .ok (.getfield 165, 3) := by decide +kernel
theorem dX4_debt_8 : decode cX4_debt 8 = .ok (.ireturn, 1) := by decide +kernel
set_option maxRecDepth 20000 in
theorem ggX4_held_X4_keyAt : GoodIn wsX4_held wsX4_keyAt := goodIn_ca (goodIn_r _ [5, 6, 7, 8, 9, 10, 11, 12, 13, 14, 15, 16, 17, 18, 19, 20, 21, 22, 23, 24, 25, 26, 27, 28, 29, 30, 31, 32, 42, 43, 44, 45, 46, 47, 48, 49, 50] (by decide +kernel) (by decide +kernel)) (goodIn_sub (fun _ h => List.mem_cons_of_mem _ (List.mem_append_right _ h)) (by decide +kernel))
set_option maxRecDepth 20000 in
theorem gX4_held_X4_keyAt : GoodIn wsX4_held (wsV RX4 82 RX4 yX4_keyAt wsX4_keyAt) := goodIn_app (goodIn_of _ (by decide +kernel)) ggX4_held_X4_keyAt
theorem dX4_held_0 : decode cX4_held 0 = .ok (.aload_n 0, 1) := by decide +kernel
theorem dX4_held_1 : decode cX4_held 1 = .ok (.iload_n 1, 1) := by decide +kernel
theorem dX4_held_2 : decode cX4_held 2 = .ok (.invokevirtual 82, 3) := by decide +kernel
theorem dX4_held_5 : decode cX4_held 5 = .ok (.getfield 168, 3) := by decide +kernel
theorem dX4_held_8 : decode cX4_held 8 = .ok (.ireturn, 1) := by decide +kernel
set_option maxRecDepth 20000 in
theorem ggX4_tokens_X4_keyAt : GoodIn wsX4_tokens wsX4_keyAt := goodIn_ca (goodIn_r _ [5, 6, 7, 8, 9, 10, 11, 12, 13, 14, 15, 16, 17, 18, 19, 20, 21, 22, 23, 24, 25, 26, 27, 28, 29, 30, 31, 32, 42, 43, 44, 45, 46, 47, 48, 49, 50] (by decide +kernel) (by decide +kernel)) (goodIn_sub (fun _ h => List.mem_cons_of_mem _ (List.mem_append_right _ h)) (by decide +kernel))
set_option maxRecDepth 20000 in
theorem gX4_tokens_X4_keyAt : GoodIn wsX4_tokens (wsV RX4 82 RX4 yX4_keyAt wsX4_keyAt) := goodIn_app (goodIn_of _ (by decide +kernel)) ggX4_tokens_X4_keyAt
theorem dX4_tokens_0 : decode cX4_tokens 0 = .ok (.aload_n 0, 1) := by decide +kernel
theorem dX4_tokens_1 : decode cX4_tokens 1 = .ok (.iload_n 1, 1) := by decide +kernel
theorem dX4_tokens_2 : decode cX4_tokens 2 = .ok (.invokevirtual 82, 3) := by decide +kernel
theorem dX4_tokens_5 : decode cX4_tokens 5 = .ok (.getfield 108, 3) := by decide +kernel
theorem dX4_tokens_8 : decode cX4_tokens 8 = .ok (.ireturn, 1) := by decide +kernel
set_option maxRecDepth 20000 in
theorem ggX4_isSlowed_X4_keyAt : GoodIn wsX4_isSlowed wsX4_keyAt := goodIn_ca (goodIn_r _ [5, 6, 7, 8, 9, 10, 11, 12, 13, 14, 15, 16, 17, 18, 19, 20, 21, 22, 23, 24, 25, 26, 27, 28, 29, 30, 31, 32, 39, 40, 41, 42, 43, 44, 45, 46, 47] (by decide +kernel) (by decide +kernel)) (goodIn_sub (fun _ h => List.mem_cons_of_mem _ (List.mem_append_right _ h)) (by decide +kernel))
set_option maxRecDepth 20000 in
theorem gX4_isSlowed_X4_keyAt : GoodIn wsX4_isSlowed (wsV RX4 82 RX4 yX4_keyAt wsX4_keyAt) := goodIn_app (goodIn_of _ (by decide +kernel)) ggX4_isSlowed_X4_keyAt
set_option maxRecDepth 20000 in
theorem ggX4_isSlowed_X1_refillsSlowly : GoodIn wsX4_isSlowed wsX1_refillsSlowly := goodIn_r _ [36, 37, 38, 48, 49, 50, 51, 52, 53, 54, 55, 56] (by decide +kernel) (by decide +kernel)
set_option maxRecDepth 20000 in
theorem gX4_isSlowed_X1_refillsSlowly_n171 : GoodIn wsX4_isSlowed (wsX1_refillsSlowly) := ggX4_isSlowed_X1_refillsSlowly
theorem dX4_isSlowed_0 : decode cX4_isSlowed 0 = .ok (.aload_n 0, 1) := by decide +kernel
theorem dX4_isSlowed_1 : decode cX4_isSlowed 1 = .ok (.iload_n 1, 1) := by decide +kernel
theorem dX4_isSlowed_2 : decode cX4_isSlowed 2 = .ok (.invokevirtual 82, 3) := by decide +kernel
theorem dX4_isSlowed_5 : decode cX4_isSlowed 5 = .ok (.invokevirtual 171, 3) := by decide +kernel
theorem dX4_isSlowed_8 : decode cX4_isSlowed 8 = .ok (.ireturn, 1) := by decide +kernel
set_option maxRecDepth 20000 in
theorem ggX4_cost_X4_callAt : GoodIn wsX4_cost wsX4_callAt := goodIn_ca (goodIn_r _ [5, 6, 7, 8, 9, 10, 11, 12, 13, 14, 15, 16, 17, 18, 19, 20, 21, 22, 23, 24, 25, 26, 27, 28, 29, 30, 31, 32, 40, 41, 42, 43, 44, 45, 46, 47, 48] (by decide +kernel) (by decide +kernel)) (goodIn_sub (fun _ h => List.mem_cons_of_mem _ (List.mem_append_right _ h)) (by decide +kernel))
set_option maxRecDepth 20000 in
theorem gX4_cost_X4_callAt : GoodIn wsX4_cost (wsV RX4 126 RX4 yX4_callAt wsX4_callAt) := goodIn_app (goodIn_of _ (by decide +kernel)) ggX4_cost_X4_callAt
theorem dX4_cost_0 : decode cX4_cost 0 = .ok (.aload_n 0, 1) := by decide +kernel
theorem dX4_cost_1 : decode cX4_cost 1 = .ok (.iload_n 1, 1) := by decide +kernel
theorem dX4_cost_2 : decode cX4_cost 2 = .ok (.invokevirtual 126, 3) := by decide +kernel
theorem dX4_cost_5 : decode cX4_cost 5 = .ok (.getfield 140, 3) := by decide +kernel
theorem dX4_cost_8 : decode cX4_cost 8 = .ok (.ireturn, 1) := by decide +kernel
set_option maxRecDepth 20000 in
theorem ggX4_spent_X4_keyAt : GoodIn wsX4_spent wsX4_keyAt := goodIn_ca (goodIn_r _ [5, 6, 7, 8, 9, 10, 11, 12, 13, 14, 15, 16, 17, 18, 19, 20, 21, 22, 23, 24, 25, 26, 27, 28, 29, 30, 31, 32, 42, 43, 44, 45, 46, 47, 48, 49, 50] (by decide +kernel) (by decide +kernel)) (goodIn_sub (fun _ h => List.mem_cons_of_mem _ (List.mem_append_right _ h)) (by decide +kernel))
set_option maxRecDepth 20000 in
theorem gX4_spent_X4_keyAt : GoodIn wsX4_spent (wsV RX4 82 RX4 yX4_keyAt wsX4_keyAt) := goodIn_app (goodIn_of _ (by decide +kernel)) ggX4_spent_X4_keyAt
theorem dX4_spent_0 : decode cX4_spent 0 = .ok (.aload_n 0, 1) := by decide +kernel
theorem dX4_spent_1 : decode cX4_spent 1 = .ok (.iload_n 1, 1) := by decide +kernel
theorem dX4_spent_2 : decode cX4_spent 2 = .ok (.invokevirtual 82, 3) := by decide +kernel
theorem dX4_spent_5 : decode cX4_spent 5 = .ok (.getfield 174, 3) := by decide +kernel
theorem dX4_spent_8 : decode cX4_spent 8 = .ok (.ireturn, 1) := by decide +kernel
set_option maxRecDepth 20000 in
theorem ggX4_paid_X4_keyAt : GoodIn wsX4_paid wsX4_keyAt := goodIn_ca (goodIn_r _ [5, 6, 7, 8, 9, 10, 11, 12, 13, 14, 15, 16, 17, 18, 19, 20, 21, 22, 23, 24, 25, 26, 27, 28, 29, 30, 31, 32, 42, 43, 44, 45, 46, 47, 48, 49, 50] (by decide +kernel) (by decide +kernel)) (goodIn_sub (fun _ h => List.mem_cons_of_mem _ (List.mem_append_right _ h)) (by decide +kernel))
set_option maxRecDepth 20000 in
theorem gX4_paid_X4_keyAt : GoodIn wsX4_paid (wsV RX4 82 RX4 yX4_keyAt wsX4_keyAt) := goodIn_app (goodIn_of _ (by decide +kernel)) ggX4_paid_X4_keyAt
theorem dX4_paid_0 : decode cX4_paid 0 = .ok (.aload_n 0, 1) := by decide +kernel
theorem dX4_paid_1 : decode cX4_paid 1 = .ok (.iload_n 1, 1) := by decide +kernel
theorem dX4_paid_2 : decode cX4_paid 2 = .ok (.invokevirtual 82, 3) := by decide +kernel
theorem dX4_paid_5 : decode cX4_paid 5 = .ok (.getfield 97, 3) := by decide +kernel
theorem dX4_paid_8 : decode cX4_paid 8 = .ok (.ireturn, 1) := by decide +kernel
theorem dX4_planAt_0 : decode cX4_planAt 0 = .ok (.iload_n 1, 1) := by decide +kernel
theorem dX4_planAt_1 : decode cX4_planAt 1 = .ok (.ifCond .lt 12, 3) := by decide +kernel
theorem dX4_planAt_4 : decode cX4_planAt 4 = .ok (.iload_n 1, 1) := by decide +kernel
theorem dX4_planAt_5 : decode cX4_planAt 5 = .ok (.aload_n 0, 1) := by decide +kernel
theorem dX4_planAt_6 : decode cX4_planAt 6 = .ok (.getfield 11, 3) := by decide +kernel
theorem dX4_planAt_9 : decode cX4_planAt 9 = .ok (.arraylength, 1) := by decide +kernel
theorem dX4_planAt_10 : decode cX4_planAt 10 = .ok (.if_icmp .lt 13, 3) := by decide +kernel
theorem dX4_planAt_13 : decode cX4_planAt 13 = .ok (.new 177, 3) := by decide +kernel
theorem dX4_planAt_16 : decode cX4_planAt 16 = .ok (.dup, 1) := by decide +kernel
theorem dX4_planAt_17 : decode cX4_planAt 17 = .ok (.ldc 179, 2) := by decide +kernel
theorem dX4_planAt_19 : decode cX4_planAt 19 = .ok (.invokespecial 181, 3) := by decide +kernel
theorem dX4_planAt_22 : decode cX4_planAt 22 = .ok (.athrow, 1) := by decide +kernel
theorem dX4_planAt_23 : decode cX4_planAt 23 = .ok (.aload_n 0, 1) := by decide +kernel
theorem dX4_planAt_24 : decode cX4_planAt 24 = .ok (.getfield 11, 3) := by decide +kernel
theorem dX4_planAt_27 : decode cX4_planAt 27 = .ok (.iload_n 1, 1) := by decide +kernel
theorem dX4_planAt_28 : decode cX4_planAt 28 = .ok (.aaload, 1) := by decide +kernel
theorem dX4_planAt_29 : decode cX4_planAt 29 = .ok (.areturn, 1) := by decide +kernel
theorem dX4_routeAt_0 : decode cX4_routeAt 0 = .ok (.iload_n 1, 1) := by decide +kernel
theorem dX4_routeAt_1 : decode cX4_routeAt 1 = .ok (.ifCond .lt 12, 3) := by decide +kernel
theorem dX4_routeAt_4 : decode cX4_routeAt 4 = .ok (.iload_n 1, 1) := by decide +kernel
theorem dX4_routeAt_5 : decode cX4_routeAt 5 = .ok (.aload_n 0, 1) := by decide +kernel
theorem dX4_routeAt_6 : decode cX4_routeAt 6 = .ok (.getfield 17, 3) := by decide +kernel
theorem dX4_routeAt_9 : decode cX4_routeAt 9 = .ok (.arraylength, 1) := by decide +kernel
theorem dX4_routeAt_10 : decode cX4_routeAt 10 = .ok (.if_icmp .lt 13, 3) := by decide +kernel
theorem dX4_routeAt_13 : decode cX4_routeAt 13 = .ok (.new 177, 3) := by decide +kernel
theorem dX4_routeAt_16 : decode cX4_routeAt 16 = .ok (.dup, 1) := by decide +kernel
theorem dX4_routeAt_17 : decode cX4_routeAt 17 = .ok (.ldc 182, 2) := by decide +kernel
theorem dX4_routeAt_19 : decode cX4_routeAt 19 = .ok (.invokespecial 181, 3) := by decide +kernel
theorem dX4_routeAt_22 : decode cX4_routeAt 22 = .ok (.athrow, 1) := by decide +kernel
theorem dX4_routeAt_23 : decode cX4_routeAt 23 = .ok (.aload_n 0, 1) := by decide +kernel
theorem dX4_routeAt_24 : decode cX4_routeAt 24 = .ok (.getfield 17, 3) := by decide +kernel
theorem dX4_routeAt_27 : decode cX4_routeAt 27 = .ok (.iload_n 1, 1) := by decide +kernel
theorem dX4_routeAt_28 : decode cX4_routeAt 28 = .ok (.aaload, 1) := by decide +kernel
theorem dX4_routeAt_29 : decode cX4_routeAt 29 = .ok (.areturn, 1) := by decide +kernel
set_option maxRecDepth 20000 in
theorem ggX4_keyAt_Jx4a65c_size_8abf5 : GoodIn wsX4_keyAt wsJx4a65c_size_8abf5 := goodIn_r _ [9, 10, 34, 35, 36] (by decide +kernel) (by decide +kernel)
set_option maxRecDepth 20000 in
theorem gX4_keyAt_Jx4a65c_size_8abf5 : GoodIn wsX4_keyAt (wsV RX4 63 RJx4a65c yJx4a65c_size_8abf5 wsJx4a65c_size_8abf5) := goodIn_app (goodIn_of _ (by decide +kernel)) ggX4_keyAt_Jx4a65c_size_8abf5
set_option maxRecDepth 20000 in
theorem ggX4_keyAt_Jx4a65c_get_915e3 : GoodIn wsX4_keyAt wsJx4a65c_get_915e3 := goodIn_r _ [14, 10, 15, 16, 17, 18, 19, 20, 21, 22, 23, 24, 25, 8, 26, 27, 34, 35, 36] (by decide +kernel) (by decide +kernel)
set_option maxRecDepth 20000 in
theorem gX4_keyAt_Jx4a65c_get_915e3 : GoodIn wsX4_keyAt (wsV RX4 189 RJx4a65c yJx4a65c_get_915e3 wsJx4a65c_get_915e3) := goodIn_app (goodIn_of _ (by decide +kernel)) ggX4_keyAt_Jx4a65c_get_915e3
theorem dX4_keyAt_0 : decode cX4_keyAt 0 = .ok (.iload_n 1, 1) := by decide +kernel
theorem dX4_keyAt_1 : decode cX4_keyAt 1 = .ok (.ifCond .lt 14, 3) := by decide +kernel
theorem dX4_keyAt_4 : decode cX4_keyAt 4 = .ok (.iload_n 1, 1) := by decide +kernel
theorem dX4_keyAt_5 : decode cX4_keyAt 5 = .ok (.aload_n 0, 1) := by decide +kernel
theorem dX4_keyAt_6 : decode cX4_keyAt 6 = .ok (.getfield 24, 3) := by decide +kernel
theorem dX4_keyAt_9 : decode cX4_keyAt 9 = .ok (.invokevirtual 63, 3) := by decide +kernel
theorem dX4_keyAt_12 : decode cX4_keyAt 12 = .ok (.if_icmp .lt 13, 3) := by decide +kernel
theorem dX4_keyAt_15 : decode cX4_keyAt 15 = .ok (.new 184, 3) := by decide +kernel
theorem dX4_keyAt_18 : decode cX4_keyAt 18 = .ok (.dup, 1) := by decide +kernel
theorem dX4_keyAt_19 : decode cX4_keyAt 19 = .ok (.ldc 186, 2) := by decide +kernel
theorem dX4_keyAt_21 : decode cX4_keyAt 21 = .ok (.invokespecial 188, 3) := by decide +kernel
theorem dX4_keyAt_24 : decode cX4_keyAt 24 = .ok (.athrow, 1) := by decide +kernel
theorem dX4_keyAt_25 : decode cX4_keyAt 25 = .ok (.aload_n 0, 1) := by decide +kernel
theorem dX4_keyAt_26 : decode cX4_keyAt 26 = .ok (.getfield 24, 3) := by decide +kernel
theorem dX4_keyAt_29 : decode cX4_keyAt 29 = .ok (.iload_n 1, 1) := by decide +kernel
theorem dX4_keyAt_30 : decode cX4_keyAt 30 = .ok (.invokevirtual 189, 3) := by decide +kernel
theorem dX4_keyAt_33 : decode cX4_keyAt 33 = .ok (.checkcast 73, 3) := by decide +kernel
theorem dX4_keyAt_36 : decode cX4_keyAt 36 = .ok (.areturn, 1) := by decide +kernel
set_option maxRecDepth 20000 in
theorem ggX4_callAt_Jx4a65c_size_8abf5 : GoodIn wsX4_callAt wsJx4a65c_size_8abf5 := goodIn_r _ [9, 10, 34, 35, 36] (by decide +kernel) (by decide +kernel)
set_option maxRecDepth 20000 in
theorem gX4_callAt_Jx4a65c_size_8abf5 : GoodIn wsX4_callAt (wsV RX4 63 RJx4a65c yJx4a65c_size_8abf5 wsJx4a65c_size_8abf5) := goodIn_app (goodIn_of _ (by decide +kernel)) ggX4_callAt_Jx4a65c_size_8abf5
set_option maxRecDepth 20000 in
theorem ggX4_callAt_Jx4a65c_get_915e3 : GoodIn wsX4_callAt wsJx4a65c_get_915e3 := goodIn_r _ [14, 10, 15, 16, 17, 18, 19, 20, 21, 22, 23, 24, 25, 8, 26, 27, 34, 35, 36] (by decide +kernel) (by decide +kernel)
set_option maxRecDepth 20000 in
theorem gX4_callAt_Jx4a65c_get_915e3 : GoodIn wsX4_callAt (wsV RX4 189 RJx4a65c yJx4a65c_get_915e3 wsJx4a65c_get_915e3) := goodIn_app (goodIn_of _ (by decide +kernel)) ggX4_callAt_Jx4a65c_get_915e3
theorem dX4_callAt_0 : decode cX4_callAt 0 = .ok (.iload_n 1, 1) := by decide +kernel
theorem dX4_callAt_1 : decode cX4_callAt 1 = .ok (.ifCond .lt 14, 3) := by decide +kernel
theorem dX4_callAt_4 : decode cX4_callAt 4 = .ok (.iload_n 1, 1) := by decide +kernel
theorem dX4_callAt_5 : decode cX4_callAt 5 = .ok (.aload_n 0, 1) := by decide +kernel
theorem dX4_callAt_6 : decode cX4_callAt 6 = .ok (.getfield 28, 3) := by decide +kernel
theorem dX4_callAt_9 : decode cX4_callAt 9 = .ok (.invokevirtual 63, 3) := by decide +kernel
theorem dX4_callAt_12 : decode cX4_callAt 12 = .ok (.if_icmp .lt 13, 3) := by decide +kernel
theorem dX4_callAt_15 : decode cX4_callAt 15 = .ok (.new 184, 3) := by decide +kernel
theorem dX4_callAt_18 : decode cX4_callAt 18 = .ok (.dup, 1) := by decide +kernel
theorem dX4_callAt_19 : decode cX4_callAt 19 = .ok (.ldc 193, 2) := by decide +kernel
theorem dX4_callAt_21 : decode cX4_callAt 21 = .ok (.invokespecial 188, 3) := by decide +kernel
theorem dX4_callAt_24 : decode cX4_callAt 24 = .ok (.athrow, 1) := by decide +kernel
theorem dX4_callAt_25 : decode cX4_callAt 25 = .ok (.aload_n 0, 1) := by decide +kernel
theorem dX4_callAt_26 : decode cX4_callAt 26 = .ok (.getfield 28, 3) := by decide +kernel
theorem dX4_callAt_29 : decode cX4_callAt 29 = .ok (.iload_n 1, 1) := by decide +kernel
theorem dX4_callAt_30 : decode cX4_callAt 30 = .ok (.invokevirtual 189, 3) := by decide +kernel
theorem dX4_callAt_33 : decode cX4_callAt 33 = .ok (.checkcast 118, 3) := by decide +kernel
theorem dX4_callAt_36 : decode cX4_callAt 36 = .ok (.areturn, 1) := by decide +kernel
theorem dX4_refuseOutside_0 : decode cX4_refuseOutside 0 = .ok (.iload_n 0, 1) := by decide +kernel
theorem dX4_refuseOutside_1 : decode cX4_refuseOutside 1 = .ok (.iload_n 1, 1) := by decide +kernel
theorem dX4_refuseOutside_2 : decode cX4_refuseOutside 2 = .ok (.if_icmp .lt 8, 3) := by decide +kernel
theorem dX4_refuseOutside_5 : decode cX4_refuseOutside 5 = .ok (.iload_n 0, 1) := by decide +kernel
theorem dX4_refuseOutside_6 : decode cX4_refuseOutside 6 = .ok (.iload_n 2, 1) := by decide +kernel
theorem dX4_refuseOutside_7 : decode cX4_refuseOutside 7 = .ok (.if_icmp .le 13, 3) := by decide +kernel
theorem dX4_refuseOutside_10 : decode cX4_refuseOutside 10 = .ok (.new 177, 3) := by decide +kernel
theorem dX4_refuseOutside_13 : decode cX4_refuseOutside 13 = .ok (.dup, 1) := by decide +kernel
theorem dX4_refuseOutside_14 : decode cX4_refuseOutside 14 = .ok (.ldc 195, 2) := by decide +kernel
theorem dX4_refuseOutside_16 : decode cX4_refuseOutside 16 = .ok (.invokespecial 181, 3) := by decide +kernel
theorem dX4_refuseOutside_19 : decode cX4_refuseOutside 19 = .ok (.athrow, 1) := by decide +kernel
theorem dX4_refuseOutside_20 : decode cX4_refuseOutside 20 = .ok (.return_, 1) := by decide +kernel
set_option maxRecDepth 20000 in
theorem ggX4_runOutHolds_Jx4a65c_size_8abf5 : GoodIn wsX4_runOutHolds wsJx4a65c_size_8abf5 := goodIn_r _ [9, 10, 73, 74, 75] (by decide +kernel) (by decide +kernel)
set_option maxRecDepth 20000 in
theorem gX4_runOutHolds_Jx4a65c_size_8abf5 : GoodIn wsX4_runOutHolds (wsV RX4 63 RJx4a65c yJx4a65c_size_8abf5 wsJx4a65c_size_8abf5) := goodIn_app (goodIn_of _ (by decide +kernel)) ggX4_runOutHolds_Jx4a65c_size_8abf5
set_option maxRecDepth 20000 in
theorem ggX4_runOutHolds_Jx4a65c_get_915e3 : GoodIn wsX4_runOutHolds wsJx4a65c_get_915e3 := goodIn_r _ [14, 10, 15, 16, 17, 18, 19, 20, 21, 22, 23, 24, 25, 8, 26, 27, 73, 74, 75] (by decide +kernel) (by decide +kernel)
set_option maxRecDepth 20000 in
theorem gX4_runOutHolds_Jx4a65c_get_915e3 : GoodIn wsX4_runOutHolds (wsV RX4 189 RJx4a65c yJx4a65c_get_915e3 wsJx4a65c_get_915e3) := goodIn_app (goodIn_of _ (by decide +kernel)) ggX4_runOutHolds_Jx4a65c_get_915e3
set_option maxRecDepth 20000 in
theorem ggX4_runOutHolds_X0_hasEnded : GoodIn wsX4_runOutHolds wsX0_hasEnded := goodIn_r _ [31, 32, 66, 67, 68, 69, 70, 71, 72] (by decide +kernel) (by decide +kernel)
set_option maxRecDepth 20000 in
theorem gX4_runOutHolds_X0_hasEnded_n130 : GoodIn wsX4_runOutHolds (wsX0_hasEnded) := ggX4_runOutHolds_X0_hasEnded
set_option maxRecDepth 20000 in
theorem ggX4_runOutHolds_X0_settle : GoodIn wsX4_runOutHolds wsX0_settle := goodIn_r _ [35, 32, 36, 37, 38, 39, 40, 41, 29, 42, 43, 44, 45, 46, 47, 48, 49, 50, 51, 52, 53, 54, 55, 56, 57, 58, 59, 66, 67, 68, 69, 70, 71, 72, 76, 77, 78, 79, 80, 81, 82, 83, 84] (by decide +kernel) (by decide +kernel)
set_option maxRecDepth 20000 in
theorem gX4_runOutHolds_X0_settle_n136 : GoodIn wsX4_runOutHolds (wsX0_settle) := ggX4_runOutHolds_X0_settle
theorem dX4_runOutHolds_0 : decode cX4_runOutHolds 0 = .ok (.iconst 0, 1) := by decide +kernel
theorem dX4_runOutHolds_1 : decode cX4_runOutHolds 1 = .ok (.istore_n 1, 1) := by decide +kernel
theorem dX4_runOutHolds_2 : decode cX4_runOutHolds 2 = .ok (.aload_n 0, 1) := by decide +kernel
theorem dX4_runOutHolds_3 : decode cX4_runOutHolds 3 = .ok (.getfield 197, 3) := by decide +kernel
theorem dX4_runOutHolds_6 : decode cX4_runOutHolds 6 = .ok (.aload_n 0, 1) := by decide +kernel
theorem dX4_runOutHolds_7 : decode cX4_runOutHolds 7 = .ok (.getfield 28, 3) := by decide +kernel
theorem dX4_runOutHolds_10 : decode cX4_runOutHolds 10 = .ok (.invokevirtual 63, 3) := by decide +kernel
theorem dX4_runOutHolds_13 : decode cX4_runOutHolds 13 = .ok (.if_icmp .ge 74, 3) := by decide +kernel
theorem dX4_runOutHolds_16 : decode cX4_runOutHolds 16 = .ok (.aload_n 0, 1) := by decide +kernel
theorem dX4_runOutHolds_17 : decode cX4_runOutHolds 17 = .ok (.getfield 28, 3) := by decide +kernel
theorem dX4_runOutHolds_20 : decode cX4_runOutHolds 20 = .ok (.aload_n 0, 1) := by decide +kernel
theorem dX4_runOutHolds_21 : decode cX4_runOutHolds 21 = .ok (.getfield 197, 3) := by decide +kernel
theorem dX4_runOutHolds_24 : decode cX4_runOutHolds 24 = .ok (.invokevirtual 189, 3) := by decide +kernel
theorem dX4_runOutHolds_27 : decode cX4_runOutHolds 27 = .ok (.checkcast 118, 3) := by decide +kernel
theorem dX4_runOutHolds_30 : decode cX4_runOutHolds 30 = .ok (.getfield 200, 3) := by decide +kernel
theorem dX4_runOutHolds_33 : decode cX4_runOutHolds 33 = .ok (.aload_n 0, 1) := by decide +kernel
theorem dX4_runOutHolds_34 : decode cX4_runOutHolds 34 = .ok (.getfield 120, 3) := by decide +kernel
theorem dX4_runOutHolds_37 : decode cX4_runOutHolds 37 = .ok (.if_icmp .gt 50, 3) := by decide +kernel
theorem dX4_runOutHolds_40 : decode cX4_runOutHolds 40 = .ok (.aload_n 0, 1) := by decide +kernel
theorem dX4_runOutHolds_41 : decode cX4_runOutHolds 41 = .ok (.getfield 28, 3) := by decide +kernel
theorem dX4_runOutHolds_44 : decode cX4_runOutHolds 44 = .ok (.aload_n 0, 1) := by decide +kernel
theorem dX4_runOutHolds_45 : decode cX4_runOutHolds 45 = .ok (.getfield 197, 3) := by decide +kernel
theorem dX4_runOutHolds_48 : decode cX4_runOutHolds 48 = .ok (.invokevirtual 189, 3) := by decide +kernel
theorem dX4_runOutHolds_51 : decode cX4_runOutHolds 51 = .ok (.checkcast 118, 3) := by decide +kernel
theorem dX4_runOutHolds_54 : decode cX4_runOutHolds 54 = .ok (.astore_n 2, 1) := by decide +kernel
theorem dX4_runOutHolds_55 : decode cX4_runOutHolds 55 = .ok (.aload_n 2, 1) := by decide +kernel
theorem dX4_runOutHolds_56 : decode cX4_runOutHolds 56 = .ok (.invokevirtual 130, 3) := by decide +kernel
theorem dX4_runOutHolds_59 : decode cX4_runOutHolds 59 = .ok (.ifCond .ne 15, 3) := by decide +kernel
theorem dX4_runOutHolds_62 : decode cX4_runOutHolds 62 = .ok (.aload_n 2, 1) := by decide +kernel
theorem dX4_runOutHolds_63 : decode cX4_runOutHolds 63 = .ok (.iconst 0, 1) := by decide +kernel
theorem dX4_runOutHolds_64 : decode cX4_runOutHolds 64 = .ok (.aload_n 0, 1) := by decide +kernel
theorem dX4_runOutHolds_65 : decode cX4_runOutHolds 65 = .ok (.getfield 120, 3) := by decide +kernel
theorem dX4_runOutHolds_68 : decode cX4_runOutHolds 68 = .ok (.invokevirtual 136, 3) := by decide +kernel
theorem dX4_runOutHolds_71 : decode cX4_runOutHolds 71 = .ok (.iinc 1 1, 3) := by decide +kernel
theorem dX4_runOutHolds_74 : decode cX4_runOutHolds 74 = .ok (.aload_n 0, 1) := by decide +kernel
theorem dX4_runOutHolds_75 : decode cX4_runOutHolds 75 = .ok (.dup, 1) := by decide +kernel
theorem dX4_runOutHolds_76 : decode cX4_runOutHolds 76 = .ok (.getfield 197, 3) := by decide +kernel
theorem dX4_runOutHolds_79 : decode cX4_runOutHolds 79 = .ok (.iconst 1, 1) := by decide +kernel
theorem dX4_runOutHolds_80 : decode cX4_runOutHolds 80 = .ok (.iadd, 1) := by decide +kernel
theorem dX4_runOutHolds_81 : decode cX4_runOutHolds 81 = .ok (.putfield 197, 3) := by decide +kernel
theorem dX4_runOutHolds_84 : decode cX4_runOutHolds 84 = .ok (.goto (-82), 3) := by decide +kernel
theorem dX4_runOutHolds_87 : decode cX4_runOutHolds 87 = .ok (.iload_n 1, 1) := by decide +kernel
theorem dX4_runOutHolds_88 : decode cX4_runOutHolds 88 = .ok (.ireturn, 1) := by decide +kernel
set_option maxRecDepth 20000 in
theorem ggX4_refillBuckets_Jx4a65c_size_8abf5 : GoodIn wsX4_refillBuckets wsJx4a65c_size_8abf5 := goodIn_r _ [7, 8, 48, 49, 50] (by decide +kernel) (by decide +kernel)
set_option maxRecDepth 20000 in
theorem gX4_refillBuckets_Jx4a65c_size_8abf5 : GoodIn wsX4_refillBuckets (wsV RX4 63 RJx4a65c yJx4a65c_size_8abf5 wsJx4a65c_size_8abf5) := goodIn_app (goodIn_of _ (by decide +kernel)) ggX4_refillBuckets_Jx4a65c_size_8abf5
set_option maxRecDepth 20000 in
theorem ggX4_refillBuckets_Jx4a65c_get_915e3 : GoodIn wsX4_refillBuckets wsJx4a65c_get_915e3 := goodIn_r _ [12, 8, 13, 14, 15, 16, 17, 18, 19, 20, 21, 22, 23, 6, 24, 25, 48, 49, 50] (by decide +kernel) (by decide +kernel)
set_option maxRecDepth 20000 in
theorem gX4_refillBuckets_Jx4a65c_get_915e3 : GoodIn wsX4_refillBuckets (wsV RX4 189 RJx4a65c yJx4a65c_get_915e3 wsJx4a65c_get_915e3) := goodIn_app (goodIn_of _ (by decide +kernel)) ggX4_refillBuckets_Jx4a65c_get_915e3
set_option maxRecDepth 20000 in
theorem ggX4_refillBuckets_X1_refillBucket : GoodIn wsX4_refillBuckets wsX1_refillBucket := goodIn_r _ [29, 30, 31, 32, 33, 34, 35, 36, 37, 38, 27, 39, 40, 41, 51, 52, 53, 54, 55, 56, 57, 58, 59, 60, 61, 62, 63] (by decide +kernel) (by decide +kernel)
set_option maxRecDepth 20000 in
theorem gX4_refillBuckets_X1_refillBucket_n203 : GoodIn wsX4_refillBuckets (wsX1_refillBucket) := ggX4_refillBuckets_X1_refillBucket
