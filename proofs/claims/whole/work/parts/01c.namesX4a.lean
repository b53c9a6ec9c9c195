theorem dX3_init_0 : decode cX3_init 0 = .ok (.aload_n 0, 1) := by decide +kernel
theorem dX3_init_1 : decode cX3_init 1 = .ok (.invokespecial 1, 3) := by decide +kernel
theorem dX3_init_4 : decode cX3_init 4 = .ok (.aload_n 0, 1) := by decide +kernel
theorem dX3_init_5 : decode cX3_init 5 = .ok (.sipush 800, 3) := by decide +kernel
theorem dX3_init_8 : decode cX3_init 8 = .ok (.newarray .int, 2) := by decide +kernel
theorem dX3_init_10 : decode cX3_init 10 = .ok (.putfield 7, 3) := by decide +kernel
theorem dX3_init_13 : decode cX3_init 13 = .ok (.aload_n 0, 1) := by decide +kernel
theorem dX3_init_14 : decode cX3_init 14 = .ok (.iconst 1, 1) := by decide +kernel
theorem dX3_init_15 : decode cX3_init 15 = .ok (.putfield 13, 3) := by decide +kernel
theorem dX3_init_18 : decode cX3_init 18 = .ok (.return_, 1) := by decide +kernel
theorem dX3_isZero_0 : decode cX3_isZero 0 = .ok (.aload_n 0, 1) := by decide +kernel
theorem dX3_isZero_1 : decode cX3_isZero 1 = .ok (.getfield 13, 3) := by decide +kernel
theorem dX3_isZero_4 : decode cX3_isZero 4 = .ok (.iconst 1, 1) := by decide +kernel
theorem dX3_isZero_5 : decode cX3_isZero 5 = .ok (.if_icmp .ne 16, 3) := by decide +kernel
theorem dX3_isZero_8 : decode cX3_isZero 8 = .ok (.aload_n 0, 1) := by decide +kernel
theorem dX3_isZero_9 : decode cX3_isZero 9 = .ok (.getfield 7, 3) := by decide +kernel
theorem dX3_isZero_12 : decode cX3_isZero 12 = .ok (.iconst 0, 1) := by decide +kernel
theorem dX3_isZero_13 : decode cX3_isZero 13 = .ok (.iaload, 1) := by decide +kernel
theorem dX3_isZero_14 : decode cX3_isZero 14 = .ok (.ifCond .ne 7, 3) := by decide +kernel
theorem dX3_isZero_17 : decode cX3_isZero 17 = .ok (.iconst 1, 1) := by decide +kernel
theorem dX3_isZero_18 : decode cX3_isZero 18 = .ok (.goto 4, 3) := by decide +kernel
theorem dX3_isZero_21 : decode cX3_isZero 21 = .ok (.iconst 0, 1) := by decide +kernel
theorem dX3_isZero_22 : decode cX3_isZero 22 = .ok (.ireturn, 1) := by decide +kernel
theorem dX3_zero_0 : decode cX3_zero 0 = .ok (.aload_n 0, 1) := by decide +kernel
theorem dX3_zero_1 : decode cX3_zero 1 = .ok (.iconst 1, 1) := by decide +kernel
theorem dX3_zero_2 : decode cX3_zero 2 = .ok (.putfield 13, 3) := by decide +kernel
theorem dX3_zero_5 : decode cX3_zero 5 = .ok (.aload_n 0, 1) := by decide +kernel
theorem dX3_zero_6 : decode cX3_zero 6 = .ok (.getfield 7, 3) := by decide +kernel
theorem dX3_zero_9 : decode cX3_zero 9 = .ok (.iconst 0, 1) := by decide +kernel
theorem dX3_zero_10 : decode cX3_zero 10 = .ok (.iconst 0, 1) := by decide +kernel
theorem dX3_zero_11 : decode cX3_zero 11 = .ok (.iastore, 1) := by decide +kernel
theorem dX3_zero_12 : decode cX3_zero 12 = .ok (.aload_n 0, 1) := by decide +kernel
theorem dX3_zero_13 : decode cX3_zero 13 = .ok (.iconst 0, 1) := by decide +kernel
theorem dX3_zero_14 : decode cX3_zero 14 = .ok (.putfield 17, 3) := by decide +kernel
theorem dX3_zero_17 : decode cX3_zero 17 = .ok (.return_, 1) := by decide +kernel
set_option maxRecDepth 20000 in
theorem ggX3_trim_X3_isZero : GoodIn wsX3_trim wsX3_isZero := goodIn_r _ [8, 1, 2, 9, 10, 11, 12] (by decide +kernel) (by decide +kernel)
set_option maxRecDepth 20000 in
theorem gX3_trim_X3_isZero : GoodIn wsX3_trim (wsV RX3 21 RX3 yX3_isZero wsX3_isZero) := goodIn_app (goodIn_of _ (by decide +kernel)) ggX3_trim_X3_isZero
theorem dX3_trim_0 : decode cX3_trim 0 = .ok (.aload_n 0, 1) := by decide +kernel
theorem dX3_trim_1 : decode cX3_trim 1 = .ok (.getfield 13, 3) := by decide +kernel
theorem dX3_trim_4 : decode cX3_trim 4 = .ok (.iconst 1, 1) := by decide +kernel
theorem dX3_trim_5 : decode cX3_trim 5 = .ok (.if_icmp .le 30, 3) := by decide +kernel
theorem dX3_trim_8 : decode cX3_trim 8 = .ok (.aload_n 0, 1) := by decide +kernel
theorem dX3_trim_9 : decode cX3_trim 9 = .ok (.getfield 7, 3) := by decide +kernel
theorem dX3_trim_12 : decode cX3_trim 12 = .ok (.aload_n 0, 1) := by decide +kernel
theorem dX3_trim_13 : decode cX3_trim 13 = .ok (.getfield 13, 3) := by decide +kernel
theorem dX3_trim_16 : decode cX3_trim 16 = .ok (.iconst 1, 1) := by decide +kernel
theorem dX3_trim_17 : decode cX3_trim 17 = .ok (.isub, 1) := by decide +kernel
theorem dX3_trim_18 : decode cX3_trim 18 = .ok (.iaload, 1) := by decide +kernel
theorem dX3_trim_19 : decode cX3_trim 19 = .ok (.ifCond .ne 16, 3) := by decide +kernel
theorem dX3_trim_22 : decode cX3_trim 22 = .ok (.aload_n 0, 1) := by decide +kernel
theorem dX3_trim_23 : decode cX3_trim 23 = .ok (.dup, 1) := by decide +kernel
theorem dX3_trim_24 : decode cX3_trim 24 = .ok (.getfield 13, 3) := by decide +kernel
theorem dX3_trim_27 : decode cX3_trim 27 = .ok (.iconst 1, 1) := by decide +kernel
theorem dX3_trim_28 : decode cX3_trim 28 = .ok (.isub, 1) := by decide +kernel
theorem dX3_trim_29 : decode cX3_trim 29 = .ok (.putfield 13, 3) := by decide +kernel
theorem dX3_trim_32 : decode cX3_trim 32 = .ok (.goto (-32), 3) := by decide +kernel
theorem dX3_trim_35 : decode cX3_trim 35 = .ok (.aload_n 0, 1) := by decide +kernel
theorem dX3_trim_36 : decode cX3_trim 36 = .ok (.invokevirtual 21, 3) := by decide +kernel
theorem dX3_trim_39 : decode cX3_trim 39 = .ok (.ifCond .eq 8, 3) := by decide +kernel
theorem dX3_trim_42 : decode cX3_trim 42 = .ok (.aload_n 0, 1) := by decide +kernel
theorem dX3_trim_43 : decode cX3_trim 43 = .ok (.iconst 0, 1) := by decide +kernel
theorem dX3_trim_44 : decode cX3_trim 44 = .ok (.putfield 17, 3) := by decide +kernel
theorem dX3_trim_47 : decode cX3_trim 47 = .ok (.return_, 1) := by decide +kernel
theorem dX3_take_0 : decode cX3_take 0 = .ok (.aload_n 0, 1) := by decide +kernel
theorem dX3_take_1 : decode cX3_take 1 = .ok (.aload_n 1, 1) := by decide +kernel
theorem dX3_take_2 : decode cX3_take 2 = .ok (.getfield 13, 3) := by decide +kernel
theorem dX3_take_5 : decode cX3_take 5 = .ok (.putfield 13, 3) := by decide +kernel
theorem dX3_take_8 : decode cX3_take 8 = .ok (.aload_n 0, 1) := by decide +kernel
theorem dX3_take_9 : decode cX3_take 9 = .ok (.aload_n 1, 1) := by decide +kernel
theorem dX3_take_10 : decode cX3_take 10 = .ok (.getfield 17, 3) := by decide +kernel
theorem dX3_take_13 : decode cX3_take 13 = .ok (.putfield 17, 3) := by decide +kernel
theorem dX3_take_16 : decode cX3_take 16 = .ok (.aload_n 0, 1) := by decide +kernel
theorem dX3_take_17 : decode cX3_take 17 = .ok (.aload_n 1, 1) := by decide +kernel
theorem dX3_take_18 : decode cX3_take 18 = .ok (.getfield 25, 3) := by decide +kernel
theorem dX3_take_21 : decode cX3_take 21 = .ok (.putfield 25, 3) := by decide +kernel
theorem dX3_take_24 : decode cX3_take 24 = .ok (.iconst 0, 1) := by decide +kernel
theorem dX3_take_25 : decode cX3_take 25 = .ok (.istore_n 2, 1) := by decide +kernel
theorem dX3_take_26 : decode cX3_take 26 = .ok (.iload_n 2, 1) := by decide +kernel
theorem dX3_take_27 : decode cX3_take 27 = .ok (.aload_n 0, 1) := by decide +kernel
theorem dX3_take_28 : decode cX3_take 28 = .ok (.getfield 13, 3) := by decide +kernel
theorem dX3_take_31 : decode cX3_take 31 = .ok (.if_icmp .ge 21, 3) := by decide +kernel
theorem dX3_take_34 : decode cX3_take 34 = .ok (.aload_n 0, 1) := by decide +kernel
theorem dX3_take_35 : decode cX3_take 35 = .ok (.getfield 7, 3) := by decide +kernel
theorem dX3_take_38 : decode cX3_take 38 = .ok (.iload_n 2, 1) := by decide +kernel
theorem dX3_take_39 : decode cX3_take 39 = .ok (.aload_n 1, 1) := by decide +kernel
theorem dX3_take_40 : decode cX3_take 40 = .ok (.getfield 7, 3) := by decide +kernel
theorem dX3_take_43 : decode cX3_take 43 = .ok (.iload_n 2, 1) := by decide +kernel
theorem dX3_take_44 : decode cX3_take 44 = .ok (.iaload, 1) := by decide +kernel
theorem dX3_take_45 : decode cX3_take 45 = .ok (.iastore, 1) := by decide +kernel
theorem dX3_take_46 : decode cX3_take 46 = .ok (.iinc 2 1, 3) := by decide +kernel
theorem dX3_take_49 : decode cX3_take 49 = .ok (.goto (-23), 3) := by decide +kernel
theorem dX3_take_52 : decode cX3_take 52 = .ok (.return_, 1) := by decide +kernel
set_option maxRecDepth 20000 in
theorem ggX3_up_X3_isZero : GoodIn wsX3_up wsX3_isZero := goodIn_r _ [7, 1, 2, 8, 9, 10, 11] (by decide +kernel) (by decide +kernel)
set_option maxRecDepth 20000 in
theorem gX3_up_X3_isZero : GoodIn wsX3_up (wsV RX3 21 RX3 yX3_isZero wsX3_isZero) := goodIn_app (goodIn_of _ (by decide +kernel)) ggX3_up_X3_isZero
theorem dX3_up_0 : decode cX3_up 0 = .ok (.aload_n 0, 1) := by decide +kernel
theorem dX3_up_1 : decode cX3_up 1 = .ok (.invokevirtual 21, 3) := by decide +kernel
theorem dX3_up_4 : decode cX3_up 4 = .ok (.ifCond .ne 7, 3) := by decide +kernel
theorem dX3_up_7 : decode cX3_up 7 = .ok (.iload_n 1, 1) := by decide +kernel
theorem dX3_up_8 : decode cX3_up 8 = .ok (.ifCond .ne 4, 3) := by decide +kernel
theorem dX3_up_11 : decode cX3_up 11 = .ok (.return_, 1) := by decide +kernel
theorem dX3_up_12 : decode cX3_up 12 = .ok (.aload_n 0, 1) := by decide +kernel
theorem dX3_up_13 : decode cX3_up 13 = .ok (.getfield 13, 3) := by decide +kernel
theorem dX3_up_16 : decode cX3_up 16 = .ok (.iconst 1, 1) := by decide +kernel
theorem dX3_up_17 : decode cX3_up 17 = .ok (.isub, 1) := by decide +kernel
theorem dX3_up_18 : decode cX3_up 18 = .ok (.istore_n 2, 1) := by decide +kernel
theorem dX3_up_19 : decode cX3_up 19 = .ok (.iload_n 2, 1) := by decide +kernel
theorem dX3_up_20 : decode cX3_up 20 = .ok (.ifCond .lt 23, 3) := by decide +kernel
theorem dX3_up_23 : decode cX3_up 23 = .ok (.aload_n 0, 1) := by decide +kernel
theorem dX3_up_24 : decode cX3_up 24 = .ok (.getfield 7, 3) := by decide +kernel
theorem dX3_up_27 : decode cX3_up 27 = .ok (.iload_n 2, 1) := by decide +kernel
theorem dX3_up_28 : decode cX3_up 28 = .ok (.iload_n 1, 1) := by decide +kernel
theorem dX3_up_29 : decode cX3_up 29 = .ok (.iadd, 1) := by decide +kernel
theorem dX3_up_30 : decode cX3_up 30 = .ok (.aload_n 0, 1) := by decide +kernel
theorem dX3_up_31 : decode cX3_up 31 = .ok (.getfield 7, 3) := by decide +kernel
theorem dX3_up_34 : decode cX3_up 34 = .ok (.iload_n 2, 1) := by decide +kernel
theorem dX3_up_35 : decode cX3_up 35 = .ok (.iaload, 1) := by decide +kernel
theorem dX3_up_36 : decode cX3_up 36 = .ok (.iastore, 1) := by decide +kernel
theorem dX3_up_37 : decode cX3_up 37 = .ok (.iinc 2 (-1), 3) := by decide +kernel
theorem dX3_up_40 : decode cX3_up 40 = .ok (.goto (-21), 3) := by decide +kernel
theorem dX3_up_43 : decode cX3_up 43 = .ok (.iconst 0, 1) := by decide +kernel
theorem dX3_up_44 : decode cX3_up 44 = .ok (.istore_n 2, 1) := by decide +kernel
theorem dX3_up_45 : decode cX3_up 45 = .ok (.iload_n 2, 1) := by decide +kernel
theorem dX3_up_46 : decode cX3_up 46 = .ok (.iload_n 1, 1) := by decide +kernel
theorem dX3_up_47 : decode cX3_up 47 = .ok (.if_icmp .ge 16, 3) := by decide +kernel
theorem dX3_up_50 : decode cX3_up 50 = .ok (.aload_n 0, 1) := by decide +kernel
theorem dX3_up_51 : decode cX3_up 51 = .ok (.getfield 7, 3) := by decide +kernel
theorem dX3_up_54 : decode cX3_up 54 = .ok (.iload_n 2, 1) := by decide +kernel
theorem dX3_up_55 : decode cX3_up 55 = .ok (.iconst 0, 1) := by decide +kernel
theorem dX3_up_56 : decode cX3_up 56 = .ok (.iastore, 1) := by decide +kernel
theorem dX3_up_57 : decode cX3_up 57 = .ok (.iinc 2 1, 3) := by decide +kernel
theorem dX3_up_60 : decode cX3_up 60 = .ok (.goto (-15), 3) := by decide +kernel
theorem dX3_up_63 : decode cX3_up 63 = .ok (.aload_n 0, 1) := by decide +kernel
theorem dX3_up_64 : decode cX3_up 64 = .ok (.dup, 1) := by decide +kernel
theorem dX3_up_65 : decode cX3_up 65 = .ok (.getfield 13, 3) := by decide +kernel
theorem dX3_up_68 : decode cX3_up 68 = .ok (.iload_n 1, 1) := by decide +kernel
theorem dX3_up_69 : decode cX3_up 69 = .ok (.iadd, 1) := by decide +kernel
theorem dX3_up_70 : decode cX3_up 70 = .ok (.putfield 13, 3) := by decide +kernel
theorem dX3_up_73 : decode cX3_up 73 = .ok (.return_, 1) := by decide +kernel
theorem dX3_ends_0 : decode cX3_ends 0 = .ok (.iconst 0, 1) := by decide +kernel
theorem dX3_ends_1 : decode cX3_ends 1 = .ok (.istore_n 2, 1) := by decide +kernel
theorem dX3_ends_2 : decode cX3_ends 2 = .ok (.iload_n 2, 1) := by decide +kernel
theorem dX3_ends_3 : decode cX3_ends 3 = .ok (.iload_n 1, 1) := by decide +kernel
theorem dX3_ends_4 : decode cX3_ends 4 = .ok (.if_icmp .ge 28, 3) := by decide +kernel
theorem dX3_ends_7 : decode cX3_ends 7 = .ok (.iload_n 2, 1) := by decide +kernel
theorem dX3_ends_8 : decode cX3_ends 8 = .ok (.aload_n 0, 1) := by decide +kernel
theorem dX3_ends_9 : decode cX3_ends 9 = .ok (.getfield 13, 3) := by decide +kernel
theorem dX3_ends_12 : decode cX3_ends 12 = .ok (.if_icmp .ge 20, 3) := by decide +kernel
theorem dX3_ends_15 : decode cX3_ends 15 = .ok (.aload_n 0, 1) := by decide +kernel
theorem dX3_ends_16 : decode cX3_ends 16 = .ok (.getfield 7, 3) := by decide +kernel
theorem dX3_ends_19 : decode cX3_ends 19 = .ok (.iload_n 2, 1) := by decide +kernel
theorem dX3_ends_20 : decode cX3_ends 20 = .ok (.iaload, 1) := by decide +kernel
theorem dX3_ends_21 : decode cX3_ends 21 = .ok (.ifCond .eq 5, 3) := by decide +kernel
theorem dX3_ends_24 : decode cX3_ends 24 = .ok (.iconst 0, 1) := by decide +kernel
theorem dX3_ends_25 : decode cX3_ends 25 = .ok (.ireturn, 1) := by decide +kernel
theorem dX3_ends_26 : decode cX3_ends 26 = .ok (.iinc 2 1, 3) := by decide +kernel
theorem dX3_ends_29 : decode cX3_ends 29 = .ok (.goto (-27), 3) := by decide +kernel
theorem dX3_ends_32 : decode cX3_ends 32 = .ok (.iconst 1, 1) := by decide +kernel
theorem dX3_ends_33 : decode cX3_ends 33 = .ok (.ireturn, 1) := by decide +kernel
theorem dX3_more_0 : decode cX3_more 0 = .ok (.iconst 0, 1) := by decide +kernel
theorem dX3_more_1 : decode cX3_more 1 = .ok (.istore_n 1, 1) := by decide +kernel
theorem dX3_more_2 : decode cX3_more 2 = .ok (.iload_n 1, 1) := by decide +kernel
theorem dX3_more_3 : decode cX3_more 3 = .ok (.aload_n 0, 1) := by decide +kernel
theorem dX3_more_4 : decode cX3_more 4 = .ok (.getfield 13, 3) := by decide +kernel
theorem dX3_more_7 : decode cX3_more 7 = .ok (.if_icmp .ge 27, 3) := by decide +kernel
theorem dX3_more_10 : decode cX3_more 10 = .ok (.aload_n 0, 1) := by decide +kernel
theorem dX3_more_11 : decode cX3_more 11 = .ok (.getfield 7, 3) := by decide +kernel
theorem dX3_more_14 : decode cX3_more 14 = .ok (.iload_n 1, 1) := by decide +kernel
theorem dX3_more_15 : decode cX3_more 15 = .ok (.iaload, 1) := by decide +kernel
theorem dX3_more_16 : decode cX3_more 16 = .ok (.bipush 9, 2) := by decide +kernel
theorem dX3_more_18 : decode cX3_more 18 = .ok (.if_icmp .ne 16, 3) := by decide +kernel
theorem dX3_more_21 : decode cX3_more 21 = .ok (.aload_n 0, 1) := by decide +kernel
theorem dX3_more_22 : decode cX3_more 22 = .ok (.getfield 7, 3) := by decide +kernel
theorem dX3_more_25 : decode cX3_more 25 = .ok (.iload_n 1, 1) := by decide +kernel
theorem dX3_more_26 : decode cX3_more 26 = .ok (.iconst 0, 1) := by decide +kernel
theorem dX3_more_27 : decode cX3_more 27 = .ok (.iastore, 1) := by decide +kernel
theorem dX3_more_28 : decode cX3_more 28 = .ok (.iinc 1 1, 3) := by decide +kernel
theorem dX3_more_31 : decode cX3_more 31 = .ok (.goto (-29), 3) := by decide +kernel
theorem dX3_more_34 : decode cX3_more 34 = .ok (.iload_n 1, 1) := by decide +kernel
theorem dX3_more_35 : decode cX3_more 35 = .ok (.aload_n 0, 1) := by decide +kernel
theorem dX3_more_36 : decode cX3_more 36 = .ok (.getfield 13, 3) := by decide +kernel
theorem dX3_more_39 : decode cX3_more 39 = .ok (.if_icmp .ne 23, 3) := by decide +kernel
theorem dX3_more_42 : decode cX3_more 42 = .ok (.aload_n 0, 1) := by decide +kernel
theorem dX3_more_43 : decode cX3_more 43 = .ok (.getfield 7, 3) := by decide +kernel
theorem dX3_more_46 : decode cX3_more 46 = .ok (.aload_n 0, 1) := by decide +kernel
theorem dX3_more_47 : decode cX3_more 47 = .ok (.getfield 13, 3) := by decide +kernel
theorem dX3_more_50 : decode cX3_more 50 = .ok (.iconst 0, 1) := by decide +kernel
theorem dX3_more_51 : decode cX3_more 51 = .ok (.iastore, 1) := by decide +kernel
theorem dX3_more_52 : decode cX3_more 52 = .ok (.aload_n 0, 1) := by decide +kernel
theorem dX3_more_53 : decode cX3_more 53 = .ok (.dup, 1) := by decide +kernel
theorem dX3_more_54 : decode cX3_more 54 = .ok (.getfield 13, 3) := by decide +kernel
theorem dX3_more_57 : decode cX3_more 57 = .ok (.iconst 1, 1) := by decide +kernel
theorem dX3_more_58 : decode cX3_more 58 = .ok (.iadd, 1) := by decide +kernel
theorem dX3_more_59 : decode cX3_more 59 = .ok (.putfield 13, 3) := by decide +kernel
theorem dX3_more_62 : decode cX3_more 62 = .ok (.aload_n 0, 1) := by decide +kernel
theorem dX3_more_63 : decode cX3_more 63 = .ok (.getfield 7, 3) := by decide +kernel
theorem dX3_more_66 : decode cX3_more 66 = .ok (.iload_n 1, 1) := by decide +kernel
theorem dX3_more_67 : decode cX3_more 67 = .ok (.dup2, 1) := by decide +kernel
theorem dX3_more_68 : decode cX3_more 68 = .ok (.iaload, 1) := by decide +kernel
theorem dX3_more_69 : decode cX3_more 69 = .ok (.iconst 1, 1) := by decide +kernel
theorem dX3_more_70 : decode cX3_more 70 = .ok (.iadd, 1) := by decide +kernel
theorem dX3_more_71 : decode cX3_more 71 = .ok (.iastore, 1) := by decide +kernel
theorem dX3_more_72 : decode cX3_more 72 = .ok (.return_, 1) := by decide +kernel
set_option maxRecDepth 20000 in
theorem ggX4_init_X3_init : GoodIn wsX4_init wsX3_init := goodIn_r _ [15, 16, 2, 3, 12, 17, 18, 26, 27, 28, 29] (by decide +kernel) (by decide +kernel)
set_option maxRecDepth 20000 in
theorem gX4_init_X3_init_n15 : GoodIn wsX4_init (wsX3_init) := ggX4_init_X3_init
theorem dX4_init_0 : decode cX4_init 0 = .ok (.aload_n 0, 1) := by decide +kernel
theorem dX4_init_1 : decode cX4_init 1 = .ok (.invokespecial 1, 3) := by decide +kernel
theorem dX4_init_4 : decode cX4_init 4 = .ok (.aload_n 0, 1) := by decide +kernel
theorem dX4_init_5 : decode cX4_init 5 = .ok (.bipush 6, 2) := by decide +kernel
theorem dX4_init_7 : decode cX4_init 7 = .ok (.anewarray 7, 3) := by decide +kernel
theorem dX4_init_10 : decode cX4_init 10 = .ok (.putfield 9, 3) := by decide +kernel
theorem dX4_init_13 : decode cX4_init 13 = .ok (.aload_n 0, 1) := by decide +kernel
theorem dX4_init_14 : decode cX4_init 14 = .ok (.new 7, 3) := by decide +kernel
theorem dX4_init_17 : decode cX4_init 17 = .ok (.dup, 1) := by decide +kernel
theorem dX4_init_18 : decode cX4_init 18 = .ok (.invokespecial 15, 3) := by decide +kernel
theorem dX4_init_21 : decode cX4_init 21 = .ok (.putfield 16, 3) := by decide +kernel
theorem dX4_init_24 : decode cX4_init 24 = .ok (.aload_n 0, 1) := by decide +kernel
theorem dX4_init_25 : decode cX4_init 25 = .ok (.new 7, 3) := by decide +kernel
theorem dX4_init_28 : decode cX4_init 28 = .ok (.dup, 1) := by decide +kernel
theorem dX4_init_29 : decode cX4_init 29 = .ok (.invokespecial 15, 3) := by decide +kernel
theorem dX4_init_32 : decode cX4_init 32 = .ok (.putfield 20, 3) := by decide +kernel
theorem dX4_init_35 : decode cX4_init 35 = .ok (.aload_n 0, 1) := by decide +kernel
theorem dX4_init_36 : decode cX4_init 36 = .ok (.new 7, 3) := by decide +kernel
theorem dX4_init_39 : decode cX4_init 39 = .ok (.dup, 1) := by decide +kernel
theorem dX4_init_40 : decode cX4_init 40 = .ok (.invokespecial 15, 3) := by decide +kernel
theorem dX4_init_43 : decode cX4_init 43 = .ok (.putfield 23, 3) := by decide +kernel
theorem dX4_init_46 : decode cX4_init 46 = .ok (.aload_n 0, 1) := by decide +kernel
theorem dX4_init_47 : decode cX4_init 47 = .ok (.new 7, 3) := by decide +kernel
theorem dX4_init_50 : decode cX4_init 50 = .ok (.dup, 1) := by decide +kernel
theorem dX4_init_51 : decode cX4_init 51 = .ok (.invokespecial 15, 3) := by decide +kernel
theorem dX4_init_54 : decode cX4_init 54 = .ok (.putfield 26, 3) := by decide +kernel
theorem dX4_init_57 : decode cX4_init 57 = .ok (.aload_n 0, 1) := by decide +kernel
theorem dX4_init_58 : decode cX4_init 58 = .ok (.sipush 400, 3) := by decide +kernel
theorem dX4_init_61 : decode cX4_init 61 = .ok (.newarray .int, 2) := by decide +kernel
theorem dX4_init_63 : decode cX4_init 63 = .ok (.putfield 29, 3) := by decide +kernel
theorem dX4_init_66 : decode cX4_init 66 = .ok (.iconst 0, 1) := by decide +kernel
theorem dX4_init_67 : decode cX4_init 67 = .ok (.istore_n 1, 1) := by decide +kernel
theorem dX4_init_68 : decode cX4_init 68 = .ok (.iload_n 1, 1) := by decide +kernel
theorem dX4_init_69 : decode cX4_init 69 = .ok (.bipush 6, 2) := by decide +kernel
theorem dX4_init_71 : decode cX4_init 71 = .ok (.if_icmp .ge 22, 3) := by decide +kernel
theorem dX4_init_74 : decode cX4_init 74 = .ok (.aload_n 0, 1) := by decide +kernel
theorem dX4_init_75 : decode cX4_init 75 = .ok (.getfield 9, 3) := by decide +kernel
theorem dX4_init_78 : decode cX4_init 78 = .ok (.iload_n 1, 1) := by decide +kernel
theorem dX4_init_79 : decode cX4_init 79 = .ok (.new 7, 3) := by decide +kernel
theorem dX4_init_82 : decode cX4_init 82 = .ok (.dup, 1) := by decide +kernel
theorem dX4_init_83 : decode cX4_init 83 = .ok (.invokespecial 15, 3) := by decide +kernel
theorem dX4_init_86 : decode cX4_init 86 = .ok (.aastore, 1) := by decide +kernel
theorem dX4_init_87 : decode cX4_init 87 = .ok (.iinc 1 1, 3) := by decide +kernel
theorem dX4_init_90 : decode cX4_init 90 = .ok (.goto (-22), 3) := by decide +kernel
theorem dX4_init_93 : decode cX4_init 93 = .ok (.return_, 1) := by decide +kernel
theorem dX4_is_0 : decode cX4_is 0 = .ok (.iload_n 0, 1) := by decide +kernel
theorem dX4_is_1 : decode cX4_is 1 = .ok (.ifCond .lt 13, 3) := by decide +kernel
theorem dX4_is_4 : decode cX4_is 4 = .ok (.iload_n 0, 1) := by decide +kernel
theorem dX4_is_5 : decode cX4_is 5 = .ok (.bipush 6, 2) := by decide +kernel
theorem dX4_is_7 : decode cX4_is 7 = .ok (.if_icmp .ge 7, 3) := by decide +kernel
theorem dX4_is_10 : decode cX4_is 10 = .ok (.iconst 1, 1) := by decide +kernel
theorem dX4_is_11 : decode cX4_is 11 = .ok (.goto 4, 3) := by decide +kernel
theorem dX4_is_14 : decode cX4_is 14 = .ok (.iconst 0, 1) := by decide +kernel
theorem dX4_is_15 : decode cX4_is 15 = .ok (.ireturn, 1) := by decide +kernel
theorem dX4_isScale_0 : decode cX4_isScale 0 = .ok (.lload_n 0, 1) := by decide +kernel
theorem dX4_isScale_1 : decode cX4_isScale 1 = .ok (.ldc2_w 33, 3) := by decide +kernel
theorem dX4_isScale_4 : decode cX4_isScale 4 = .ok (.lcmp, 1) := by decide +kernel
theorem dX4_isScale_5 : decode cX4_isScale 5 = .ok (.ifCond .lt 15, 3) := by decide +kernel
theorem dX4_isScale_8 : decode cX4_isScale 8 = .ok (.lload_n 0, 1) := by decide +kernel
theorem dX4_isScale_9 : decode cX4_isScale 9 = .ok (.ldc2_w 35, 3) := by decide +kernel
theorem dX4_isScale_12 : decode cX4_isScale 12 = .ok (.lcmp, 1) := by decide +kernel
theorem dX4_isScale_13 : decode cX4_isScale 13 = .ok (.ifCond .gt 7, 3) := by decide +kernel
theorem dX4_isScale_16 : decode cX4_isScale 16 = .ok (.iconst 1, 1) := by decide +kernel
theorem dX4_isScale_17 : decode cX4_isScale 17 = .ok (.goto 4, 3) := by decide +kernel
theorem dX4_isScale_20 : decode cX4_isScale 20 = .ok (.iconst 0, 1) := by decide +kernel
theorem dX4_isScale_21 : decode cX4_isScale 21 = .ok (.ireturn, 1) := by decide +kernel
set_option maxRecDepth 20000 in
theorem ggX4_keep_X4_isScale : GoodIn wsX4_keep wsX4_isScale := goodIn_r _ [7, 8, 9] (by decide +kernel) (by decide +kernel)
set_option maxRecDepth 20000 in
theorem gX4_keep_X4_isScale : GoodIn wsX4_keep (va_wsS RX4 44 yX4_isScale wsX4_isScale) := goodIn_app (goodIn_of _ (by decide +kernel)) ggX4_keep_X4_isScale
set_option maxRecDepth 20000 in
theorem ggX4_keep_X3_take : GoodIn wsX4_keep wsX3_take := goodIn_r _ [14, 15, 16, 17, 18, 19, 20, 21, 22] (by decide +kernel) (by decide +kernel)
set_option maxRecDepth 20000 in
theorem gX4_keep_X3_take : GoodIn wsX4_keep (wsV RX4 48 RX3 yX3_take wsX3_take) := goodIn_app (goodIn_of _ (by decide +kernel)) ggX4_keep_X3_take
theorem dX4_keep_0 : decode cX4_keep 0 = .ok (.aload_n 2, 1) := by decide +kernel
theorem dX4_keep_1 : decode cX4_keep 1 = .ok (.getfield 37, 3) := by decide +kernel
theorem dX4_keep_4 : decode cX4_keep 4 = .ok (.sipush 190, 3) := by decide +kernel
theorem dX4_keep_7 : decode cX4_keep 7 = .ok (.if_icmp .gt 14, 3) := by decide +kernel
theorem dX4_keep_10 : decode cX4_keep 10 = .ok (.aload_n 2, 1) := by decide +kernel
theorem dX4_keep_11 : decode cX4_keep 11 = .ok (.getfield 41, 3) := by decide +kernel
theorem dX4_keep_14 : decode cX4_keep 14 = .ok (.i2l, 1) := by decide +kernel
theorem dX4_keep_15 : decode cX4_keep 15 = .ok (.invokestatic 44, 3) := by decide +kernel
theorem dX4_keep_18 : decode cX4_keep 18 = .ok (.ifCond .ne 6, 3) := by decide +kernel
theorem dX4_keep_21 : decode cX4_keep 21 = .ok (.bipush (-3), 2) := by decide +kernel
theorem dX4_keep_23 : decode cX4_keep 23 = .ok (.ireturn, 1) := by decide +kernel
theorem dX4_keep_24 : decode cX4_keep 24 = .ok (.aload_n 0, 1) := by decide +kernel
theorem dX4_keep_25 : decode cX4_keep 25 = .ok (.getfield 9, 3) := by decide +kernel
theorem dX4_keep_28 : decode cX4_keep 28 = .ok (.iload_n 1, 1) := by decide +kernel
theorem dX4_keep_29 : decode cX4_keep 29 = .ok (.aaload, 1) := by decide +kernel
theorem dX4_keep_30 : decode cX4_keep 30 = .ok (.aload_n 2, 1) := by decide +kernel
theorem dX4_keep_31 : decode cX4_keep 31 = .ok (.invokevirtual 48, 3) := by decide +kernel
theorem dX4_keep_34 : decode cX4_keep 34 = .ok (.aload_n 2, 1) := by decide +kernel
theorem dX4_keep_35 : decode cX4_keep 35 = .ok (.getfield 37, 3) := by decide +kernel
theorem dX4_keep_38 : decode cX4_keep 38 = .ok (.ireturn, 1) := by decide +kernel
set_option maxRecDepth 20000 in
theorem ggX4_load_X4_is : GoodIn wsX4_load wsX4_is := goodIn_r _ [10] (by decide +kernel) (by decide +kernel)
set_option maxRecDepth 20000 in
theorem gX4_load_X4_is : GoodIn wsX4_load (va_wsS RX4 52 yX4_is wsX4_is) := goodIn_app (goodIn_of _ (by decide +kernel)) ggX4_load_X4_is
set_option maxRecDepth 20000 in
theorem ggX4_load_X4_isScale : GoodIn wsX4_load wsX4_isScale := goodIn_r _ [13, 14, 15] (by decide +kernel) (by decide +kernel)
set_option maxRecDepth 20000 in
theorem gX4_load_X4_isScale : GoodIn wsX4_load (va_wsS RX4 44 yX4_isScale wsX4_isScale) := goodIn_app (goodIn_of _ (by decide +kernel)) ggX4_load_X4_isScale
theorem dX4_load_0 : decode cX4_load 0 = .ok (.iload_n 1, 1) := by decide +kernel
theorem dX4_load_1 : decode cX4_load 1 = .ok (.invokestatic 52, 3) := by decide +kernel
theorem dX4_load_4 : decode cX4_load 4 = .ok (.ifCond .ne 5, 3) := by decide +kernel
theorem dX4_load_7 : decode cX4_load 7 = .ok (.iconst (-1), 1) := by decide +kernel
theorem dX4_load_8 : decode cX4_load 8 = .ok (.ireturn, 1) := by decide +kernel
theorem dX4_load_9 : decode cX4_load 9 = .ok (.iload 4, 2) := by decide +kernel
theorem dX4_load_11 : decode cX4_load 11 = .ok (.i2l, 1) := by decide +kernel
theorem dX4_load_12 : decode cX4_load 12 = .ok (.invokestatic 44, 3) := by decide +kernel
theorem dX4_load_15 : decode cX4_load 15 = .ok (.ifCond .ne 6, 3) := by decide +kernel
theorem dX4_load_18 : decode cX4_load 18 = .ok (.bipush (-3), 2) := by decide +kernel
theorem dX4_load_20 : decode cX4_load 20 = .ok (.ireturn, 1) := by decide +kernel
theorem dX4_load_21 : decode cX4_load 21 = .ok (.aload_n 0, 1) := by decide +kernel
theorem dX4_load_22 : decode cX4_load 22 = .ok (.getfield 9, 3) := by decide +kernel
theorem dX4_load_25 : decode cX4_load 25 = .ok (.iload_n 1, 1) := by decide +kernel
theorem dX4_load_26 : decode cX4_load 26 = .ok (.aaload, 1) := by decide +kernel
theorem dX4_load_27 : decode cX4_load 27 = .ok (.astore 5, 2) := by decide +kernel
theorem dX4_load_29 : decode cX4_load 29 = .ok (.aload 5, 2) := by decide +kernel
theorem dX4_load_31 : decode cX4_load 31 = .ok (.iconst 0, 1) := by decide +kernel
theorem dX4_load_32 : decode cX4_load 32 = .ok (.putfield 37, 3) := by decide +kernel
theorem dX4_load_35 : decode cX4_load 35 = .ok (.lload_n 2, 1) := by decide +kernel
theorem dX4_load_36 : decode cX4_load 36 = .ok (.lstore 6, 2) := by decide +kernel
theorem dX4_load_38 : decode cX4_load 38 = .ok (.lload 6, 2) := by decide +kernel
theorem dX4_load_40 : decode cX4_load 40 = .ok (.ldc2_w 56, 3) := by decide +kernel
theorem dX4_load_43 : decode cX4_load 43 = .ok (.lrem, 1) := by decide +kernel
theorem dX4_load_44 : decode cX4_load 44 = .ok (.lstore 8, 2) := by decide +kernel
theorem dX4_load_46 : decode cX4_load 46 = .ok (.aload 5, 2) := by decide +kernel
theorem dX4_load_48 : decode cX4_load 48 = .ok (.getfield 58, 3) := by decide +kernel
theorem dX4_load_51 : decode cX4_load 51 = .ok (.aload 5, 2) := by decide +kernel
theorem dX4_load_53 : decode cX4_load 53 = .ok (.getfield 37, 3) := by decide +kernel
theorem dX4_load_56 : decode cX4_load 56 = .ok (.lload 8, 2) := by decide +kernel
theorem dX4_load_58 : decode cX4_load 58 = .ok (.lconst 0, 1) := by decide +kernel
theorem dX4_load_59 : decode cX4_load 59 = .ok (.lcmp, 1) := by decide +kernel
theorem dX4_load_60 : decode cX4_load 60 = .ok (.ifCond .ge 9, 3) := by decide +kernel
theorem dX4_load_63 : decode cX4_load 63 = .ok (.lload 8, 2) := by decide +kernel
theorem dX4_load_65 : decode cX4_load 65 = .ok (.lneg, 1) := by decide +kernel
theorem dX4_load_66 : decode cX4_load 66 = .ok (.goto 5, 3) := by decide +kernel
theorem dX4_load_69 : decode cX4_load 69 = .ok (.lload 8, 2) := by decide +kernel
theorem dX4_load_71 : decode cX4_load 71 = .ok (.l2i, 1) := by decide +kernel
theorem dX4_load_72 : decode cX4_load 72 = .ok (.iastore, 1) := by decide +kernel
theorem dX4_load_73 : decode cX4_load 73 = .ok (.aload 5, 2) := by decide +kernel
theorem dX4_load_75 : decode cX4_load 75 = .ok (.dup, 1) := by decide +kernel
theorem dX4_load_76 : decode cX4_load 76 = .ok (.getfield 37, 3) := by decide +kernel
theorem dX4_load_79 : decode cX4_load 79 = .ok (.iconst 1, 1) := by decide +kernel
theorem dX4_load_80 : decode cX4_load 80 = .ok (.iadd, 1) := by decide +kernel
theorem dX4_load_81 : decode cX4_load 81 = .ok (.putfield 37, 3) := by decide +kernel
theorem dX4_load_84 : decode cX4_load 84 = .ok (.lload 6, 2) := by decide +kernel
theorem dX4_load_86 : decode cX4_load 86 = .ok (.ldc2_w 56, 3) := by decide +kernel
theorem dX4_load_89 : decode cX4_load 89 = .ok (.ldiv, 1) := by decide +kernel
theorem dX4_load_90 : decode cX4_load 90 = .ok (.lstore 6, 2) := by decide +kernel
theorem dX4_load_92 : decode cX4_load 92 = .ok (.lload 6, 2) := by decide +kernel
theorem dX4_load_94 : decode cX4_load 94 = .ok (.lconst 0, 1) := by decide +kernel
theorem dX4_load_95 : decode cX4_load 95 = .ok (.lcmp, 1) := by decide +kernel
theorem dX4_load_96 : decode cX4_load 96 = .ok (.ifCond .ne (-58), 3) := by decide +kernel
theorem dX4_load_99 : decode cX4_load 99 = .ok (.aload 5, 2) := by decide +kernel
theorem dX4_load_101 : decode cX4_load 101 = .ok (.lload_n 2, 1) := by decide +kernel
theorem dX4_load_102 : decode cX4_load 102 = .ok (.lconst 0, 1) := by decide +kernel
theorem dX4_load_103 : decode cX4_load 103 = .ok (.lcmp, 1) := by decide +kernel
theorem dX4_load_104 : decode cX4_load 104 = .ok (.ifCond .ge 7, 3) := by decide +kernel
theorem dX4_load_107 : decode cX4_load 107 = .ok (.iconst 1, 1) := by decide +kernel
theorem dX4_load_108 : decode cX4_load 108 = .ok (.goto 4, 3) := by decide +kernel
theorem dX4_load_111 : decode cX4_load 111 = .ok (.iconst 0, 1) := by decide +kernel
theorem dX4_load_112 : decode cX4_load 112 = .ok (.putfield 61, 3) := by decide +kernel
theorem dX4_load_115 : decode cX4_load 115 = .ok (.aload 5, 2) := by decide +kernel
theorem dX4_load_117 : decode cX4_load 117 = .ok (.iload 4, 2) := by decide +kernel
theorem dX4_load_119 : decode cX4_load 119 = .ok (.putfield 41, 3) := by decide +kernel
theorem dX4_load_122 : decode cX4_load 122 = .ok (.iconst 0, 1) := by decide +kernel
theorem dX4_load_123 : decode cX4_load 123 = .ok (.ireturn, 1) := by decide +kernel
set_option maxRecDepth 20000 in
theorem ggX4_push_X4_is : GoodIn wsX4_push wsX4_is := goodIn_r _ [9] (by decide +kernel) (by decide +kernel)
set_option maxRecDepth 20000 in
theorem gX4_push_X4_is : GoodIn wsX4_push (va_wsS RX4 52 yX4_is wsX4_is) := goodIn_app (goodIn_of _ (by decide +kernel)) ggX4_push_X4_is
set_option maxRecDepth 20000 in
theorem ggX4_push_X3_take : GoodIn wsX4_push wsX3_take := goodIn_r _ [14, 15, 16, 17, 18, 44, 45, 46, 47] (by decide +kernel) (by decide +kernel)
set_option maxRecDepth 20000 in
theorem gX4_push_X3_take : GoodIn wsX4_push (wsV RX4 48 RX3 yX3_take wsX3_take) := goodIn_app (goodIn_of _ (by decide +kernel)) ggX4_push_X3_take
set_option maxRecDepth 20000 in
theorem ggX4_push_X3_trim : GoodIn wsX4_push wsX3_trim := goodIn_r _ [22, 15, 18, 16, 23, 24, 25, 13, 26, 44, 45, 46, 47] (by decide +kernel) (by decide +kernel)
set_option maxRecDepth 20000 in
theorem gX4_push_X3_trim : GoodIn wsX4_push (wsV RX4 65 RX3 yX3_trim wsX3_trim) := goodIn_app (goodIn_of _ (by decide +kernel)) ggX4_push_X3_trim
set_option maxRecDepth 20000 in
theorem ggX4_push_X4_keep : GoodIn wsX4_push wsX4_keep := goodIn_r _ [30, 3, 31, 2, 32, 33, 8, 34, 35, 36, 10, 11, 12, 13, 14, 15, 16, 17, 18, 44, 45, 46, 47, 37, 38, 39, 40, 41, 42, 43] (by decide +kernel) (by decide +kernel)
set_option maxRecDepth 20000 in
theorem gX4_push_X4_keep : GoodIn wsX4_push (wsV RX4 68 RX4 yX4_keep wsX4_keep) := goodIn_app (goodIn_of _ (by decide +kernel)) ggX4_push_X4_keep
theorem dX4_push_0 : decode cX4_push 0 = .ok (.iload_n 1, 1) := by decide +kernel
theorem dX4_push_1 : decode cX4_push 1 = .ok (.invokestatic 52, 3) := by decide +kernel
theorem dX4_push_4 : decode cX4_push 4 = .ok (.ifCond .ne 5, 3) := by decide +kernel
theorem dX4_push_7 : decode cX4_push 7 = .ok (.iconst (-1), 1) := by decide +kernel
theorem dX4_push_8 : decode cX4_push 8 = .ok (.ireturn, 1) := by decide +kernel
theorem dX4_push_9 : decode cX4_push 9 = .ok (.aload_n 0, 1) := by decide +kernel
theorem dX4_push_10 : decode cX4_push 10 = .ok (.getfield 16, 3) := by decide +kernel
theorem dX4_push_13 : decode cX4_push 13 = .ok (.aload_n 0, 1) := by decide +kernel
theorem dX4_push_14 : decode cX4_push 14 = .ok (.getfield 9, 3) := by decide +kernel
theorem dX4_push_17 : decode cX4_push 17 = .ok (.iload_n 1, 1) := by decide +kernel
theorem dX4_push_18 : decode cX4_push 18 = .ok (.aaload, 1) := by decide +kernel
theorem dX4_push_19 : decode cX4_push 19 = .ok (.invokevirtual 48, 3) := by decide +kernel
theorem dX4_push_22 : decode cX4_push 22 = .ok (.aload_n 0, 1) := by decide +kernel
theorem dX4_push_23 : decode cX4_push 23 = .ok (.getfield 16, 3) := by decide +kernel
theorem dX4_push_26 : decode cX4_push 26 = .ok (.getfield 37, 3) := by decide +kernel
theorem dX4_push_29 : decode cX4_push 29 = .ok (.iconst 1, 1) := by decide +kernel
theorem dX4_push_30 : decode cX4_push 30 = .ok (.isub, 1) := by decide +kernel
theorem dX4_push_31 : decode cX4_push 31 = .ok (.istore 4, 2) := by decide +kernel
theorem dX4_push_33 : decode cX4_push 33 = .ok (.iload 4, 2) := by decide +kernel
theorem dX4_push_35 : decode cX4_push 35 = .ok (.ifCond .lt 32, 3) := by decide +kernel
theorem dX4_push_38 : decode cX4_push 38 = .ok (.aload_n 0, 1) := by decide +kernel
theorem dX4_push_39 : decode cX4_push 39 = .ok (.getfield 16, 3) := by decide +kernel
theorem dX4_push_42 : decode cX4_push 42 = .ok (.getfield 58, 3) := by decide +kernel
theorem dX4_push_45 : decode cX4_push 45 = .ok (.iload 4, 2) := by decide +kernel
theorem dX4_push_47 : decode cX4_push 47 = .ok (.bipush 18, 2) := by decide +kernel
theorem dX4_push_49 : decode cX4_push 49 = .ok (.iadd, 1) := by decide +kernel
theorem dX4_push_50 : decode cX4_push 50 = .ok (.aload_n 0, 1) := by decide +kernel
theorem dX4_push_51 : decode cX4_push 51 = .ok (.getfield 16, 3) := by decide +kernel
theorem dX4_push_54 : decode cX4_push 54 = .ok (.getfield 58, 3) := by decide +kernel
theorem dX4_push_57 : decode cX4_push 57 = .ok (.iload 4, 2) := by decide +kernel
theorem dX4_push_59 : decode cX4_push 59 = .ok (.iaload, 1) := by decide +kernel
theorem dX4_push_60 : decode cX4_push 60 = .ok (.iastore, 1) := by decide +kernel
theorem dX4_push_61 : decode cX4_push 61 = .ok (.iinc 4 (-1), 3) := by decide +kernel
theorem dX4_push_64 : decode cX4_push 64 = .ok (.goto (-31), 3) := by decide +kernel
theorem dX4_push_67 : decode cX4_push 67 = .ok (.aload_n 0, 1) := by decide +kernel
theorem dX4_push_68 : decode cX4_push 68 = .ok (.getfield 16, 3) := by decide +kernel
theorem dX4_push_71 : decode cX4_push 71 = .ok (.dup, 1) := by decide +kernel
theorem dX4_push_72 : decode cX4_push 72 = .ok (.getfield 37, 3) := by decide +kernel
theorem dX4_push_75 : decode cX4_push 75 = .ok (.bipush 18, 2) := by decide +kernel
theorem dX4_push_77 : decode cX4_push 77 = .ok (.iadd, 1) := by decide +kernel
theorem dX4_push_78 : decode cX4_push 78 = .ok (.putfield 37, 3) := by decide +kernel
theorem dX4_push_81 : decode cX4_push 81 = .ok (.lload_n 2, 1) := by decide +kernel
theorem dX4_push_82 : decode cX4_push 82 = .ok (.lstore 4, 2) := by decide +kernel
theorem dX4_push_84 : decode cX4_push 84 = .ok (.iconst 0, 1) := by decide +kernel
theorem dX4_push_85 : decode cX4_push 85 = .ok (.istore 6, 2) := by decide +kernel
theorem dX4_push_87 : decode cX4_push 87 = .ok (.iload 6, 2) := by decide +kernel
theorem dX4_push_89 : decode cX4_push 89 = .ok (.bipush 18, 2) := by decide +kernel
theorem dX4_push_91 : decode cX4_push 91 = .ok (.if_icmp .ge 51, 3) := by decide +kernel
theorem dX4_push_94 : decode cX4_push 94 = .ok (.lload 4, 2) := by decide +kernel
theorem dX4_push_96 : decode cX4_push 96 = .ok (.ldc2_w 56, 3) := by decide +kernel
theorem dX4_push_99 : decode cX4_push 99 = .ok (.lrem, 1) := by decide +kernel
theorem dX4_push_100 : decode cX4_push 100 = .ok (.lstore 7, 2) := by decide +kernel
theorem dX4_push_102 : decode cX4_push 102 = .ok (.aload_n 0, 1) := by decide +kernel
theorem dX4_push_103 : decode cX4_push 103 = .ok (.getfield 16, 3) := by decide +kernel
theorem dX4_push_106 : decode cX4_push 106 = .ok (.getfield 58, 3) := by decide +kernel
theorem dX4_push_109 : decode cX4_push 109 = .ok (.iload 6, 2) := by decide +kernel
theorem dX4_push_111 : decode cX4_push 111 = .ok (.lload 7, 2) := by decide +kernel
theorem dX4_push_113 : decode cX4_push 113 = .ok (.lconst 0, 1) := by decide +kernel
theorem dX4_push_114 : decode cX4_push 114 = .ok (.lcmp, 1) := by decide +kernel
theorem dX4_push_115 : decode cX4_push 115 = .ok (.ifCond .ge 9, 3) := by decide +kernel
theorem dX4_push_118 : decode cX4_push 118 = .ok (.lload 7, 2) := by decide +kernel
theorem dX4_push_120 : decode cX4_push 120 = .ok (.lneg, 1) := by decide +kernel
theorem dX4_push_121 : decode cX4_push 121 = .ok (.goto 5, 3) := by decide +kernel
theorem dX4_push_124 : decode cX4_push 124 = .ok (.lload 7, 2) := by decide +kernel
theorem dX4_push_126 : decode cX4_push 126 = .ok (.l2i, 1) := by decide +kernel
theorem dX4_push_127 : decode cX4_push 127 = .ok (.iastore, 1) := by decide +kernel
theorem dX4_push_128 : decode cX4_push 128 = .ok (.lload 4, 2) := by decide +kernel
theorem dX4_push_130 : decode cX4_push 130 = .ok (.ldc2_w 56, 3) := by decide +kernel
theorem dX4_push_133 : decode cX4_push 133 = .ok (.ldiv, 1) := by decide +kernel
theorem dX4_push_134 : decode cX4_push 134 = .ok (.lstore 4, 2) := by decide +kernel
theorem dX4_push_136 : decode cX4_push 136 = .ok (.iinc 6 1, 3) := by decide +kernel
theorem dX4_push_139 : decode cX4_push 139 = .ok (.goto (-52), 3) := by decide +kernel
theorem dX4_push_142 : decode cX4_push 142 = .ok (.aload_n 0, 1) := by decide +kernel
theorem dX4_push_143 : decode cX4_push 143 = .ok (.getfield 16, 3) := by decide +kernel
theorem dX4_push_146 : decode cX4_push 146 = .ok (.invokevirtual 65, 3) := by decide +kernel
theorem dX4_push_149 : decode cX4_push 149 = .ok (.aload_n 0, 1) := by decide +kernel
theorem dX4_push_150 : decode cX4_push 150 = .ok (.iload_n 1, 1) := by decide +kernel
theorem dX4_push_151 : decode cX4_push 151 = .ok (.aload_n 0, 1) := by decide +kernel
theorem dX4_push_152 : decode cX4_push 152 = .ok (.getfield 16, 3) := by decide +kernel
theorem dX4_push_155 : decode cX4_push 155 = .ok (.invokevirtual 68, 3) := by decide +kernel
theorem dX4_push_158 : decode cX4_push 158 = .ok (.ireturn, 1) := by decide +kernel
theorem dX4_sizes_0 : decode cX4_sizes 0 = .ok (.aload_n 0, 1) := by decide +kernel
theorem dX4_sizes_1 : decode cX4_sizes 1 = .ok (.getfield 37, 3) := by decide +kernel
theorem dX4_sizes_4 : decode cX4_sizes 4 = .ok (.aload_n 1, 1) := by decide +kernel
theorem dX4_sizes_5 : decode cX4_sizes 5 = .ok (.getfield 37, 3) := by decide +kernel
theorem dX4_sizes_8 : decode cX4_sizes 8 = .ok (.if_icmp .eq 20, 3) := by decide +kernel
theorem dX4_sizes_11 : decode cX4_sizes 11 = .ok (.aload_n 0, 1) := by decide +kernel
theorem dX4_sizes_12 : decode cX4_sizes 12 = .ok (.getfield 37, 3) := by decide +kernel
theorem dX4_sizes_15 : decode cX4_sizes 15 = .ok (.aload_n 1, 1) := by decide +kernel
theorem dX4_sizes_16 : decode cX4_sizes 16 = .ok (.getfield 37, 3) := by decide +kernel
theorem dX4_sizes_19 : decode cX4_sizes 19 = .ok (.if_icmp .ge 7, 3) := by decide +kernel
theorem dX4_sizes_22 : decode cX4_sizes 22 = .ok (.iconst (-1), 1) := by decide +kernel
theorem dX4_sizes_23 : decode cX4_sizes 23 = .ok (.goto 4, 3) := by decide +kernel
theorem dX4_sizes_26 : decode cX4_sizes 26 = .ok (.iconst 1, 1) := by decide +kernel
theorem dX4_sizes_27 : decode cX4_sizes 27 = .ok (.ireturn, 1) := by decide +kernel
theorem dX4_sizes_28 : decode cX4_sizes 28 = .ok (.aload_n 0, 1) := by decide +kernel
theorem dX4_sizes_29 : decode cX4_sizes 29 = .ok (.getfield 37, 3) := by decide +kernel
theorem dX4_sizes_32 : decode cX4_sizes 32 = .ok (.iconst 1, 1) := by decide +kernel
theorem dX4_sizes_33 : decode cX4_sizes 33 = .ok (.isub, 1) := by decide +kernel
theorem dX4_sizes_34 : decode cX4_sizes 34 = .ok (.istore_n 2, 1) := by decide +kernel
theorem dX4_sizes_35 : decode cX4_sizes 35 = .ok (.iload_n 2, 1) := by decide +kernel
theorem dX4_sizes_36 : decode cX4_sizes 36 = .ok (.ifCond .lt 45, 3) := by decide +kernel
theorem dX4_sizes_39 : decode cX4_sizes 39 = .ok (.aload_n 0, 1) := by decide +kernel
theorem dX4_sizes_40 : decode cX4_sizes 40 = .ok (.getfield 58, 3) := by decide +kernel
theorem dX4_sizes_43 : decode cX4_sizes 43 = .ok (.iload_n 2, 1) := by decide +kernel
theorem dX4_sizes_44 : decode cX4_sizes 44 = .ok (.iaload, 1) := by decide +kernel
theorem dX4_sizes_45 : decode cX4_sizes 45 = .ok (.aload_n 1, 1) := by decide +kernel
theorem dX4_sizes_46 : decode cX4_sizes 46 = .ok (.getfield 58, 3) := by decide +kernel
theorem dX4_sizes_49 : decode cX4_sizes 49 = .ok (.iload_n 2, 1) := by decide +kernel
theorem dX4_sizes_50 : decode cX4_sizes 50 = .ok (.iaload, 1) := by decide +kernel
theorem dX4_sizes_51 : decode cX4_sizes 51 = .ok (.if_icmp .eq 24, 3) := by decide +kernel
theorem dX4_sizes_54 : decode cX4_sizes 54 = .ok (.aload_n 0, 1) := by decide +kernel
theorem dX4_sizes_55 : decode cX4_sizes 55 = .ok (.getfield 58, 3) := by decide +kernel
theorem dX4_sizes_58 : decode cX4_sizes 58 = .ok (.iload_n 2, 1) := by decide +kernel
theorem dX4_sizes_59 : decode cX4_sizes 59 = .ok (.iaload, 1) := by decide +kernel
theorem dX4_sizes_60 : decode cX4_sizes 60 = .ok (.aload_n 1, 1) := by decide +kernel
theorem dX4_sizes_61 : decode cX4_sizes 61 = .ok (.getfield 58, 3) := by decide +kernel
theorem dX4_sizes_64 : decode cX4_sizes 64 = .ok (.iload_n 2, 1) := by decide +kernel
theorem dX4_sizes_65 : decode cX4_sizes 65 = .ok (.iaload, 1) := by decide +kernel
theorem dX4_sizes_66 : decode cX4_sizes 66 = .ok (.if_icmp .ge 7, 3) := by decide +kernel
theorem dX4_sizes_69 : decode cX4_sizes 69 = .ok (.iconst (-1), 1) := by decide +kernel
theorem dX4_sizes_70 : decode cX4_sizes 70 = .ok (.goto 4, 3) := by decide +kernel
theorem dX4_sizes_73 : decode cX4_sizes 73 = .ok (.iconst 1, 1) := by decide +kernel
theorem dX4_sizes_74 : decode cX4_sizes 74 = .ok (.ireturn, 1) := by decide +kernel
theorem dX4_sizes_75 : decode cX4_sizes 75 = .ok (.iinc 2 (-1), 3) := by decide +kernel
theorem dX4_sizes_78 : decode cX4_sizes 78 = .ok (.goto (-43), 3) := by decide +kernel
theorem dX4_sizes_81 : decode cX4_sizes 81 = .ok (.iconst 0, 1) := by decide +kernel
theorem dX4_sizes_82 : decode cX4_sizes 82 = .ok (.ireturn, 1) := by decide +kernel
set_option maxRecDepth 20000 in
theorem ggX4_align_X3_take : GoodIn wsX4_align wsX3_take := goodIn_r _ [9, 10, 11, 12, 13, 29, 30, 31, 32] (by decide +kernel) (by decide +kernel)
set_option maxRecDepth 20000 in
theorem gX4_align_X3_take : GoodIn wsX4_align (wsV RX4 48 RX3 yX3_take wsX3_take) := goodIn_app (goodIn_of _ (by decide +kernel)) ggX4_align_X3_take
set_option maxRecDepth 20000 in
theorem ggX4_align_X3_up : GoodIn wsX4_align wsX3_up := goodIn_r _ [17, 10, 13, 18, 19, 20, 8, 21, 29, 30, 31, 32] (by decide +kernel) (by decide +kernel)
set_option maxRecDepth 20000 in
theorem gX4_align_X3_up : GoodIn wsX4_align (wsV RX4 72 RX3 yX3_up wsX3_up) := goodIn_app (goodIn_of _ (by decide +kernel)) ggX4_align_X3_up
theorem dX4_align_0 : decode cX4_align 0 = .ok (.aload_n 0, 1) := by decide +kernel
theorem dX4_align_1 : decode cX4_align 1 = .ok (.getfield 16, 3) := by decide +kernel
theorem dX4_align_4 : decode cX4_align 4 = .ok (.aload_n 0, 1) := by decide +kernel
theorem dX4_align_5 : decode cX4_align 5 = .ok (.getfield 9, 3) := by decide +kernel
theorem dX4_align_8 : decode cX4_align 8 = .ok (.iload_n 1, 1) := by decide +kernel
theorem dX4_align_9 : decode cX4_align 9 = .ok (.aaload, 1) := by decide +kernel
theorem dX4_align_10 : decode cX4_align 10 = .ok (.invokevirtual 48, 3) := by decide +kernel
theorem dX4_align_13 : decode cX4_align 13 = .ok (.aload_n 0, 1) := by decide +kernel
theorem dX4_align_14 : decode cX4_align 14 = .ok (.getfield 20, 3) := by decide +kernel
theorem dX4_align_17 : decode cX4_align 17 = .ok (.aload_n 0, 1) := by decide +kernel
theorem dX4_align_18 : decode cX4_align 18 = .ok (.getfield 9, 3) := by decide +kernel
theorem dX4_align_21 : decode cX4_align 21 = .ok (.iload_n 2, 1) := by decide +kernel
theorem dX4_align_22 : decode cX4_align 22 = .ok (.aaload, 1) := by decide +kernel
theorem dX4_align_23 : decode cX4_align 23 = .ok (.invokevirtual 48, 3) := by decide +kernel
theorem dX4_align_26 : decode cX4_align 26 = .ok (.aload_n 0, 1) := by decide +kernel
theorem dX4_align_27 : decode cX4_align 27 = .ok (.getfield 16, 3) := by decide +kernel
theorem dX4_align_30 : decode cX4_align 30 = .ok (.getfield 41, 3) := by decide +kernel
theorem dX4_align_33 : decode cX4_align 33 = .ok (.aload_n 0, 1) := by decide +kernel
theorem dX4_align_34 : decode cX4_align 34 = .ok (.getfield 20, 3) := by decide +kernel
theorem dX4_align_37 : decode cX4_align 37 = .ok (.getfield 41, 3) := by decide +kernel
theorem dX4_align_40 : decode cX4_align 40 = .ok (.if_icmp .le 13, 3) := by decide +kernel
theorem dX4_align_43 : decode cX4_align 43 = .ok (.aload_n 0, 1) := by decide +kernel
theorem dX4_align_44 : decode cX4_align 44 = .ok (.getfield 16, 3) := by decide +kernel
theorem dX4_align_47 : decode cX4_align 47 = .ok (.getfield 41, 3) := by decide +kernel
theorem dX4_align_50 : decode cX4_align 50 = .ok (.goto 10, 3) := by decide +kernel
theorem dX4_align_53 : decode cX4_align 53 = .ok (.aload_n 0, 1) := by decide +kernel
theorem dX4_align_54 : decode cX4_align 54 = .ok (.getfield 20, 3) := by decide +kernel
theorem dX4_align_57 : decode cX4_align 57 = .ok (.getfield 41, 3) := by decide +kernel
theorem dX4_align_60 : decode cX4_align 60 = .ok (.istore_n 3, 1) := by decide +kernel
theorem dX4_align_61 : decode cX4_align 61 = .ok (.aload_n 0, 1) := by decide +kernel
theorem dX4_align_62 : decode cX4_align 62 = .ok (.getfield 16, 3) := by decide +kernel
theorem dX4_align_65 : decode cX4_align 65 = .ok (.iload_n 3, 1) := by decide +kernel
theorem dX4_align_66 : decode cX4_align 66 = .ok (.aload_n 0, 1) := by decide +kernel
theorem dX4_align_67 : decode cX4_align 67 = .ok (.getfield 16, 3) := by decide +kernel
theorem dX4_align_70 : decode cX4_align 70 = .ok (.getfield 41, 3) := by decide +kernel
theorem dX4_align_73 : decode cX4_align 73 = .ok (.isub, 1) := by decide +kernel
theorem dX4_align_74 : decode cX4_align 74 = .ok (.invokevirtual 72, 3) := by decide +kernel
theorem dX4_align_77 : decode cX4_align 77 = .ok (.aload_n 0, 1) := by decide +kernel
theorem dX4_align_78 : decode cX4_align 78 = .ok (.getfield 20, 3) := by decide +kernel
theorem dX4_align_81 : decode cX4_align 81 = .ok (.iload_n 3, 1) := by decide +kernel
theorem dX4_align_82 : decode cX4_align 82 = .ok (.aload_n 0, 1) := by decide +kernel
theorem dX4_align_83 : decode cX4_align 83 = .ok (.getfield 20, 3) := by decide +kernel
theorem dX4_align_86 : decode cX4_align 86 = .ok (.getfield 41, 3) := by decide +kernel
theorem dX4_align_89 : decode cX4_align 89 = .ok (.isub, 1) := by decide +kernel
theorem dX4_align_90 : decode cX4_align 90 = .ok (.invokevirtual 72, 3) := by decide +kernel
theorem dX4_align_93 : decode cX4_align 93 = .ok (.aload_n 0, 1) := by decide +kernel
theorem dX4_align_94 : decode cX4_align 94 = .ok (.getfield 16, 3) := by decide +kernel
theorem dX4_align_97 : decode cX4_align 97 = .ok (.iload_n 3, 1) := by decide +kernel
theorem dX4_align_98 : decode cX4_align 98 = .ok (.putfield 41, 3) := by decide +kernel
theorem dX4_align_101 : decode cX4_align 101 = .ok (.aload_n 0, 1) := by decide +kernel
theorem dX4_align_102 : decode cX4_align 102 = .ok (.getfield 20, 3) := by decide +kernel
theorem dX4_align_105 : decode cX4_align 105 = .ok (.iload_n 3, 1) := by decide +kernel
theorem dX4_align_106 : decode cX4_align 106 = .ok (.putfield 41, 3) := by decide +kernel
theorem dX4_align_109 : decode cX4_align 109 = .ok (.return_, 1) := by decide +kernel
set_option maxRecDepth 20000 in
theorem ggX4_order_X4_align : GoodIn wsX4_order wsX4_align := goodIn_r _ [8, 1, 9, 3, 10, 11, 12, 13, 14, 15, 16, 17, 18, 19, 20, 21, 22, 23, 24, 25, 26, 27, 33, 34, 35, 36, 37, 38, 39, 40, 41, 42, 43] (by decide +kernel) (by decide +kernel)
set_option maxRecDepth 20000 in
theorem gX4_order_X4_align : GoodIn wsX4_order (wsV RX4 76 RX4 yX4_align wsX4_align) := goodIn_app (goodIn_of _ (by decide +kernel)) ggX4_order_X4_align
set_option maxRecDepth 20000 in
theorem ggX4_order_X4_sizes : GoodIn wsX4_order wsX4_sizes := goodIn_r _ [30, 31, 32, 40, 41, 42, 43] (by decide +kernel) (by decide +kernel)
set_option maxRecDepth 20000 in
theorem gX4_order_X4_sizes : GoodIn wsX4_order (va_wsS RX4 80 yX4_sizes wsX4_sizes) := goodIn_app (goodIn_of _ (by decide +kernel)) ggX4_order_X4_sizes
theorem dX4_order_0 : decode cX4_order 0 = .ok (.aload_n 0, 1) := by decide +kernel
theorem dX4_order_1 : decode cX4_order 1 = .ok (.iload_n 1, 1) := by decide +kernel
theorem dX4_order_2 : decode cX4_order 2 = .ok (.iload_n 2, 1) := by decide +kernel
theorem dX4_order_3 : decode cX4_order 3 = .ok (.invokevirtual 76, 3) := by decide +kernel
theorem dX4_order_6 : decode cX4_order 6 = .ok (.aload_n 0, 1) := by decide +kernel
theorem dX4_order_7 : decode cX4_order 7 = .ok (.getfield 16, 3) := by decide +kernel
theorem dX4_order_10 : decode cX4_order 10 = .ok (.getfield 61, 3) := by decide +kernel
theorem dX4_order_13 : decode cX4_order 13 = .ok (.aload_n 0, 1) := by decide +kernel
theorem dX4_order_14 : decode cX4_order 14 = .ok (.getfield 20, 3) := by decide +kernel
theorem dX4_order_17 : decode cX4_order 17 = .ok (.getfield 61, 3) := by decide +kernel
theorem dX4_order_20 : decode cX4_order 20 = .ok (.if_icmp .eq 19, 3) := by decide +kernel
theorem dX4_order_23 : decode cX4_order 23 = .ok (.aload_n 0, 1) := by decide +kernel
theorem dX4_order_24 : decode cX4_order 24 = .ok (.getfield 16, 3) := by decide +kernel
theorem dX4_order_27 : decode cX4_order 27 = .ok (.getfield 61, 3) := by decide +kernel
theorem dX4_order_30 : decode cX4_order 30 = .ok (.ifCond .eq 7, 3) := by decide +kernel
theorem dX4_order_33 : decode cX4_order 33 = .ok (.iconst (-1), 1) := by decide +kernel
theorem dX4_order_34 : decode cX4_order 34 = .ok (.goto 4, 3) := by decide +kernel
theorem dX4_order_37 : decode cX4_order 37 = .ok (.iconst 1, 1) := by decide +kernel
theorem dX4_order_38 : decode cX4_order 38 = .ok (.ireturn, 1) := by decide +kernel
theorem dX4_order_39 : decode cX4_order 39 = .ok (.aload_n 0, 1) := by decide +kernel
theorem dX4_order_40 : decode cX4_order 40 = .ok (.getfield 16, 3) := by decide +kernel
theorem dX4_order_43 : decode cX4_order 43 = .ok (.aload_n 0, 1) := by decide +kernel
theorem dX4_order_44 : decode cX4_order 44 = .ok (.getfield 20, 3) := by decide +kernel
theorem dX4_order_47 : decode cX4_order 47 = .ok (.invokestatic 80, 3) := by decide +kernel
theorem dX4_order_50 : decode cX4_order 50 = .ok (.istore_n 3, 1) := by decide +kernel
theorem dX4_order_51 : decode cX4_order 51 = .ok (.aload_n 0, 1) := by decide +kernel
theorem dX4_order_52 : decode cX4_order 52 = .ok (.getfield 16, 3) := by decide +kernel
theorem dX4_order_55 : decode cX4_order 55 = .ok (.getfield 61, 3) := by decide +kernel
theorem dX4_order_58 : decode cX4_order 58 = .ok (.ifCond .eq 8, 3) := by decide +kernel
theorem dX4_order_61 : decode cX4_order 61 = .ok (.iload_n 3, 1) := by decide +kernel
theorem dX4_order_62 : decode cX4_order 62 = .ok (.ineg, 1) := by decide +kernel
theorem dX4_order_63 : decode cX4_order 63 = .ok (.goto 4, 3) := by decide +kernel
theorem dX4_order_66 : decode cX4_order 66 = .ok (.iload_n 3, 1) := by decide +kernel
theorem dX4_order_67 : decode cX4_order 67 = .ok (.ireturn, 1) := by decide +kernel
set_option maxRecDepth 20000 in
theorem ggX4_sum_X3_isZero : GoodIn wsX4_sum wsX3_isZero := goodIn_r _ [12, 13, 14, 32, 33, 34, 35] (by decide +kernel) (by decide +kernel)
set_option maxRecDepth 20000 in
theorem gX4_sum_X3_isZero : GoodIn wsX4_sum (wsV RX4 84 RX3 yX3_isZero wsX3_isZero) := goodIn_app (goodIn_of _ (by decide +kernel)) ggX4_sum_X3_isZero
set_option maxRecDepth 20000 in
theorem ggX4_sum_X4_sizes : GoodIn wsX4_sum wsX4_sizes := goodIn_r _ [18, 6, 7, 32, 33, 34, 35] (by decide +kernel) (by decide +kernel)
set_option maxRecDepth 20000 in
theorem gX4_sum_X4_sizes : GoodIn wsX4_sum (va_wsS RX4 80 yX4_sizes wsX4_sizes) := goodIn_app (goodIn_of _ (by decide +kernel)) ggX4_sum_X4_sizes
set_option maxRecDepth 20000 in
theorem ggX4_sum_X3_trim : GoodIn wsX4_sum wsX3_trim := goodIn_r _ [22, 13, 14, 23, 24, 9, 10, 11, 12, 32, 33, 34, 35] (by decide +kernel) (by decide +kernel)
set_option maxRecDepth 20000 in
theorem gX4_sum_X3_trim : GoodIn wsX4_sum (wsV RX4 65 RX3 yX3_trim wsX3_trim) := goodIn_app (goodIn_of _ (by decide +kernel)) ggX4_sum_X3_trim
theorem dX4_sum_0 : decode cX4_sum 0 = .ok (.aload_n 0, 1) := by decide +kernel
theorem dX4_sum_1 : decode cX4_sum 1 = .ok (.getfield 20, 3) := by decide +kernel
theorem dX4_sum_4 : decode cX4_sum 4 = .ok (.getfield 61, 3) := by decide +kernel
theorem dX4_sum_7 : decode cX4_sum 7 = .ok (.iload_n 1, 1) := by decide +kernel
theorem dX4_sum_8 : decode cX4_sum 8 = .ok (.ifCond .eq 17, 3) := by decide +kernel
theorem dX4_sum_11 : decode cX4_sum 11 = .ok (.aload_n 0, 1) := by decide +kernel
theorem dX4_sum_12 : decode cX4_sum 12 = .ok (.getfield 20, 3) := by decide +kernel
theorem dX4_sum_15 : decode cX4_sum 15 = .ok (.invokevirtual 84, 3) := by decide +kernel
theorem dX4_sum_18 : decode cX4_sum 18 = .ok (.ifCond .ne 7, 3) := by decide +kernel
theorem dX4_sum_21 : decode cX4_sum 21 = .ok (.iconst 1, 1) := by decide +kernel
theorem dX4_sum_22 : decode cX4_sum 22 = .ok (.goto 4, 3) := by decide +kernel
theorem dX4_sum_25 : decode cX4_sum 25 = .ok (.iconst 0, 1) := by decide +kernel
theorem dX4_sum_26 : decode cX4_sum 26 = .ok (.if_icmp .eq 7, 3) := by decide +kernel
theorem dX4_sum_29 : decode cX4_sum 29 = .ok (.iconst 1, 1) := by decide +kernel
theorem dX4_sum_30 : decode cX4_sum 30 = .ok (.goto 4, 3) := by decide +kernel
theorem dX4_sum_33 : decode cX4_sum 33 = .ok (.iconst 0, 1) := by decide +kernel
theorem dX4_sum_34 : decode cX4_sum 34 = .ok (.istore_n 2, 1) := by decide +kernel
theorem dX4_sum_35 : decode cX4_sum 35 = .ok (.aload_n 0, 1) := by decide +kernel
theorem dX4_sum_36 : decode cX4_sum 36 = .ok (.getfield 23, 3) := by decide +kernel
theorem dX4_sum_39 : decode cX4_sum 39 = .ok (.aload_n 0, 1) := by decide +kernel
theorem dX4_sum_40 : decode cX4_sum 40 = .ok (.getfield 16, 3) := by decide +kernel
theorem dX4_sum_43 : decode cX4_sum 43 = .ok (.getfield 41, 3) := by decide +kernel
theorem dX4_sum_46 : decode cX4_sum 46 = .ok (.putfield 41, 3) := by decide +kernel
theorem dX4_sum_49 : decode cX4_sum 49 = .ok (.aload_n 0, 1) := by decide +kernel
theorem dX4_sum_50 : decode cX4_sum 50 = .ok (.getfield 16, 3) := by decide +kernel
theorem dX4_sum_53 : decode cX4_sum 53 = .ok (.getfield 37, 3) := by decide +kernel
theorem dX4_sum_56 : decode cX4_sum 56 = .ok (.aload_n 0, 1) := by decide +kernel
theorem dX4_sum_57 : decode cX4_sum 57 = .ok (.getfield 20, 3) := by decide +kernel
theorem dX4_sum_60 : decode cX4_sum 60 = .ok (.getfield 37, 3) := by decide +kernel
theorem dX4_sum_63 : decode cX4_sum 63 = .ok (.if_icmp .le 13, 3) := by decide +kernel
theorem dX4_sum_66 : decode cX4_sum 66 = .ok (.aload_n 0, 1) := by decide +kernel
theorem dX4_sum_67 : decode cX4_sum 67 = .ok (.getfield 16, 3) := by decide +kernel
theorem dX4_sum_70 : decode cX4_sum 70 = .ok (.getfield 37, 3) := by decide +kernel
theorem dX4_sum_73 : decode cX4_sum 73 = .ok (.goto 10, 3) := by decide +kernel
theorem dX4_sum_76 : decode cX4_sum 76 = .ok (.aload_n 0, 1) := by decide +kernel
theorem dX4_sum_77 : decode cX4_sum 77 = .ok (.getfield 20, 3) := by decide +kernel
theorem dX4_sum_80 : decode cX4_sum 80 = .ok (.getfield 37, 3) := by decide +kernel
theorem dX4_sum_83 : decode cX4_sum 83 = .ok (.istore_n 3, 1) := by decide +kernel
theorem dX4_sum_84 : decode cX4_sum 84 = .ok (.aload_n 0, 1) := by decide +kernel
theorem dX4_sum_85 : decode cX4_sum 85 = .ok (.getfield 16, 3) := by decide +kernel
theorem dX4_sum_88 : decode cX4_sum 88 = .ok (.getfield 37, 3) := by decide +kernel
theorem dX4_sum_91 : decode cX4_sum 91 = .ok (.istore 4, 2) := by decide +kernel
theorem dX4_sum_93 : decode cX4_sum 93 = .ok (.iload 4, 2) := by decide +kernel
theorem dX4_sum_95 : decode cX4_sum 95 = .ok (.iload_n 3, 1) := by decide +kernel
theorem dX4_sum_96 : decode cX4_sum 96 = .ok (.if_icmp .ge 20, 3) := by decide +kernel
theorem dX4_sum_99 : decode cX4_sum 99 = .ok (.aload_n 0, 1) := by decide +kernel
theorem dX4_sum_100 : decode cX4_sum 100 = .ok (.getfield 16, 3) := by decide +kernel
theorem dX4_sum_103 : decode cX4_sum 103 = .ok (.getfield 58, 3) := by decide +kernel
theorem dX4_sum_106 : decode cX4_sum 106 = .ok (.iload 4, 2) := by decide +kernel
theorem dX4_sum_108 : decode cX4_sum 108 = .ok (.iconst 0, 1) := by decide +kernel
theorem dX4_sum_109 : decode cX4_sum 109 = .ok (.iastore, 1) := by decide +kernel
theorem dX4_sum_110 : decode cX4_sum 110 = .ok (.iinc 4 1, 3) := by decide +kernel
theorem dX4_sum_113 : decode cX4_sum 113 = .ok (.goto (-20), 3) := by decide +kernel
theorem dX4_sum_116 : decode cX4_sum 116 = .ok (.aload_n 0, 1) := by decide +kernel
theorem dX4_sum_117 : decode cX4_sum 117 = .ok (.getfield 20, 3) := by decide +kernel
theorem dX4_sum_120 : decode cX4_sum 120 = .ok (.getfield 37, 3) := by decide +kernel
theorem dX4_sum_123 : decode cX4_sum 123 = .ok (.istore 4, 2) := by decide +kernel
theorem dX4_sum_125 : decode cX4_sum 125 = .ok (.iload 4, 2) := by decide +kernel
theorem dX4_sum_127 : decode cX4_sum 127 = .ok (.iload_n 3, 1) := by decide +kernel
theorem dX4_sum_128 : decode cX4_sum 128 = .ok (.if_icmp .ge 20, 3) := by decide +kernel
theorem dX4_sum_131 : decode cX4_sum 131 = .ok (.aload_n 0, 1) := by decide +kernel
theorem dX4_sum_132 : decode cX4_sum 132 = .ok (.getfield 20, 3) := by decide +kernel
theorem dX4_sum_135 : decode cX4_sum 135 = .ok (.getfield 58, 3) := by decide +kernel
theorem dX4_sum_138 : decode cX4_sum 138 = .ok (.iload 4, 2) := by decide +kernel
theorem dX4_sum_140 : decode cX4_sum 140 = .ok (.iconst 0, 1) := by decide +kernel
theorem dX4_sum_141 : decode cX4_sum 141 = .ok (.iastore, 1) := by decide +kernel
theorem dX4_sum_142 : decode cX4_sum 142 = .ok (.iinc 4 1, 3) := by decide +kernel
theorem dX4_sum_145 : decode cX4_sum 145 = .ok (.goto (-20), 3) := by decide +kernel
theorem dX4_sum_148 : decode cX4_sum 148 = .ok (.aload_n 0, 1) := by decide +kernel
theorem dX4_sum_149 : decode cX4_sum 149 = .ok (.getfield 16, 3) := by decide +kernel
theorem dX4_sum_152 : decode cX4_sum 152 = .ok (.getfield 61, 3) := by decide +kernel
theorem dX4_sum_155 : decode cX4_sum 155 = .ok (.iload_n 2, 1) := by decide +kernel
theorem dX4_sum_156 : decode cX4_sum 156 = .ok (.if_icmp .eq 23, 3) := by decide +kernel
theorem dX4_sum_159 : decode cX4_sum 159 = .ok (.aload_n 0, 1) := by decide +kernel
theorem dX4_sum_160 : decode cX4_sum 160 = .ok (.getfield 16, 3) := by decide +kernel
theorem dX4_sum_163 : decode cX4_sum 163 = .ok (.invokevirtual 84, 3) := by decide +kernel
theorem dX4_sum_166 : decode cX4_sum 166 = .ok (.ifCond .ne 13, 3) := by decide +kernel
theorem dX4_sum_169 : decode cX4_sum 169 = .ok (.aload_n 0, 1) := by decide +kernel
theorem dX4_sum_170 : decode cX4_sum 170 = .ok (.getfield 20, 3) := by decide +kernel
theorem dX4_sum_173 : decode cX4_sum 173 = .ok (.invokevirtual 84, 3) := by decide +kernel
theorem dX4_sum_176 : decode cX4_sum 176 = .ok (.ifCond .eq 121, 3) := by decide +kernel
theorem dX4_sum_179 : decode cX4_sum 179 = .ok (.iconst 0, 1) := by decide +kernel
theorem dX4_sum_180 : decode cX4_sum 180 = .ok (.istore 4, 2) := by decide +kernel
theorem dX4_sum_182 : decode cX4_sum 182 = .ok (.iconst 0, 1) := by decide +kernel
theorem dX4_sum_183 : decode cX4_sum 183 = .ok (.istore 5, 2) := by decide +kernel
theorem dX4_sum_185 : decode cX4_sum 185 = .ok (.iload 5, 2) := by decide +kernel
theorem dX4_sum_187 : decode cX4_sum 187 = .ok (.iload_n 3, 1) := by decide +kernel
theorem dX4_sum_188 : decode cX4_sum 188 = .ok (.if_icmp .ge 57, 3) := by decide +kernel
theorem dX4_sum_191 : decode cX4_sum 191 = .ok (.aload_n 0, 1) := by decide +kernel
theorem dX4_sum_192 : decode cX4_sum 192 = .ok (.getfield 16, 3) := by decide +kernel
theorem dX4_sum_195 : decode cX4_sum 195 = .ok (.getfield 58, 3) := by decide +kernel
theorem dX4_sum_198 : decode cX4_sum 198 = .ok (.iload 5, 2) := by decide +kernel
theorem dX4_sum_200 : decode cX4_sum 200 = .ok (.iaload, 1) := by decide +kernel
theorem dX4_sum_201 : decode cX4_sum 201 = .ok (.aload_n 0, 1) := by decide +kernel
theorem dX4_sum_202 : decode cX4_sum 202 = .ok (.getfield 20, 3) := by decide +kernel
theorem dX4_sum_205 : decode cX4_sum 205 = .ok (.getfield 58, 3) := by decide +kernel
theorem dX4_sum_208 : decode cX4_sum 208 = .ok (.iload 5, 2) := by decide +kernel
theorem dX4_sum_210 : decode cX4_sum 210 = .ok (.iaload, 1) := by decide +kernel
theorem dX4_sum_211 : decode cX4_sum 211 = .ok (.iadd, 1) := by decide +kernel
theorem dX4_sum_212 : decode cX4_sum 212 = .ok (.iload 4, 2) := by decide +kernel
theorem dX4_sum_214 : decode cX4_sum 214 = .ok (.iadd, 1) := by decide +kernel
theorem dX4_sum_215 : decode cX4_sum 215 = .ok (.istore 6, 2) := by decide +kernel
theorem dX4_sum_217 : decode cX4_sum 217 = .ok (.aload_n 0, 1) := by decide +kernel
theorem dX4_sum_218 : decode cX4_sum 218 = .ok (.getfield 23, 3) := by decide +kernel
theorem dX4_sum_221 : decode cX4_sum 221 = .ok (.getfield 58, 3) := by decide +kernel
theorem dX4_sum_224 : decode cX4_sum 224 = .ok (.iload 5, 2) := by decide +kernel
theorem dX4_sum_226 : decode cX4_sum 226 = .ok (.iload 6, 2) := by decide +kernel
theorem dX4_sum_228 : decode cX4_sum 228 = .ok (.bipush 10, 2) := by decide +kernel
theorem dX4_sum_230 : decode cX4_sum 230 = .ok (.irem, 1) := by decide +kernel
theorem dX4_sum_231 : decode cX4_sum 231 = .ok (.iastore, 1) := by decide +kernel
theorem dX4_sum_232 : decode cX4_sum 232 = .ok (.iload 6, 2) := by decide +kernel
theorem dX4_sum_234 : decode cX4_sum 234 = .ok (.bipush 10, 2) := by decide +kernel
theorem dX4_sum_236 : decode cX4_sum 236 = .ok (.idiv, 1) := by decide +kernel
theorem dX4_sum_237 : decode cX4_sum 237 = .ok (.istore 4, 2) := by decide +kernel
theorem dX4_sum_239 : decode cX4_sum 239 = .ok (.iinc 5 1, 3) := by decide +kernel
theorem dX4_sum_242 : decode cX4_sum 242 = .ok (.goto (-57), 3) := by decide +kernel
theorem dX4_sum_245 : decode cX4_sum 245 = .ok (.aload_n 0, 1) := by decide +kernel
theorem dX4_sum_246 : decode cX4_sum 246 = .ok (.getfield 23, 3) := by decide +kernel
theorem dX4_sum_249 : decode cX4_sum 249 = .ok (.getfield 58, 3) := by decide +kernel
theorem dX4_sum_252 : decode cX4_sum 252 = .ok (.iload_n 3, 1) := by decide +kernel
theorem dX4_sum_253 : decode cX4_sum 253 = .ok (.iload 4, 2) := by decide +kernel
theorem dX4_sum_255 : decode cX4_sum 255 = .ok (.iastore, 1) := by decide +kernel
theorem dX4_sum_256 : decode cX4_sum 256 = .ok (.aload_n 0, 1) := by decide +kernel
theorem dX4_sum_257 : decode cX4_sum 257 = .ok (.getfield 23, 3) := by decide +kernel
theorem dX4_sum_260 : decode cX4_sum 260 = .ok (.iload_n 3, 1) := by decide +kernel
theorem dX4_sum_261 : decode cX4_sum 261 = .ok (.iconst 1, 1) := by decide +kernel
theorem dX4_sum_262 : decode cX4_sum 262 = .ok (.iadd, 1) := by decide +kernel
theorem dX4_sum_263 : decode cX4_sum 263 = .ok (.putfield 37, 3) := by decide +kernel
theorem dX4_sum_266 : decode cX4_sum 266 = .ok (.aload_n 0, 1) := by decide +kernel
theorem dX4_sum_267 : decode cX4_sum 267 = .ok (.getfield 23, 3) := by decide +kernel
theorem dX4_sum_270 : decode cX4_sum 270 = .ok (.aload_n 0, 1) := by decide +kernel
theorem dX4_sum_271 : decode cX4_sum 271 = .ok (.getfield 16, 3) := by decide +kernel
theorem dX4_sum_274 : decode cX4_sum 274 = .ok (.invokevirtual 84, 3) := by decide +kernel
theorem dX4_sum_277 : decode cX4_sum 277 = .ok (.ifCond .eq 7, 3) := by decide +kernel
theorem dX4_sum_280 : decode cX4_sum 280 = .ok (.iload_n 2, 1) := by decide +kernel
theorem dX4_sum_281 : decode cX4_sum 281 = .ok (.goto 10, 3) := by decide +kernel
theorem dX4_sum_284 : decode cX4_sum 284 = .ok (.aload_n 0, 1) := by decide +kernel
theorem dX4_sum_285 : decode cX4_sum 285 = .ok (.getfield 16, 3) := by decide +kernel
theorem dX4_sum_288 : decode cX4_sum 288 = .ok (.getfield 61, 3) := by decide +kernel
theorem dX4_sum_291 : decode cX4_sum 291 = .ok (.putfield 61, 3) := by decide +kernel
theorem dX4_sum_294 : decode cX4_sum 294 = .ok (.goto 165, 3) := by decide +kernel
theorem dX4_sum_297 : decode cX4_sum 297 = .ok (.aload_n 0, 1) := by decide +kernel
theorem dX4_sum_298 : decode cX4_sum 298 = .ok (.getfield 16, 3) := by decide +kernel
theorem dX4_sum_301 : decode cX4_sum 301 = .ok (.aload_n 0, 1) := by decide +kernel
theorem dX4_sum_302 : decode cX4_sum 302 = .ok (.getfield 20, 3) := by decide +kernel
theorem dX4_sum_305 : decode cX4_sum 305 = .ok (.invokestatic 80, 3) := by decide +kernel
theorem dX4_sum_308 : decode cX4_sum 308 = .ok (.ifCond .ge 7, 3) := by decide +kernel
theorem dX4_sum_311 : decode cX4_sum 311 = .ok (.iconst 1, 1) := by decide +kernel
theorem dX4_sum_312 : decode cX4_sum 312 = .ok (.goto 4, 3) := by decide +kernel
theorem dX4_sum_315 : decode cX4_sum 315 = .ok (.iconst 0, 1) := by decide +kernel
theorem dX4_sum_316 : decode cX4_sum 316 = .ok (.istore 4, 2) := by decide +kernel
theorem dX4_sum_318 : decode cX4_sum 318 = .ok (.iconst 0, 1) := by decide +kernel
theorem dX4_sum_319 : decode cX4_sum 319 = .ok (.istore 5, 2) := by decide +kernel
theorem dX4_sum_321 : decode cX4_sum 321 = .ok (.iconst 0, 1) := by decide +kernel
theorem dX4_sum_322 : decode cX4_sum 322 = .ok (.istore 6, 2) := by decide +kernel
theorem dX4_sum_324 : decode cX4_sum 324 = .ok (.iload 6, 2) := by decide +kernel
theorem dX4_sum_326 : decode cX4_sum 326 = .ok (.iload_n 3, 1) := by decide +kernel
theorem dX4_sum_327 : decode cX4_sum 327 = .ok (.if_icmp .ge 101, 3) := by decide +kernel
theorem dX4_sum_330 : decode cX4_sum 330 = .ok (.iload 4, 2) := by decide +kernel
theorem dX4_sum_332 : decode cX4_sum 332 = .ok (.ifCond .eq 27, 3) := by decide +kernel
theorem dX4_sum_335 : decode cX4_sum 335 = .ok (.aload_n 0, 1) := by decide +kernel
theorem dX4_sum_336 : decode cX4_sum 336 = .ok (.getfield 20, 3) := by decide +kernel
theorem dX4_sum_339 : decode cX4_sum 339 = .ok (.getfield 58, 3) := by decide +kernel
theorem dX4_sum_342 : decode cX4_sum 342 = .ok (.iload 6, 2) := by decide +kernel
theorem dX4_sum_344 : decode cX4_sum 344 = .ok (.iaload, 1) := by decide +kernel
theorem dX4_sum_345 : decode cX4_sum 345 = .ok (.aload_n 0, 1) := by decide +kernel
theorem dX4_sum_346 : decode cX4_sum 346 = .ok (.getfield 16, 3) := by decide +kernel
theorem dX4_sum_349 : decode cX4_sum 349 = .ok (.getfield 58, 3) := by decide +kernel
theorem dX4_sum_352 : decode cX4_sum 352 = .ok (.iload 6, 2) := by decide +kernel
theorem dX4_sum_354 : decode cX4_sum 354 = .ok (.iaload, 1) := by decide +kernel
theorem dX4_sum_355 : decode cX4_sum 355 = .ok (.isub, 1) := by decide +kernel
theorem dX4_sum_356 : decode cX4_sum 356 = .ok (.goto 24, 3) := by decide +kernel
theorem dX4_sum_359 : decode cX4_sum 359 = .ok (.aload_n 0, 1) := by decide +kernel
theorem dX4_sum_360 : decode cX4_sum 360 = .ok (.getfield 16, 3) := by decide +kernel
theorem dX4_sum_363 : decode cX4_sum 363 = .ok (.getfield 58, 3) := by decide +kernel
theorem dX4_sum_366 : decode cX4_sum 366 = .ok (.iload 6, 2) := by decide +kernel
theorem dX4_sum_368 : decode cX4_sum 368 = .ok (.iaload, 1) := by decide +kernel
theorem dX4_sum_369 : decode cX4_sum 369 = .ok (.aload_n 0, 1) := by decide +kernel
theorem dX4_sum_370 : decode cX4_sum 370 = .ok (.getfield 20, 3) := by decide +kernel
theorem dX4_sum_373 : decode cX4_sum 373 = .ok (.getfield 58, 3) := by decide +kernel
theorem dX4_sum_376 : decode cX4_sum 376 = .ok (.iload 6, 2) := by decide +kernel
theorem dX4_sum_378 : decode cX4_sum 378 = .ok (.iaload, 1) := by decide +kernel
theorem dX4_sum_379 : decode cX4_sum 379 = .ok (.isub, 1) := by decide +kernel
theorem dX4_sum_380 : decode cX4_sum 380 = .ok (.iload 5, 2) := by decide +kernel
theorem dX4_sum_382 : decode cX4_sum 382 = .ok (.isub, 1) := by decide +kernel
theorem dX4_sum_383 : decode cX4_sum 383 = .ok (.istore 7, 2) := by decide +kernel
theorem dX4_sum_385 : decode cX4_sum 385 = .ok (.iload 7, 2) := by decide +kernel
theorem dX4_sum_387 : decode cX4_sum 387 = .ok (.ifCond .ge 7, 3) := by decide +kernel
theorem dX4_sum_390 : decode cX4_sum 390 = .ok (.iconst 1, 1) := by decide +kernel
theorem dX4_sum_391 : decode cX4_sum 391 = .ok (.goto 4, 3) := by decide +kernel
theorem dX4_sum_394 : decode cX4_sum 394 = .ok (.iconst 0, 1) := by decide +kernel
theorem dX4_sum_395 : decode cX4_sum 395 = .ok (.istore 5, 2) := by decide +kernel
theorem dX4_sum_397 : decode cX4_sum 397 = .ok (.aload_n 0, 1) := by decide +kernel
theorem dX4_sum_398 : decode cX4_sum 398 = .ok (.getfield 23, 3) := by decide +kernel
theorem dX4_sum_401 : decode cX4_sum 401 = .ok (.getfield 58, 3) := by decide +kernel
theorem dX4_sum_404 : decode cX4_sum 404 = .ok (.iload 6, 2) := by decide +kernel
theorem dX4_sum_406 : decode cX4_sum 406 = .ok (.iload 7, 2) := by decide +kernel
theorem dX4_sum_408 : decode cX4_sum 408 = .ok (.ifCond .ge 11, 3) := by decide +kernel
theorem dX4_sum_411 : decode cX4_sum 411 = .ok (.iload 7, 2) := by decide +kernel
theorem dX4_sum_413 : decode cX4_sum 413 = .ok (.bipush 10, 2) := by decide +kernel
theorem dX4_sum_415 : decode cX4_sum 415 = .ok (.iadd, 1) := by decide +kernel
theorem dX4_sum_416 : decode cX4_sum 416 = .ok (.goto 5, 3) := by decide +kernel
theorem dX4_sum_419 : decode cX4_sum 419 = .ok (.iload 7, 2) := by decide +kernel
theorem dX4_sum_421 : decode cX4_sum 421 = .ok (.iastore, 1) := by decide +kernel
theorem dX4_sum_422 : decode cX4_sum 422 = .ok (.iinc 6 1, 3) := by decide +kernel
theorem dX4_sum_425 : decode cX4_sum 425 = .ok (.goto (-101), 3) := by decide +kernel
theorem dX4_sum_428 : decode cX4_sum 428 = .ok (.aload_n 0, 1) := by decide +kernel
theorem dX4_sum_429 : decode cX4_sum 429 = .ok (.getfield 23, 3) := by decide +kernel
theorem dX4_sum_432 : decode cX4_sum 432 = .ok (.iload_n 3, 1) := by decide +kernel
theorem dX4_sum_433 : decode cX4_sum 433 = .ok (.putfield 37, 3) := by decide +kernel
theorem dX4_sum_436 : decode cX4_sum 436 = .ok (.aload_n 0, 1) := by decide +kernel
theorem dX4_sum_437 : decode cX4_sum 437 = .ok (.getfield 23, 3) := by decide +kernel
theorem dX4_sum_440 : decode cX4_sum 440 = .ok (.iload 4, 2) := by decide +kernel
theorem dX4_sum_442 : decode cX4_sum 442 = .ok (.ifCond .eq 7, 3) := by decide +kernel
theorem dX4_sum_445 : decode cX4_sum 445 = .ok (.iload_n 2, 1) := by decide +kernel
theorem dX4_sum_446 : decode cX4_sum 446 = .ok (.goto 10, 3) := by decide +kernel
theorem dX4_sum_449 : decode cX4_sum 449 = .ok (.aload_n 0, 1) := by decide +kernel
theorem dX4_sum_450 : decode cX4_sum 450 = .ok (.getfield 16, 3) := by decide +kernel
theorem dX4_sum_453 : decode cX4_sum 453 = .ok (.getfield 61, 3) := by decide +kernel
theorem dX4_sum_456 : decode cX4_sum 456 = .ok (.putfield 61, 3) := by decide +kernel
theorem dX4_sum_459 : decode cX4_sum 459 = .ok (.aload_n 0, 1) := by decide +kernel
theorem dX4_sum_460 : decode cX4_sum 460 = .ok (.getfield 23, 3) := by decide +kernel
theorem dX4_sum_463 : decode cX4_sum 463 = .ok (.invokevirtual 65, 3) := by decide +kernel
theorem dX4_sum_466 : decode cX4_sum 466 = .ok (.return_, 1) := by decide +kernel
set_option maxRecDepth 20000 in
theorem ggX4_product_X3_trim : GoodIn wsX4_product wsX3_trim := goodIn_r _ [9, 10, 11, 12, 13, 14, 15, 8, 16, 17, 18, 19, 20] (by decide +kernel) (by decide +kernel)
set_option maxRecDepth 20000 in
theorem gX4_product_X3_trim : GoodIn wsX4_product (wsV RX4 65 RX3 yX3_trim wsX3_trim) := goodIn_app (goodIn_of _ (by decide +kernel)) ggX4_product_X3_trim
theorem dX4_product_0 : decode cX4_product 0 = .ok (.iconst 0, 1) := by decide +kernel
theorem dX4_product_1 : decode cX4_product 1 = .ok (.istore_n 3, 1) := by decide +kernel
theorem dX4_product_2 : decode cX4_product 2 = .ok (.iload_n 3, 1) := by decide +kernel
theorem dX4_product_3 : decode cX4_product 3 = .ok (.aload_n 0, 1) := by decide +kernel
theorem dX4_product_4 : decode cX4_product 4 = .ok (.getfield 37, 3) := by decide +kernel
theorem dX4_product_7 : decode cX4_product 7 = .ok (.aload_n 1, 1) := by decide +kernel
theorem dX4_product_8 : decode cX4_product 8 = .ok (.getfield 37, 3) := by decide +kernel
theorem dX4_product_11 : decode cX4_product 11 = .ok (.iadd, 1) := by decide +kernel
theorem dX4_product_12 : decode cX4_product 12 = .ok (.if_icmp .ge 16, 3) := by decide +kernel
theorem dX4_product_15 : decode cX4_product 15 = .ok (.aload_n 2, 1) := by decide +kernel
theorem dX4_product_16 : decode cX4_product 16 = .ok (.getfield 58, 3) := by decide +kernel
theorem dX4_product_19 : decode cX4_product 19 = .ok (.iload_n 3, 1) := by decide +kernel
theorem dX4_product_20 : decode cX4_product 20 = .ok (.iconst 0, 1) := by decide +kernel
theorem dX4_product_21 : decode cX4_product 21 = .ok (.iastore, 1) := by decide +kernel
theorem dX4_product_22 : decode cX4_product 22 = .ok (.iinc 3 1, 3) := by decide +kernel
theorem dX4_product_25 : decode cX4_product 25 = .ok (.goto (-23), 3) := by decide +kernel
theorem dX4_product_28 : decode cX4_product 28 = .ok (.iconst 0, 1) := by decide +kernel
theorem dX4_product_29 : decode cX4_product 29 = .ok (.istore_n 3, 1) := by decide +kernel
theorem dX4_product_30 : decode cX4_product 30 = .ok (.iload_n 3, 1) := by decide +kernel
theorem dX4_product_31 : decode cX4_product 31 = .ok (.aload_n 0, 1) := by decide +kernel
theorem dX4_product_32 : decode cX4_product 32 = .ok (.getfield 37, 3) := by decide +kernel
theorem dX4_product_35 : decode cX4_product 35 = .ok (.if_icmp .ge 93, 3) := by decide +kernel
theorem dX4_product_38 : decode cX4_product 38 = .ok (.iconst 0, 1) := by decide +kernel
theorem dX4_product_39 : decode cX4_product 39 = .ok (.istore 4, 2) := by decide +kernel
theorem dX4_product_41 : decode cX4_product 41 = .ok (.iconst 0, 1) := by decide +kernel
theorem dX4_product_42 : decode cX4_product 42 = .ok (.istore 5, 2) := by decide +kernel
theorem dX4_product_44 : decode cX4_product 44 = .ok (.iload 5, 2) := by decide +kernel
theorem dX4_product_46 : decode cX4_product 46 = .ok (.aload_n 1, 1) := by decide +kernel
theorem dX4_product_47 : decode cX4_product 47 = .ok (.getfield 37, 3) := by decide +kernel
theorem dX4_product_50 : decode cX4_product 50 = .ok (.if_icmp .ge 59, 3) := by decide +kernel
theorem dX4_product_53 : decode cX4_product 53 = .ok (.aload_n 2, 1) := by decide +kernel
theorem dX4_product_54 : decode cX4_product 54 = .ok (.getfield 58, 3) := by decide +kernel
theorem dX4_product_57 : decode cX4_product 57 = .ok (.iload_n 3, 1) := by decide +kernel
theorem dX4_product_58 : decode cX4_product 58 = .ok (.iload 5, 2) := by decide +kernel
theorem dX4_product_60 : decode cX4_product 60 = .ok (.iadd, 1) := by decide +kernel
theorem dX4_product_61 : decode cX4_product 61 = .ok (.iaload, 1) := by decide +kernel
theorem dX4_product_62 : decode cX4_product 62 = .ok (.aload_n 0, 1) := by decide +kernel
theorem dX4_product_63 : decode cX4_product 63 = .ok (.getfield 58, 3) := by decide +kernel
theorem dX4_product_66 : decode cX4_product 66 = .ok (.iload_n 3, 1) := by decide +kernel
theorem dX4_product_67 : decode cX4_product 67 = .ok (.iaload, 1) := by decide +kernel
theorem dX4_product_68 : decode cX4_product 68 = .ok (.aload_n 1, 1) := by decide +kernel
theorem dX4_product_69 : decode cX4_product 69 = .ok (.getfield 58, 3) := by decide +kernel
theorem dX4_product_72 : decode cX4_product 72 = .ok (.iload 5, 2) := by decide +kernel
theorem dX4_product_74 : decode cX4_product 74 = .ok (.iaload, 1) := by decide +kernel
theorem dX4_product_75 : decode cX4_product 75 = .ok (.imul, 1) := by decide +kernel
theorem dX4_product_76 : decode cX4_product 76 = .ok (.iadd, 1) := by decide +kernel
theorem dX4_product_77 : decode cX4_product 77 = .ok (.iload 4, 2) := by decide +kernel
theorem dX4_product_79 : decode cX4_product 79 = .ok (.iadd, 1) := by decide +kernel
theorem dX4_product_80 : decode cX4_product 80 = .ok (.istore 6, 2) := by decide +kernel
theorem dX4_product_82 : decode cX4_product 82 = .ok (.aload_n 2, 1) := by decide +kernel
theorem dX4_product_83 : decode cX4_product 83 = .ok (.getfield 58, 3) := by decide +kernel
theorem dX4_product_86 : decode cX4_product 86 = .ok (.iload_n 3, 1) := by decide +kernel
theorem dX4_product_87 : decode cX4_product 87 = .ok (.iload 5, 2) := by decide +kernel
theorem dX4_product_89 : decode cX4_product 89 = .ok (.iadd, 1) := by decide +kernel
theorem dX4_product_90 : decode cX4_product 90 = .ok (.iload 6, 2) := by decide +kernel
theorem dX4_product_92 : decode cX4_product 92 = .ok (.bipush 10, 2) := by decide +kernel
theorem dX4_product_94 : decode cX4_product 94 = .ok (.irem, 1) := by decide +kernel
theorem dX4_product_95 : decode cX4_product 95 = .ok (.iastore, 1) := by decide +kernel
theorem dX4_product_96 : decode cX4_product 96 = .ok (.iload 6, 2) := by decide +kernel
theorem dX4_product_98 : decode cX4_product 98 = .ok (.bipush 10, 2) := by decide +kernel
theorem dX4_product_100 : decode cX4_product 100 = .ok (.idiv, 1) := by decide +kernel
theorem dX4_product_101 : decode cX4_product 101 = .ok (.istore 4, 2) := by decide +kernel
theorem dX4_product_103 : decode cX4_product 103 = .ok (.iinc 5 1, 3) := by decide +kernel
theorem dX4_product_106 : decode cX4_product 106 = .ok (.goto (-62), 3) := by decide +kernel
theorem dX4_product_109 : decode cX4_product 109 = .ok (.aload_n 2, 1) := by decide +kernel
theorem dX4_product_110 : decode cX4_product 110 = .ok (.getfield 58, 3) := by decide +kernel
theorem dX4_product_113 : decode cX4_product 113 = .ok (.iload_n 3, 1) := by decide +kernel
theorem dX4_product_114 : decode cX4_product 114 = .ok (.aload_n 1, 1) := by decide +kernel
theorem dX4_product_115 : decode cX4_product 115 = .ok (.getfield 37, 3) := by decide +kernel
theorem dX4_product_118 : decode cX4_product 118 = .ok (.iadd, 1) := by decide +kernel
theorem dX4_product_119 : decode cX4_product 119 = .ok (.iload 4, 2) := by decide +kernel
theorem dX4_product_121 : decode cX4_product 121 = .ok (.iastore, 1) := by decide +kernel
theorem dX4_product_122 : decode cX4_product 122 = .ok (.iinc 3 1, 3) := by decide +kernel
theorem dX4_product_125 : decode cX4_product 125 = .ok (.goto (-95), 3) := by decide +kernel
theorem dX4_product_128 : decode cX4_product 128 = .ok (.aload_n 2, 1) := by decide +kernel
theorem dX4_product_129 : decode cX4_product 129 = .ok (.aload_n 0, 1) := by decide +kernel
theorem dX4_product_130 : decode cX4_product 130 = .ok (.getfield 37, 3) := by decide +kernel
theorem dX4_product_133 : decode cX4_product 133 = .ok (.aload_n 1, 1) := by decide +kernel
theorem dX4_product_134 : decode cX4_product 134 = .ok (.getfield 37, 3) := by decide +kernel
theorem dX4_product_137 : decode cX4_product 137 = .ok (.iadd, 1) := by decide +kernel
theorem dX4_product_138 : decode cX4_product 138 = .ok (.putfield 37, 3) := by decide +kernel
theorem dX4_product_141 : decode cX4_product 141 = .ok (.aload_n 2, 1) := by decide +kernel
theorem dX4_product_142 : decode cX4_product 142 = .ok (.aload_n 0, 1) := by decide +kernel
theorem dX4_product_143 : decode cX4_product 143 = .ok (.getfield 61, 3) := by decide +kernel
theorem dX4_product_146 : decode cX4_product 146 = .ok (.aload_n 1, 1) := by decide +kernel
theorem dX4_product_147 : decode cX4_product 147 = .ok (.getfield 61, 3) := by decide +kernel
theorem dX4_product_150 : decode cX4_product 150 = .ok (.if_icmp .eq 7, 3) := by decide +kernel
theorem dX4_product_153 : decode cX4_product 153 = .ok (.iconst 1, 1) := by decide +kernel
theorem dX4_product_154 : decode cX4_product 154 = .ok (.goto 4, 3) := by decide +kernel
theorem dX4_product_157 : decode cX4_product 157 = .ok (.iconst 0, 1) := by decide +kernel
theorem dX4_product_158 : decode cX4_product 158 = .ok (.putfield 61, 3) := by decide +kernel
theorem dX4_product_161 : decode cX4_product 161 = .ok (.aload_n 2, 1) := by decide +kernel
theorem dX4_product_162 : decode cX4_product 162 = .ok (.aload_n 0, 1) := by decide +kernel
theorem dX4_product_163 : decode cX4_product 163 = .ok (.getfield 41, 3) := by decide +kernel
theorem dX4_product_166 : decode cX4_product 166 = .ok (.aload_n 1, 1) := by decide +kernel
theorem dX4_product_167 : decode cX4_product 167 = .ok (.getfield 41, 3) := by decide +kernel
theorem dX4_product_170 : decode cX4_product 170 = .ok (.iadd, 1) := by decide +kernel
theorem dX4_product_171 : decode cX4_product 171 = .ok (.putfield 41, 3) := by decide +kernel
theorem dX4_product_174 : decode cX4_product 174 = .ok (.aload_n 2, 1) := by decide +kernel
theorem dX4_product_175 : decode cX4_product 175 = .ok (.invokevirtual 65, 3) := by decide +kernel
theorem dX4_product_178 : decode cX4_product 178 = .ok (.return_, 1) := by decide +kernel
set_option maxRecDepth 20000 in
theorem ggX4_reckon_X4_is : GoodIn wsX4_reckon wsX4_is := goodIn_r _ [7] (by decide +kernel) (by decide +kernel)
set_option maxRecDepth 20000 in
theorem gX4_reckon_X4_is : GoodIn wsX4_reckon (va_wsS RX4 52 yX4_is wsX4_is) := goodIn_app (goodIn_of _ (by decide +kernel)) ggX4_reckon_X4_is
set_option maxRecDepth 20000 in
theorem ggX4_reckon_X4_order : GoodIn wsX4_reckon wsX4_order := goodIn_r _ [11, 1, 12, 13, 14, 15, 16, 6, 17, 2, 18, 19, 20, 21, 22, 23, 24, 25, 26, 27, 28, 29, 30, 31, 32, 33, 34, 35, 36, 37, 38, 39, 40, 62, 63, 64, 65, 66, 67, 68, 69, 70, 71, 72] (by decide +kernel) (by decide +kernel)
set_option maxRecDepth 20000 in
theorem gX4_reckon_X4_order : GoodIn wsX4_reckon (wsV RX4 88 RX4 yX4_order wsX4_order) := goodIn_app (goodIn_of _ (by decide +kernel)) ggX4_reckon_X4_order
set_option maxRecDepth 20000 in
theorem ggX4_reckon_X3_take : GoodIn wsX4_reckon wsX3_take := goodIn_r _ [23, 24, 25, 26, 27, 69, 70, 71, 72] (by decide +kernel) (by decide +kernel)
set_option maxRecDepth 20000 in
theorem gX4_reckon_X3_take : GoodIn wsX4_reckon (wsV RX4 48 RX3 yX3_take wsX3_take) := goodIn_app (goodIn_of _ (by decide +kernel)) ggX4_reckon_X3_take
set_option maxRecDepth 20000 in
theorem ggX4_reckon_X4_keep : GoodIn wsX4_reckon wsX4_keep := goodIn_r _ [44, 39, 18, 2, 45, 46, 6, 47, 48, 49, 19, 20, 21, 22, 23, 24, 25, 26, 27, 69, 70, 71, 72, 62, 63, 64, 65, 66, 67, 68] (by decide +kernel) (by decide +kernel)
set_option maxRecDepth 20000 in
theorem gX4_reckon_X4_keep : GoodIn wsX4_reckon (wsV RX4 68 RX4 yX4_keep wsX4_keep) := goodIn_app (goodIn_of _ (by decide +kernel)) ggX4_reckon_X4_keep
set_option maxRecDepth 20000 in
theorem ggX4_reckon_X4_product : GoodIn wsX4_reckon wsX4_product := goodIn_r _ [52, 39, 40, 12, 18, 53, 54, 55, 22, 56, 24, 27, 25, 32, 33, 34, 35, 69, 70, 71, 72] (by decide +kernel) (by decide +kernel)
set_option maxRecDepth 20000 in
theorem gX4_reckon_X4_product : GoodIn wsX4_reckon (va_wsS RX4 92 yX4_product wsX4_product) := goodIn_app (goodIn_of _ (by decide +kernel)) ggX4_reckon_X4_product
set_option maxRecDepth 20000 in
theorem ggX4_reckon_X4_align : GoodIn wsX4_reckon wsX4_align := goodIn_r _ [17, 1, 2, 13, 18, 19, 20, 21, 22, 23, 24, 25, 26, 27, 28, 29, 30, 31, 32, 33, 34, 35, 62, 63, 64, 65, 66, 67, 68, 69, 70, 71, 72] (by decide +kernel) (by decide +kernel)
set_option maxRecDepth 20000 in
theorem gX4_reckon_X4_align : GoodIn wsX4_reckon (wsV RX4 76 RX4 yX4_align wsX4_align) := goodIn_app (goodIn_of _ (by decide +kernel)) ggX4_reckon_X4_align
set_option maxRecDepth 20000 in
theorem ggX4_reckon_X4_sum : GoodIn wsX4_reckon wsX4_sum := goodIn_r _ [60, 13, 12, 3, 1, 18, 39, 40, 61, 33, 34, 22, 35, 24, 27, 36, 37, 6, 38, 53, 54, 55, 56, 25, 32, 62, 63, 64, 65, 66, 67, 68, 69, 70, 71, 72] (by decide +kernel) (by decide +kernel)
set_option maxRecDepth 20000 in
theorem gX4_reckon_X4_sum : GoodIn wsX4_reckon (wsV RX4 96 RX4 yX4_sum wsX4_sum) := goodIn_app (goodIn_of _ (by decide +kernel)) ggX4_reckon_X4_sum
theorem dX4_reckon_0 : decode cX4_reckon 0 = .ok (.iload_n 2, 1) := by decide +kernel
theorem dX4_reckon_1 : decode cX4_reckon 1 = .ok (.invokestatic 52, 3) := by decide +kernel
theorem dX4_reckon_4 : decode cX4_reckon 4 = .ok (.ifCond .eq 27, 3) := by decide +kernel
theorem dX4_reckon_7 : decode cX4_reckon 7 = .ok (.iload_n 3, 1) := by decide +kernel
theorem dX4_reckon_8 : decode cX4_reckon 8 = .ok (.invokestatic 52, 3) := by decide +kernel
theorem dX4_reckon_11 : decode cX4_reckon 11 = .ok (.ifCond .eq 20, 3) := by decide +kernel
theorem dX4_reckon_14 : decode cX4_reckon 14 = .ok (.iload 4, 2) := by decide +kernel
theorem dX4_reckon_16 : decode cX4_reckon 16 = .ok (.invokestatic 52, 3) := by decide +kernel
theorem dX4_reckon_19 : decode cX4_reckon 19 = .ok (.ifCond .eq 12, 3) := by decide +kernel
theorem dX4_reckon_22 : decode cX4_reckon 22 = .ok (.iload_n 1, 1) := by decide +kernel
theorem dX4_reckon_23 : decode cX4_reckon 23 = .ok (.ifCond .lt 8, 3) := by decide +kernel
theorem dX4_reckon_26 : decode cX4_reckon 26 = .ok (.iload_n 1, 1) := by decide +kernel
theorem dX4_reckon_27 : decode cX4_reckon 27 = .ok (.iconst 4, 1) := by decide +kernel
theorem dX4_reckon_28 : decode cX4_reckon 28 = .ok (.if_icmp .le 5, 3) := by decide +kernel
theorem dX4_reckon_31 : decode cX4_reckon 31 = .ok (.iconst (-1), 1) := by decide +kernel
theorem dX4_reckon_32 : decode cX4_reckon 32 = .ok (.ireturn, 1) := by decide +kernel
theorem dX4_reckon_33 : decode cX4_reckon 33 = .ok (.iload_n 1, 1) := by decide +kernel
theorem dX4_reckon_34 : decode cX4_reckon 34 = .ok (.iconst 2, 1) := by decide +kernel
theorem dX4_reckon_35 : decode cX4_reckon 35 = .ok (.if_icmp .le 75, 3) := by decide +kernel
theorem dX4_reckon_38 : decode cX4_reckon 38 = .ok (.aload_n 0, 1) := by decide +kernel
theorem dX4_reckon_39 : decode cX4_reckon 39 = .ok (.iload_n 3, 1) := by decide +kernel
theorem dX4_reckon_40 : decode cX4_reckon 40 = .ok (.iload 4, 2) := by decide +kernel
theorem dX4_reckon_42 : decode cX4_reckon 42 = .ok (.invokevirtual 88, 3) := by decide +kernel
theorem dX4_reckon_45 : decode cX4_reckon 45 = .ok (.istore 5, 2) := by decide +kernel
theorem dX4_reckon_47 : decode cX4_reckon 47 = .ok (.iload_n 1, 1) := by decide +kernel
theorem dX4_reckon_48 : decode cX4_reckon 48 = .ok (.iconst 3, 1) := by decide +kernel
theorem dX4_reckon_49 : decode cX4_reckon 49 = .ok (.if_icmp .ne 16, 3) := by decide +kernel
theorem dX4_reckon_52 : decode cX4_reckon 52 = .ok (.iload 5, 2) := by decide +kernel
theorem dX4_reckon_54 : decode cX4_reckon 54 = .ok (.ifCond .ge 7, 3) := by decide +kernel
theorem dX4_reckon_57 : decode cX4_reckon 57 = .ok (.iconst 1, 1) := by decide +kernel
theorem dX4_reckon_58 : decode cX4_reckon 58 = .ok (.goto 17, 3) := by decide +kernel
theorem dX4_reckon_61 : decode cX4_reckon 61 = .ok (.iconst 0, 1) := by decide +kernel
theorem dX4_reckon_62 : decode cX4_reckon 62 = .ok (.goto 13, 3) := by decide +kernel
theorem dX4_reckon_65 : decode cX4_reckon 65 = .ok (.iload 5, 2) := by decide +kernel
theorem dX4_reckon_67 : decode cX4_reckon 67 = .ok (.ifCond .le 7, 3) := by decide +kernel
theorem dX4_reckon_70 : decode cX4_reckon 70 = .ok (.iconst 1, 1) := by decide +kernel
theorem dX4_reckon_71 : decode cX4_reckon 71 = .ok (.goto 4, 3) := by decide +kernel
theorem dX4_reckon_74 : decode cX4_reckon 74 = .ok (.iconst 0, 1) := by decide +kernel
theorem dX4_reckon_75 : decode cX4_reckon 75 = .ok (.istore 6, 2) := by decide +kernel
theorem dX4_reckon_77 : decode cX4_reckon 77 = .ok (.aload_n 0, 1) := by decide +kernel
theorem dX4_reckon_78 : decode cX4_reckon 78 = .ok (.getfield 16, 3) := by decide +kernel
theorem dX4_reckon_81 : decode cX4_reckon 81 = .ok (.aload_n 0, 1) := by decide +kernel
theorem dX4_reckon_82 : decode cX4_reckon 82 = .ok (.getfield 9, 3) := by decide +kernel
theorem dX4_reckon_85 : decode cX4_reckon 85 = .ok (.iload 6, 2) := by decide +kernel
theorem dX4_reckon_87 : decode cX4_reckon 87 = .ok (.ifCond .eq 8, 3) := by decide +kernel
theorem dX4_reckon_90 : decode cX4_reckon 90 = .ok (.iload 4, 2) := by decide +kernel
theorem dX4_reckon_92 : decode cX4_reckon 92 = .ok (.goto 4, 3) := by decide +kernel
theorem dX4_reckon_95 : decode cX4_reckon 95 = .ok (.iload_n 3, 1) := by decide +kernel
theorem dX4_reckon_96 : decode cX4_reckon 96 = .ok (.aaload, 1) := by decide +kernel
theorem dX4_reckon_97 : decode cX4_reckon 97 = .ok (.invokevirtual 48, 3) := by decide +kernel
theorem dX4_reckon_100 : decode cX4_reckon 100 = .ok (.aload_n 0, 1) := by decide +kernel
theorem dX4_reckon_101 : decode cX4_reckon 101 = .ok (.iload_n 2, 1) := by decide +kernel
theorem dX4_reckon_102 : decode cX4_reckon 102 = .ok (.aload_n 0, 1) := by decide +kernel
theorem dX4_reckon_103 : decode cX4_reckon 103 = .ok (.getfield 16, 3) := by decide +kernel
theorem dX4_reckon_106 : decode cX4_reckon 106 = .ok (.invokevirtual 68, 3) := by decide +kernel
theorem dX4_reckon_109 : decode cX4_reckon 109 = .ok (.ireturn, 1) := by decide +kernel
theorem dX4_reckon_110 : decode cX4_reckon 110 = .ok (.iload_n 1, 1) := by decide +kernel
theorem dX4_reckon_111 : decode cX4_reckon 111 = .ok (.iconst 2, 1) := by decide +kernel
theorem dX4_reckon_112 : decode cX4_reckon 112 = .ok (.if_icmp .ne 26, 3) := by decide +kernel
theorem dX4_reckon_115 : decode cX4_reckon 115 = .ok (.aload_n 0, 1) := by decide +kernel
theorem dX4_reckon_116 : decode cX4_reckon 116 = .ok (.getfield 9, 3) := by decide +kernel
theorem dX4_reckon_119 : decode cX4_reckon 119 = .ok (.iload_n 3, 1) := by decide +kernel
theorem dX4_reckon_120 : decode cX4_reckon 120 = .ok (.aaload, 1) := by decide +kernel
theorem dX4_reckon_121 : decode cX4_reckon 121 = .ok (.aload_n 0, 1) := by decide +kernel
theorem dX4_reckon_122 : decode cX4_reckon 122 = .ok (.getfield 9, 3) := by decide +kernel
theorem dX4_reckon_125 : decode cX4_reckon 125 = .ok (.iload 4, 2) := by decide +kernel
theorem dX4_reckon_127 : decode cX4_reckon 127 = .ok (.aaload, 1) := by decide +kernel
theorem dX4_reckon_128 : decode cX4_reckon 128 = .ok (.aload_n 0, 1) := by decide +kernel
theorem dX4_reckon_129 : decode cX4_reckon 129 = .ok (.getfield 23, 3) := by decide +kernel
theorem dX4_reckon_132 : decode cX4_reckon 132 = .ok (.invokestatic 92, 3) := by decide +kernel
theorem dX4_reckon_135 : decode cX4_reckon 135 = .ok (.goto 24, 3) := by decide +kernel
theorem dX4_reckon_138 : decode cX4_reckon 138 = .ok (.aload_n 0, 1) := by decide +kernel
theorem dX4_reckon_139 : decode cX4_reckon 139 = .ok (.iload_n 3, 1) := by decide +kernel
theorem dX4_reckon_140 : decode cX4_reckon 140 = .ok (.iload 4, 2) := by decide +kernel
theorem dX4_reckon_142 : decode cX4_reckon 142 = .ok (.invokevirtual 76, 3) := by decide +kernel
theorem dX4_reckon_145 : decode cX4_reckon 145 = .ok (.aload_n 0, 1) := by decide +kernel
theorem dX4_reckon_146 : decode cX4_reckon 146 = .ok (.iload_n 1, 1) := by decide +kernel
theorem dX4_reckon_147 : decode cX4_reckon 147 = .ok (.iconst 1, 1) := by decide +kernel
theorem dX4_reckon_148 : decode cX4_reckon 148 = .ok (.if_icmp .ne 7, 3) := by decide +kernel
theorem dX4_reckon_151 : decode cX4_reckon 151 = .ok (.iconst 1, 1) := by decide +kernel
theorem dX4_reckon_152 : decode cX4_reckon 152 = .ok (.goto 4, 3) := by decide +kernel
theorem dX4_reckon_155 : decode cX4_reckon 155 = .ok (.iconst 0, 1) := by decide +kernel
theorem dX4_reckon_156 : decode cX4_reckon 156 = .ok (.invokevirtual 96, 3) := by decide +kernel
theorem dX4_reckon_159 : decode cX4_reckon 159 = .ok (.aload_n 0, 1) := by decide +kernel
theorem dX4_reckon_160 : decode cX4_reckon 160 = .ok (.iload_n 2, 1) := by decide +kernel
theorem dX4_reckon_161 : decode cX4_reckon 161 = .ok (.aload_n 0, 1) := by decide +kernel
theorem dX4_reckon_162 : decode cX4_reckon 162 = .ok (.getfield 23, 3) := by decide +kernel
theorem dX4_reckon_165 : decode cX4_reckon 165 = .ok (.invokevirtual 68, 3) := by decide +kernel
theorem dX4_reckon_168 : decode cX4_reckon 168 = .ok (.ireturn, 1) := by decide +kernel
set_option maxRecDepth 20000 in
theorem ggX4_over_X4_sizes : GoodIn wsX4_over wsX4_sizes := goodIn_r _ [10, 3, 5, 18, 19, 20, 21] (by decide +kernel) (by decide +kernel)
set_option maxRecDepth 20000 in
theorem gX4_over_X4_sizes : GoodIn wsX4_over (va_wsS RX4 80 yX4_sizes wsX4_sizes) := goodIn_app (goodIn_of _ (by decide +kernel)) ggX4_over_X4_sizes
theorem dX4_over_0 : decode cX4_over 0 = .ok (.aload_n 0, 1) := by decide +kernel
theorem dX4_over_1 : decode cX4_over 1 = .ok (.getfield 23, 3) := by decide +kernel
theorem dX4_over_4 : decode cX4_over 4 = .ok (.aload_n 0, 1) := by decide +kernel
theorem dX4_over_5 : decode cX4_over 5 = .ok (.getfield 16, 3) := by decide +kernel
theorem dX4_over_8 : decode cX4_over 8 = .ok (.getfield 37, 3) := by decide +kernel
theorem dX4_over_11 : decode cX4_over 11 = .ok (.putfield 37, 3) := by decide +kernel
theorem dX4_over_14 : decode cX4_over 14 = .ok (.aload_n 0, 1) := by decide +kernel
theorem dX4_over_15 : decode cX4_over 15 = .ok (.getfield 26, 3) := by decide +kernel
theorem dX4_over_18 : decode cX4_over 18 = .ok (.iconst 1, 1) := by decide +kernel
theorem dX4_over_19 : decode cX4_over 19 = .ok (.putfield 37, 3) := by decide +kernel
theorem dX4_over_22 : decode cX4_over 22 = .ok (.aload_n 0, 1) := by decide +kernel
theorem dX4_over_23 : decode cX4_over 23 = .ok (.getfield 26, 3) := by decide +kernel
theorem dX4_over_26 : decode cX4_over 26 = .ok (.getfield 58, 3) := by decide +kernel
theorem dX4_over_29 : decode cX4_over 29 = .ok (.iconst 0, 1) := by decide +kernel
theorem dX4_over_30 : decode cX4_over 30 = .ok (.iconst 0, 1) := by decide +kernel
theorem dX4_over_31 : decode cX4_over 31 = .ok (.iastore, 1) := by decide +kernel
theorem dX4_over_32 : decode cX4_over 32 = .ok (.aload_n 0, 1) := by decide +kernel
theorem dX4_over_33 : decode cX4_over 33 = .ok (.getfield 16, 3) := by decide +kernel
theorem dX4_over_36 : decode cX4_over 36 = .ok (.getfield 37, 3) := by decide +kernel
theorem dX4_over_39 : decode cX4_over 39 = .ok (.iconst 1, 1) := by decide +kernel
theorem dX4_over_40 : decode cX4_over 40 = .ok (.isub, 1) := by decide +kernel
theorem dX4_over_41 : decode cX4_over 41 = .ok (.istore_n 1, 1) := by decide +kernel
theorem dX4_over_42 : decode cX4_over 42 = .ok (.iload_n 1, 1) := by decide +kernel
theorem dX4_over_43 : decode cX4_over 43 = .ok (.ifCond .lt 306, 3) := by decide +kernel
theorem dX4_over_46 : decode cX4_over 46 = .ok (.aload_n 0, 1) := by decide +kernel
theorem dX4_over_47 : decode cX4_over 47 = .ok (.getfield 26, 3) := by decide +kernel
theorem dX4_over_50 : decode cX4_over 50 = .ok (.getfield 37, 3) := by decide +kernel
theorem dX4_over_53 : decode cX4_over 53 = .ok (.iconst 1, 1) := by decide +kernel
theorem dX4_over_54 : decode cX4_over 54 = .ok (.isub, 1) := by decide +kernel
theorem dX4_over_55 : decode cX4_over 55 = .ok (.istore_n 2, 1) := by decide +kernel
theorem dX4_over_56 : decode cX4_over 56 = .ok (.iload_n 2, 1) := by decide +kernel
theorem dX4_over_57 : decode cX4_over 57 = .ok (.ifCond .lt 29, 3) := by decide +kernel
theorem dX4_over_60 : decode cX4_over 60 = .ok (.aload_n 0, 1) := by decide +kernel
theorem dX4_over_61 : decode cX4_over 61 = .ok (.getfield 26, 3) := by decide +kernel
theorem dX4_over_64 : decode cX4_over 64 = .ok (.getfield 58, 3) := by decide +kernel
theorem dX4_over_67 : decode cX4_over 67 = .ok (.iload_n 2, 1) := by decide +kernel
theorem dX4_over_68 : decode cX4_over 68 = .ok (.iconst 1, 1) := by decide +kernel
theorem dX4_over_69 : decode cX4_over 69 = .ok (.iadd, 1) := by decide +kernel
theorem dX4_over_70 : decode cX4_over 70 = .ok (.aload_n 0, 1) := by decide +kernel
theorem dX4_over_71 : decode cX4_over 71 = .ok (.getfield 26, 3) := by decide +kernel
theorem dX4_over_74 : decode cX4_over 74 = .ok (.getfield 58, 3) := by decide +kernel
theorem dX4_over_77 : decode cX4_over 77 = .ok (.iload_n 2, 1) := by decide +kernel
theorem dX4_over_78 : decode cX4_over 78 = .ok (.iaload, 1) := by decide +kernel
theorem dX4_over_79 : decode cX4_over 79 = .ok (.iastore, 1) := by decide +kernel
theorem dX4_over_80 : decode cX4_over 80 = .ok (.iinc 2 (-1), 3) := by decide +kernel
theorem dX4_over_83 : decode cX4_over 83 = .ok (.goto (-27), 3) := by decide +kernel
theorem dX4_over_86 : decode cX4_over 86 = .ok (.aload_n 0, 1) := by decide +kernel
theorem dX4_over_87 : decode cX4_over 87 = .ok (.getfield 26, 3) := by decide +kernel
theorem dX4_over_90 : decode cX4_over 90 = .ok (.getfield 58, 3) := by decide +kernel
theorem dX4_over_93 : decode cX4_over 93 = .ok (.iconst 0, 1) := by decide +kernel
theorem dX4_over_94 : decode cX4_over 94 = .ok (.aload_n 0, 1) := by decide +kernel
theorem dX4_over_95 : decode cX4_over 95 = .ok (.getfield 16, 3) := by decide +kernel
theorem dX4_over_98 : decode cX4_over 98 = .ok (.getfield 58, 3) := by decide +kernel
theorem dX4_over_101 : decode cX4_over 101 = .ok (.iload_n 1, 1) := by decide +kernel
theorem dX4_over_102 : decode cX4_over 102 = .ok (.iaload, 1) := by decide +kernel
theorem dX4_over_103 : decode cX4_over 103 = .ok (.iastore, 1) := by decide +kernel
theorem dX4_over_104 : decode cX4_over 104 = .ok (.aload_n 0, 1) := by decide +kernel
theorem dX4_over_105 : decode cX4_over 105 = .ok (.getfield 26, 3) := by decide +kernel
theorem dX4_over_108 : decode cX4_over 108 = .ok (.dup, 1) := by decide +kernel
theorem dX4_over_109 : decode cX4_over 109 = .ok (.getfield 37, 3) := by decide +kernel
theorem dX4_over_112 : decode cX4_over 112 = .ok (.iconst 1, 1) := by decide +kernel
theorem dX4_over_113 : decode cX4_over 113 = .ok (.iadd, 1) := by decide +kernel
theorem dX4_over_114 : decode cX4_over 114 = .ok (.putfield 37, 3) := by decide +kernel
theorem dX4_over_117 : decode cX4_over 117 = .ok (.aload_n 0, 1) := by decide +kernel
theorem dX4_over_118 : decode cX4_over 118 = .ok (.getfield 26, 3) := by decide +kernel
theorem dX4_over_121 : decode cX4_over 121 = .ok (.getfield 37, 3) := by decide +kernel
theorem dX4_over_124 : decode cX4_over 124 = .ok (.iconst 1, 1) := by decide +kernel
theorem dX4_over_125 : decode cX4_over 125 = .ok (.if_icmp .le 39, 3) := by decide +kernel
theorem dX4_over_128 : decode cX4_over 128 = .ok (.aload_n 0, 1) := by decide +kernel
theorem dX4_over_129 : decode cX4_over 129 = .ok (.getfield 26, 3) := by decide +kernel
theorem dX4_over_132 : decode cX4_over 132 = .ok (.getfield 58, 3) := by decide +kernel
theorem dX4_over_135 : decode cX4_over 135 = .ok (.aload_n 0, 1) := by decide +kernel
theorem dX4_over_136 : decode cX4_over 136 = .ok (.getfield 26, 3) := by decide +kernel
theorem dX4_over_139 : decode cX4_over 139 = .ok (.getfield 37, 3) := by decide +kernel
theorem dX4_over_142 : decode cX4_over 142 = .ok (.iconst 1, 1) := by decide +kernel
theorem dX4_over_143 : decode cX4_over 143 = .ok (.isub, 1) := by decide +kernel
theorem dX4_over_144 : decode cX4_over 144 = .ok (.iaload, 1) := by decide +kernel
theorem dX4_over_145 : decode cX4_over 145 = .ok (.ifCond .ne 19, 3) := by decide +kernel
theorem dX4_over_148 : decode cX4_over 148 = .ok (.aload_n 0, 1) := by decide +kernel
theorem dX4_over_149 : decode cX4_over 149 = .ok (.getfield 26, 3) := by decide +kernel
theorem dX4_over_152 : decode cX4_over 152 = .ok (.dup, 1) := by decide +kernel
theorem dX4_over_153 : decode cX4_over 153 = .ok (.getfield 37, 3) := by decide +kernel
theorem dX4_over_156 : decode cX4_over 156 = .ok (.iconst 1, 1) := by decide +kernel
theorem dX4_over_157 : decode cX4_over 157 = .ok (.isub, 1) := by decide +kernel
theorem dX4_over_158 : decode cX4_over 158 = .ok (.putfield 37, 3) := by decide +kernel
theorem dX4_over_161 : decode cX4_over 161 = .ok (.goto (-44), 3) := by decide +kernel
theorem dX4_over_164 : decode cX4_over 164 = .ok (.iconst 0, 1) := by decide +kernel
theorem dX4_over_165 : decode cX4_over 165 = .ok (.istore_n 2, 1) := by decide +kernel
theorem dX4_over_166 : decode cX4_over 166 = .ok (.aload_n 0, 1) := by decide +kernel
theorem dX4_over_167 : decode cX4_over 167 = .ok (.getfield 26, 3) := by decide +kernel
theorem dX4_over_170 : decode cX4_over 170 = .ok (.aload_n 0, 1) := by decide +kernel
theorem dX4_over_171 : decode cX4_over 171 = .ok (.getfield 20, 3) := by decide +kernel
theorem dX4_over_174 : decode cX4_over 174 = .ok (.invokestatic 80, 3) := by decide +kernel
theorem dX4_over_177 : decode cX4_over 177 = .ok (.ifCond .lt 156, 3) := by decide +kernel
theorem dX4_over_180 : decode cX4_over 180 = .ok (.iconst 0, 1) := by decide +kernel
theorem dX4_over_181 : decode cX4_over 181 = .ok (.istore_n 3, 1) := by decide +kernel
theorem dX4_over_182 : decode cX4_over 182 = .ok (.iconst 0, 1) := by decide +kernel
theorem dX4_over_183 : decode cX4_over 183 = .ok (.istore 4, 2) := by decide +kernel
theorem dX4_over_185 : decode cX4_over 185 = .ok (.iload 4, 2) := by decide +kernel
theorem dX4_over_187 : decode cX4_over 187 = .ok (.aload_n 0, 1) := by decide +kernel
theorem dX4_over_188 : decode cX4_over 188 = .ok (.getfield 26, 3) := by decide +kernel
theorem dX4_over_191 : decode cX4_over 191 = .ok (.getfield 37, 3) := by decide +kernel
theorem dX4_over_194 : decode cX4_over 194 = .ok (.if_icmp .ge 86, 3) := by decide +kernel
theorem dX4_over_197 : decode cX4_over 197 = .ok (.aload_n 0, 1) := by decide +kernel
theorem dX4_over_198 : decode cX4_over 198 = .ok (.getfield 26, 3) := by decide +kernel
theorem dX4_over_201 : decode cX4_over 201 = .ok (.getfield 58, 3) := by decide +kernel
theorem dX4_over_204 : decode cX4_over 204 = .ok (.iload 4, 2) := by decide +kernel
theorem dX4_over_206 : decode cX4_over 206 = .ok (.iaload, 1) := by decide +kernel
theorem dX4_over_207 : decode cX4_over 207 = .ok (.iload 4, 2) := by decide +kernel
theorem dX4_over_209 : decode cX4_over 209 = .ok (.aload_n 0, 1) := by decide +kernel
theorem dX4_over_210 : decode cX4_over 210 = .ok (.getfield 20, 3) := by decide +kernel
theorem dX4_over_213 : decode cX4_over 213 = .ok (.getfield 37, 3) := by decide +kernel
theorem dX4_over_216 : decode cX4_over 216 = .ok (.if_icmp .ge 16, 3) := by decide +kernel
theorem dX4_over_219 : decode cX4_over 219 = .ok (.aload_n 0, 1) := by decide +kernel
theorem dX4_over_220 : decode cX4_over 220 = .ok (.getfield 20, 3) := by decide +kernel
theorem dX4_over_223 : decode cX4_over 223 = .ok (.getfield 58, 3) := by decide +kernel
theorem dX4_over_226 : decode cX4_over 226 = .ok (.iload 4, 2) := by decide +kernel
theorem dX4_over_228 : decode cX4_over 228 = .ok (.iaload, 1) := by decide +kernel
theorem dX4_over_229 : decode cX4_over 229 = .ok (.goto 4, 3) := by decide +kernel
theorem dX4_over_232 : decode cX4_over 232 = .ok (.iconst 0, 1) := by decide +kernel
theorem dX4_over_233 : decode cX4_over 233 = .ok (.isub, 1) := by decide +kernel
theorem dX4_over_234 : decode cX4_over 234 = .ok (.iload_n 3, 1) := by decide +kernel
theorem dX4_over_235 : decode cX4_over 235 = .ok (.isub, 1) := by decide +kernel
theorem dX4_over_236 : decode cX4_over 236 = .ok (.istore 5, 2) := by decide +kernel
theorem dX4_over_238 : decode cX4_over 238 = .ok (.iload 5, 2) := by decide +kernel
theorem dX4_over_240 : decode cX4_over 240 = .ok (.ifCond .ge 7, 3) := by decide +kernel
theorem dX4_over_243 : decode cX4_over 243 = .ok (.iconst 1, 1) := by decide +kernel
theorem dX4_over_244 : decode cX4_over 244 = .ok (.goto 4, 3) := by decide +kernel
theorem dX4_over_247 : decode cX4_over 247 = .ok (.iconst 0, 1) := by decide +kernel
theorem dX4_over_248 : decode cX4_over 248 = .ok (.istore_n 3, 1) := by decide +kernel
theorem dX4_over_249 : decode cX4_over 249 = .ok (.aload_n 0, 1) := by decide +kernel
theorem dX4_over_250 : decode cX4_over 250 = .ok (.getfield 26, 3) := by decide +kernel
theorem dX4_over_253 : decode cX4_over 253 = .ok (.getfield 58, 3) := by decide +kernel
theorem dX4_over_256 : decode cX4_over 256 = .ok (.iload 4, 2) := by decide +kernel
theorem dX4_over_258 : decode cX4_over 258 = .ok (.iload 5, 2) := by decide +kernel
theorem dX4_over_260 : decode cX4_over 260 = .ok (.ifCond .ge 11, 3) := by decide +kernel
theorem dX4_over_263 : decode cX4_over 263 = .ok (.iload 5, 2) := by decide +kernel
theorem dX4_over_265 : decode cX4_over 265 = .ok (.bipush 10, 2) := by decide +kernel
theorem dX4_over_267 : decode cX4_over 267 = .ok (.iadd, 1) := by decide +kernel
theorem dX4_over_268 : decode cX4_over 268 = .ok (.goto 5, 3) := by decide +kernel
theorem dX4_over_271 : decode cX4_over 271 = .ok (.iload 5, 2) := by decide +kernel
theorem dX4_over_273 : decode cX4_over 273 = .ok (.iastore, 1) := by decide +kernel
theorem dX4_over_274 : decode cX4_over 274 = .ok (.iinc 4 1, 3) := by decide +kernel
theorem dX4_over_277 : decode cX4_over 277 = .ok (.goto (-92), 3) := by decide +kernel
theorem dX4_over_280 : decode cX4_over 280 = .ok (.aload_n 0, 1) := by decide +kernel
theorem dX4_over_281 : decode cX4_over 281 = .ok (.getfield 26, 3) := by decide +kernel
theorem dX4_over_284 : decode cX4_over 284 = .ok (.getfield 37, 3) := by decide +kernel
theorem dX4_over_287 : decode cX4_over 287 = .ok (.iconst 1, 1) := by decide +kernel
theorem dX4_over_288 : decode cX4_over 288 = .ok (.if_icmp .le 39, 3) := by decide +kernel
theorem dX4_over_291 : decode cX4_over 291 = .ok (.aload_n 0, 1) := by decide +kernel
theorem dX4_over_292 : decode cX4_over 292 = .ok (.getfield 26, 3) := by decide +kernel
theorem dX4_over_295 : decode cX4_over 295 = .ok (.getfield 58, 3) := by decide +kernel
theorem dX4_over_298 : decode cX4_over 298 = .ok (.aload_n 0, 1) := by decide +kernel
theorem dX4_over_299 : decode cX4_over 299 = .ok (.getfield 26, 3) := by decide +kernel
theorem dX4_over_302 : decode cX4_over 302 = .ok (.getfield 37, 3) := by decide +kernel
theorem dX4_over_305 : decode cX4_over 305 = .ok (.iconst 1, 1) := by decide +kernel
theorem dX4_over_306 : decode cX4_over 306 = .ok (.isub, 1) := by decide +kernel
theorem dX4_over_307 : decode cX4_over 307 = .ok (.iaload, 1) := by decide +kernel
theorem dX4_over_308 : decode cX4_over 308 = .ok (.ifCond .ne 19, 3) := by decide +kernel
theorem dX4_over_311 : decode cX4_over 311 = .ok (.aload_n 0, 1) := by decide +kernel
theorem dX4_over_312 : decode cX4_over 312 = .ok (.getfield 26, 3) := by decide +kernel
theorem dX4_over_315 : decode cX4_over 315 = .ok (.dup, 1) := by decide +kernel
theorem dX4_over_316 : decode cX4_over 316 = .ok (.getfield 37, 3) := by decide +kernel
theorem dX4_over_319 : decode cX4_over 319 = .ok (.iconst 1, 1) := by decide +kernel
theorem dX4_over_320 : decode cX4_over 320 = .ok (.isub, 1) := by decide +kernel
theorem dX4_over_321 : decode cX4_over 321 = .ok (.putfield 37, 3) := by decide +kernel
theorem dX4_over_324 : decode cX4_over 324 = .ok (.goto (-44), 3) := by decide +kernel
theorem dX4_over_327 : decode cX4_over 327 = .ok (.iinc 2 1, 3) := by decide +kernel
theorem dX4_over_330 : decode cX4_over 330 = .ok (.goto (-164), 3) := by decide +kernel
theorem dX4_over_333 : decode cX4_over 333 = .ok (.aload_n 0, 1) := by decide +kernel
theorem dX4_over_334 : decode cX4_over 334 = .ok (.getfield 23, 3) := by decide +kernel
theorem dX4_over_337 : decode cX4_over 337 = .ok (.getfield 58, 3) := by decide +kernel
theorem dX4_over_340 : decode cX4_over 340 = .ok (.iload_n 1, 1) := by decide +kernel
theorem dX4_over_341 : decode cX4_over 341 = .ok (.iload_n 2, 1) := by decide +kernel
theorem dX4_over_342 : decode cX4_over 342 = .ok (.iastore, 1) := by decide +kernel
theorem dX4_over_343 : decode cX4_over 343 = .ok (.iinc 1 (-1), 3) := by decide +kernel
theorem dX4_over_346 : decode cX4_over 346 = .ok (.goto (-304), 3) := by decide +kernel
theorem dX4_over_349 : decode cX4_over 349 = .ok (.aload_n 0, 1) := by decide +kernel
theorem dX4_over_350 : decode cX4_over 350 = .ok (.getfield 23, 3) := by decide +kernel
theorem dX4_over_353 : decode cX4_over 353 = .ok (.getfield 37, 3) := by decide +kernel
theorem dX4_over_356 : decode cX4_over 356 = .ok (.iconst 1, 1) := by decide +kernel
theorem dX4_over_357 : decode cX4_over 357 = .ok (.if_icmp .le 39, 3) := by decide +kernel
theorem dX4_over_360 : decode cX4_over 360 = .ok (.aload_n 0, 1) := by decide +kernel
theorem dX4_over_361 : decode cX4_over 361 = .ok (.getfield 23, 3) := by decide +kernel
theorem dX4_over_364 : decode cX4_over 364 = .ok (.getfield 58, 3) := by decide +kernel
theorem dX4_over_367 : decode cX4_over 367 = .ok (.aload_n 0, 1) := by decide +kernel
theorem dX4_over_368 : decode cX4_over 368 = .ok (.getfield 23, 3) := by decide +kernel
theorem dX4_over_371 : decode cX4_over 371 = .ok (.getfield 37, 3) := by decide +kernel
theorem dX4_over_374 : decode cX4_over 374 = .ok (.iconst 1, 1) := by decide +kernel
theorem dX4_over_375 : decode cX4_over 375 = .ok (.isub, 1) := by decide +kernel
theorem dX4_over_376 : decode cX4_over 376 = .ok (.iaload, 1) := by decide +kernel
theorem dX4_over_377 : decode cX4_over 377 = .ok (.ifCond .ne 19, 3) := by decide +kernel
theorem dX4_over_380 : decode cX4_over 380 = .ok (.aload_n 0, 1) := by decide +kernel
theorem dX4_over_381 : decode cX4_over 381 = .ok (.getfield 23, 3) := by decide +kernel
theorem dX4_over_384 : decode cX4_over 384 = .ok (.dup, 1) := by decide +kernel
theorem dX4_over_385 : decode cX4_over 385 = .ok (.getfield 37, 3) := by decide +kernel
theorem dX4_over_388 : decode cX4_over 388 = .ok (.iconst 1, 1) := by decide +kernel
theorem dX4_over_389 : decode cX4_over 389 = .ok (.isub, 1) := by decide +kernel
theorem dX4_over_390 : decode cX4_over 390 = .ok (.putfield 37, 3) := by decide +kernel
theorem dX4_over_393 : decode cX4_over 393 = .ok (.goto (-44), 3) := by decide +kernel
theorem dX4_over_396 : decode cX4_over 396 = .ok (.aload_n 0, 1) := by decide +kernel
theorem dX4_over_397 : decode cX4_over 397 = .ok (.getfield 16, 3) := by decide +kernel
theorem dX4_over_400 : decode cX4_over 400 = .ok (.aload_n 0, 1) := by decide +kernel
theorem dX4_over_401 : decode cX4_over 401 = .ok (.getfield 26, 3) := by decide +kernel
theorem dX4_over_404 : decode cX4_over 404 = .ok (.getfield 37, 3) := by decide +kernel
theorem dX4_over_407 : decode cX4_over 407 = .ok (.putfield 37, 3) := by decide +kernel
theorem dX4_over_410 : decode cX4_over 410 = .ok (.iconst 0, 1) := by decide +kernel
theorem dX4_over_411 : decode cX4_over 411 = .ok (.istore_n 1, 1) := by decide +kernel
theorem dX4_over_412 : decode cX4_over 412 = .ok (.iload_n 1, 1) := by decide +kernel
theorem dX4_over_413 : decode cX4_over 413 = .ok (.aload_n 0, 1) := by decide +kernel
theorem dX4_over_414 : decode cX4_over 414 = .ok (.getfield 26, 3) := by decide +kernel
theorem dX4_over_417 : decode cX4_over 417 = .ok (.getfield 37, 3) := by decide +kernel
theorem dX4_over_420 : decode cX4_over 420 = .ok (.if_icmp .ge 27, 3) := by decide +kernel
theorem dX4_over_423 : decode cX4_over 423 = .ok (.aload_n 0, 1) := by decide +kernel
theorem dX4_over_424 : decode cX4_over 424 = .ok (.getfield 16, 3) := by decide +kernel
theorem dX4_over_427 : decode cX4_over 427 = .ok (.getfield 58, 3) := by decide +kernel
theorem dX4_over_430 : decode cX4_over 430 = .ok (.iload_n 1, 1) := by decide +kernel
theorem dX4_over_431 : decode cX4_over 431 = .ok (.aload_n 0, 1) := by decide +kernel
theorem dX4_over_432 : decode cX4_over 432 = .ok (.getfield 26, 3) := by decide +kernel
theorem dX4_over_435 : decode cX4_over 435 = .ok (.getfield 58, 3) := by decide +kernel
theorem dX4_over_438 : decode cX4_over 438 = .ok (.iload_n 1, 1) := by decide +kernel
theorem dX4_over_439 : decode cX4_over 439 = .ok (.iaload, 1) := by decide +kernel
theorem dX4_over_440 : decode cX4_over 440 = .ok (.iastore, 1) := by decide +kernel
theorem dX4_over_441 : decode cX4_over 441 = .ok (.iinc 1 1, 3) := by decide +kernel
theorem dX4_over_444 : decode cX4_over 444 = .ok (.goto (-32), 3) := by decide +kernel
theorem dX4_over_447 : decode cX4_over 447 = .ok (.return_, 1) := by decide +kernel
theorem dX4_turns_0 : decode cX4_turns 0 = .ok (.iload_n 0, 1) := by decide +kernel
theorem dX4_turns_1 : decode cX4_turns 1 = .ok (.tableswitch 75 0 5 #[39, 41, 43, 53, 55, 65], 39) := by decide +kernel
theorem dX4_turns_40 : decode cX4_turns 40 = .ok (.iconst 1, 1) := by decide +kernel
theorem dX4_turns_41 : decode cX4_turns 41 = .ok (.ireturn, 1) := by decide +kernel
theorem dX4_turns_42 : decode cX4_turns 42 = .ok (.iconst 0, 1) := by decide +kernel
theorem dX4_turns_43 : decode cX4_turns 43 = .ok (.ireturn, 1) := by decide +kernel
theorem dX4_turns_44 : decode cX4_turns 44 = .ok (.iload_n 1, 1) := by decide +kernel
theorem dX4_turns_45 : decode cX4_turns 45 = .ok (.ifCond .ne 7, 3) := by decide +kernel
theorem dX4_turns_48 : decode cX4_turns 48 = .ok (.iconst 1, 1) := by decide +kernel
theorem dX4_turns_49 : decode cX4_turns 49 = .ok (.goto 4, 3) := by decide +kernel
theorem dX4_turns_52 : decode cX4_turns 52 = .ok (.iconst 0, 1) := by decide +kernel
theorem dX4_turns_53 : decode cX4_turns 53 = .ok (.ireturn, 1) := by decide +kernel
theorem dX4_turns_54 : decode cX4_turns 54 = .ok (.iload_n 1, 1) := by decide +kernel
theorem dX4_turns_55 : decode cX4_turns 55 = .ok (.ireturn, 1) := by decide +kernel
theorem dX4_turns_56 : decode cX4_turns 56 = .ok (.iload_n 2, 1) := by decide +kernel
theorem dX4_turns_57 : decode cX4_turns 57 = .ok (.ifCond .lt 7, 3) := by decide +kernel
theorem dX4_turns_60 : decode cX4_turns 60 = .ok (.iconst 1, 1) := by decide +kernel
theorem dX4_turns_61 : decode cX4_turns 61 = .ok (.goto 4, 3) := by decide +kernel
theorem dX4_turns_64 : decode cX4_turns 64 = .ok (.iconst 0, 1) := by decide +kernel
theorem dX4_turns_65 : decode cX4_turns 65 = .ok (.ireturn, 1) := by decide +kernel
theorem dX4_turns_66 : decode cX4_turns 66 = .ok (.iload_n 2, 1) := by decide +kernel
theorem dX4_turns_67 : decode cX4_turns 67 = .ok (.ifCond .le 7, 3) := by decide +kernel
theorem dX4_turns_70 : decode cX4_turns 70 = .ok (.iconst 1, 1) := by decide +kernel
theorem dX4_turns_71 : decode cX4_turns 71 = .ok (.goto 4, 3) := by decide +kernel
theorem dX4_turns_74 : decode cX4_turns 74 = .ok (.iconst 0, 1) := by decide +kernel
theorem dX4_turns_75 : decode cX4_turns 75 = .ok (.ireturn, 1) := by decide +kernel
theorem dX4_turns_76 : decode cX4_turns 76 = .ok (.iload_n 2, 1) := by decide +kernel
theorem dX4_turns_77 : decode cX4_turns 77 = .ok (.ifCond .gt 11, 3) := by decide +kernel
theorem dX4_turns_80 : decode cX4_turns 80 = .ok (.iload_n 2, 1) := by decide +kernel
theorem dX4_turns_81 : decode cX4_turns 81 = .ok (.ifCond .ne 11, 3) := by decide +kernel
theorem dX4_turns_84 : decode cX4_turns 84 = .ok (.iload_n 3, 1) := by decide +kernel
theorem dX4_turns_85 : decode cX4_turns 85 = .ok (.ifCond .eq 7, 3) := by decide +kernel
theorem dX4_turns_88 : decode cX4_turns 88 = .ok (.iconst 1, 1) := by decide +kernel
theorem dX4_turns_89 : decode cX4_turns 89 = .ok (.goto 4, 3) := by decide +kernel
theorem dX4_turns_92 : decode cX4_turns 92 = .ok (.iconst 0, 1) := by decide +kernel
theorem dX4_turns_93 : decode cX4_turns 93 = .ok (.ireturn, 1) := by decide +kernel
