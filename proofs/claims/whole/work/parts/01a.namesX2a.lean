set_option maxRecDepth 20000 in
theorem ggX2_init_X0_init : GoodIn wsX2_init wsX0_init := goodIn_r _ [20, 21, 2, 3, 22, 12, 13, 23, 24, 25, 26, 27, 28, 53, 54, 50, 51, 52] (by decide +kernel) (by decide +kernel)
set_option maxRecDepth 20000 in
theorem gX2_init_X0_init_n15 : GoodIn wsX2_init (wsX0_init) := ggX2_init_X0_init
set_option maxRecDepth 20000 in
theorem ggX2_init_X1_becomeSizeOf : GoodIn wsX2_init wsX1_becomeSizeOf := goodIn_r _ [32, 28, 33, 34, 35, 36, 37, 38, 39, 40, 41, 13, 42, 53, 54] (by decide +kernel) (by decide +kernel)
set_option maxRecDepth 20000 in
theorem gX2_init_X1_becomeSizeOf : GoodIn wsX2_init (wsV RX2 27 RX1 yX1_becomeSizeOf wsX1_becomeSizeOf) := goodIn_app (goodIn_of _ (by decide +kernel)) ggX2_init_X1_becomeSizeOf
set_option maxRecDepth 20000 in
theorem ggX2_init_X1_init : GoodIn wsX2_init wsX1_init := goodIn_r _ [25, 26, 2, 3, 27, 28, 53, 54] (by decide +kernel) (by decide +kernel)
set_option maxRecDepth 20000 in
theorem gX2_init_X1_init_n33 : GoodIn wsX2_init (wsX1_init) := ggX2_init_X1_init
theorem dX2_init_0 : decode cX2_init 0 = .ok (.aload_n 0, 1) := by decide +kernel
theorem dX2_init_1 : decode cX2_init 1 = .ok (.invokespecial 1, 3) := by decide +kernel
theorem dX2_init_4 : decode cX2_init 4 = .ok (.aload_n 0, 1) := by decide +kernel
theorem dX2_init_5 : decode cX2_init 5 = .ok (.bipush 6, 2) := by decide +kernel
theorem dX2_init_7 : decode cX2_init 7 = .ok (.anewarray 9, 3) := by decide +kernel
theorem dX2_init_10 : decode cX2_init 10 = .ok (.putfield 11, 3) := by decide +kernel
theorem dX2_init_13 : decode cX2_init 13 = .ok (.iconst 0, 1) := by decide +kernel
theorem dX2_init_14 : decode cX2_init 14 = .ok (.istore_n 1, 1) := by decide +kernel
theorem dX2_init_15 : decode cX2_init 15 = .ok (.iload_n 1, 1) := by decide +kernel
theorem dX2_init_16 : decode cX2_init 16 = .ok (.bipush 6, 2) := by decide +kernel
theorem dX2_init_18 : decode cX2_init 18 = .ok (.if_icmp .ge 22, 3) := by decide +kernel
theorem dX2_init_21 : decode cX2_init 21 = .ok (.aload_n 0, 1) := by decide +kernel
theorem dX2_init_22 : decode cX2_init 22 = .ok (.getfield 11, 3) := by decide +kernel
theorem dX2_init_25 : decode cX2_init 25 = .ok (.iload_n 1, 1) := by decide +kernel
theorem dX2_init_26 : decode cX2_init 26 = .ok (.new 9, 3) := by decide +kernel
theorem dX2_init_29 : decode cX2_init 29 = .ok (.dup, 1) := by decide +kernel
theorem dX2_init_30 : decode cX2_init 30 = .ok (.invokespecial 15, 3) := by decide +kernel
theorem dX2_init_33 : decode cX2_init 33 = .ok (.aastore, 1) := by decide +kernel
theorem dX2_init_34 : decode cX2_init 34 = .ok (.iinc 1 1, 3) := by decide +kernel
theorem dX2_init_37 : decode cX2_init 37 = .ok (.goto (-22), 3) := by decide +kernel
theorem dX2_init_40 : decode cX2_init 40 = .ok (.aload_n 0, 1) := by decide +kernel
theorem dX2_init_41 : decode cX2_init 41 = .ok (.new 9, 3) := by decide +kernel
theorem dX2_init_44 : decode cX2_init 44 = .ok (.dup, 1) := by decide +kernel
theorem dX2_init_45 : decode cX2_init 45 = .ok (.invokespecial 15, 3) := by decide +kernel
theorem dX2_init_48 : decode cX2_init 48 = .ok (.putfield 16, 3) := by decide +kernel
theorem dX2_init_51 : decode cX2_init 51 = .ok (.aload_n 0, 1) := by decide +kernel
theorem dX2_init_52 : decode cX2_init 52 = .ok (.new 9, 3) := by decide +kernel
theorem dX2_init_55 : decode cX2_init 55 = .ok (.dup, 1) := by decide +kernel
theorem dX2_init_56 : decode cX2_init 56 = .ok (.invokespecial 15, 3) := by decide +kernel
theorem dX2_init_59 : decode cX2_init 59 = .ok (.putfield 20, 3) := by decide +kernel
theorem dX2_init_62 : decode cX2_init 62 = .ok (.aload_n 0, 1) := by decide +kernel
theorem dX2_init_63 : decode cX2_init 63 = .ok (.getfield 20, 3) := by decide +kernel
theorem dX2_init_66 : decode cX2_init 66 = .ok (.getfield 23, 3) := by decide +kernel
theorem dX2_init_69 : decode cX2_init 69 = .ok (.lconst 1, 1) := by decide +kernel
theorem dX2_init_70 : decode cX2_init 70 = .ok (.invokevirtual 27, 3) := by decide +kernel
theorem dX2_init_73 : decode cX2_init 73 = .ok (.aload_n 0, 1) := by decide +kernel
theorem dX2_init_74 : decode cX2_init 74 = .ok (.new 28, 3) := by decide +kernel
theorem dX2_init_77 : decode cX2_init 77 = .ok (.dup, 1) := by decide +kernel
theorem dX2_init_78 : decode cX2_init 78 = .ok (.invokespecial 33, 3) := by decide +kernel
theorem dX2_init_81 : decode cX2_init 81 = .ok (.putfield 34, 3) := by decide +kernel
theorem dX2_init_84 : decode cX2_init 84 = .ok (.aload_n 0, 1) := by decide +kernel
theorem dX2_init_85 : decode cX2_init 85 = .ok (.new 28, 3) := by decide +kernel
theorem dX2_init_88 : decode cX2_init 88 = .ok (.dup, 1) := by decide +kernel
theorem dX2_init_89 : decode cX2_init 89 = .ok (.invokespecial 33, 3) := by decide +kernel
theorem dX2_init_92 : decode cX2_init 92 = .ok (.putfield 37, 3) := by decide +kernel
theorem dX2_init_95 : decode cX2_init 95 = .ok (.aload_n 0, 1) := by decide +kernel
theorem dX2_init_96 : decode cX2_init 96 = .ok (.sipush 200, 3) := by decide +kernel
theorem dX2_init_99 : decode cX2_init 99 = .ok (.newarray .char, 2) := by decide +kernel
theorem dX2_init_101 : decode cX2_init 101 = .ok (.putfield 40, 3) := by decide +kernel
theorem dX2_init_104 : decode cX2_init 104 = .ok (.aload_n 0, 1) := by decide +kernel
theorem dX2_init_105 : decode cX2_init 105 = .ok (.iconst 0, 1) := by decide +kernel
theorem dX2_init_106 : decode cX2_init 106 = .ok (.putfield 44, 3) := by decide +kernel
theorem dX2_init_109 : decode cX2_init 109 = .ok (.return_, 1) := by decide +kernel
set_option maxRecDepth 20000 in
theorem ggX2_load_X2_isRegister : GoodIn wsX2_load wsX2_isRegister := goodIn_r _ [8] (by decide +kernel) (by decide +kernel)
set_option maxRecDepth 20000 in
theorem gX2_load_X2_isRegister : GoodIn wsX2_load (va_wsS RX2 48 yX2_isRegister wsX2_isRegister) := goodIn_app (goodIn_of _ (by decide +kernel)) ggX2_load_X2_isRegister
set_option maxRecDepth 20000 in
theorem ggX2_load_X1_becomeSizeOf : GoodIn wsX2_load wsX1_becomeSizeOf := goodIn_r _ [13, 14, 15, 16, 17, 18, 19, 20, 21, 22, 23, 12, 24, 80, 81] (by decide +kernel) (by decide +kernel)
set_option maxRecDepth 20000 in
theorem gX2_load_X1_becomeSizeOf : GoodIn wsX2_load (wsV RX2 27 RX1 yX1_becomeSizeOf wsX1_becomeSizeOf) := goodIn_app (goodIn_of _ (by decide +kernel)) ggX2_load_X1_becomeSizeOf
set_option maxRecDepth 20000 in
theorem ggX2_load_X2_keep : GoodIn wsX2_load wsX2_keep := goodIn_r _ [28, 1, 2, 4, 29, 30, 31, 32, 12, 33, 20, 34, 35, 18, 36, 37, 38, 39, 40, 14, 41, 42, 43, 44, 7, 45, 46, 47, 48, 49, 50, 51, 52, 53, 54, 55, 56, 57, 58, 59, 60, 61, 62, 63, 64, 65, 66, 67, 68, 69, 70, 71, 72, 73, 74, 75, 76, 77, 78, 79, 80, 81] (by decide +kernel) (by decide +kernel)
set_option maxRecDepth 20000 in
theorem gX2_load_X2_keep : GoodIn wsX2_load (wsV RX2 59 RX2 yX2_keep wsX2_keep) := goodIn_app (goodIn_of _ (by decide +kernel)) ggX2_load_X2_keep
theorem dX2_load_0 : decode cX2_load 0 = .ok (.iload_n 1, 1) := by decide +kernel
theorem dX2_load_1 : decode cX2_load 1 = .ok (.invokestatic 48, 3) := by decide +kernel
theorem dX2_load_4 : decode cX2_load 4 = .ok (.ifCond .ne 5, 3) := by decide +kernel
theorem dX2_load_7 : decode cX2_load 7 = .ok (.iconst (-1), 1) := by decide +kernel
theorem dX2_load_8 : decode cX2_load 8 = .ok (.ireturn, 1) := by decide +kernel
theorem dX2_load_9 : decode cX2_load 9 = .ok (.aload_n 0, 1) := by decide +kernel
theorem dX2_load_10 : decode cX2_load 10 = .ok (.getfield 16, 3) := by decide +kernel
theorem dX2_load_13 : decode cX2_load 13 = .ok (.getfield 23, 3) := by decide +kernel
theorem dX2_load_16 : decode cX2_load 16 = .ok (.lload_n 2, 1) := by decide +kernel
theorem dX2_load_17 : decode cX2_load 17 = .ok (.invokevirtual 27, 3) := by decide +kernel
theorem dX2_load_20 : decode cX2_load 20 = .ok (.aload_n 0, 1) := by decide +kernel
theorem dX2_load_21 : decode cX2_load 21 = .ok (.getfield 16, 3) := by decide +kernel
theorem dX2_load_24 : decode cX2_load 24 = .ok (.lload_n 2, 1) := by decide +kernel
theorem dX2_load_25 : decode cX2_load 25 = .ok (.lconst 0, 1) := by decide +kernel
theorem dX2_load_26 : decode cX2_load 26 = .ok (.lcmp, 1) := by decide +kernel
theorem dX2_load_27 : decode cX2_load 27 = .ok (.ifCond .ge 7, 3) := by decide +kernel
theorem dX2_load_30 : decode cX2_load 30 = .ok (.iconst 1, 1) := by decide +kernel
theorem dX2_load_31 : decode cX2_load 31 = .ok (.goto 4, 3) := by decide +kernel
theorem dX2_load_34 : decode cX2_load 34 = .ok (.iconst 0, 1) := by decide +kernel
theorem dX2_load_35 : decode cX2_load 35 = .ok (.putfield 52, 3) := by decide +kernel
theorem dX2_load_38 : decode cX2_load 38 = .ok (.aload_n 0, 1) := by decide +kernel
theorem dX2_load_39 : decode cX2_load 39 = .ok (.getfield 16, 3) := by decide +kernel
theorem dX2_load_42 : decode cX2_load 42 = .ok (.iload 4, 2) := by decide +kernel
theorem dX2_load_44 : decode cX2_load 44 = .ok (.putfield 56, 3) := by decide +kernel
theorem dX2_load_47 : decode cX2_load 47 = .ok (.aload_n 0, 1) := by decide +kernel
theorem dX2_load_48 : decode cX2_load 48 = .ok (.iload_n 1, 1) := by decide +kernel
theorem dX2_load_49 : decode cX2_load 49 = .ok (.invokevirtual 59, 3) := by decide +kernel
theorem dX2_load_52 : decode cX2_load 52 = .ok (.bipush (-3), 2) := by decide +kernel
theorem dX2_load_54 : decode cX2_load 54 = .ok (.if_icmp .ne 8, 3) := by decide +kernel
theorem dX2_load_57 : decode cX2_load 57 = .ok (.bipush (-3), 2) := by decide +kernel
theorem dX2_load_59 : decode cX2_load 59 = .ok (.goto 4, 3) := by decide +kernel
theorem dX2_load_62 : decode cX2_load 62 = .ok (.iconst 0, 1) := by decide +kernel
theorem dX2_load_63 : decode cX2_load 63 = .ok (.ireturn, 1) := by decide +kernel
set_option maxRecDepth 20000 in
theorem ggX2_push_X2_isRegister : GoodIn wsX2_push wsX2_isRegister := goodIn_r _ [9] (by decide +kernel) (by decide +kernel)
set_option maxRecDepth 20000 in
theorem gX2_push_X2_isRegister : GoodIn wsX2_push (va_wsS RX2 48 yX2_isRegister wsX2_isRegister) := goodIn_app (goodIn_of _ (by decide +kernel)) ggX2_push_X2_isRegister
set_option maxRecDepth 20000 in
theorem ggX2_push_X0_become : GoodIn wsX2_push wsX0_become := goodIn_r _ [14, 15, 16, 17, 18, 19, 20, 13, 21, 22, 23, 24, 25, 26, 27, 28, 29, 30, 31, 32, 33, 34, 35, 36, 94, 95, 96, 97, 98] (by decide +kernel) (by decide +kernel)
set_option maxRecDepth 20000 in
theorem gX2_push_X0_become : GoodIn wsX2_push (wsV RX2 63 RX0 yX0_become wsX0_become) := goodIn_app (goodIn_of _ (by decide +kernel)) ggX2_push_X0_become
set_option maxRecDepth 20000 in
theorem ggX2_push_X1_raise : GoodIn wsX2_push wsX1_raise := goodIn_r _ [40, 32, 41, 27, 42, 43, 44, 45, 25, 46, 47, 48, 49, 50, 97, 98] (by decide +kernel) (by decide +kernel)
set_option maxRecDepth 20000 in
theorem gX2_push_X1_raise : GoodIn wsX2_push (wsV RX2 67 RX1 yX1_raise wsX1_raise) := goodIn_app (goodIn_of _ (by decide +kernel)) ggX2_push_X1_raise
set_option maxRecDepth 20000 in
theorem ggX2_push_X1_becomeSizeOf : GoodIn wsX2_push wsX1_becomeSizeOf := goodIn_r _ [54, 27, 42, 55, 56, 57, 58, 32, 59, 60, 61, 25, 62, 97, 98] (by decide +kernel) (by decide +kernel)
set_option maxRecDepth 20000 in
theorem gX2_push_X1_becomeSizeOf : GoodIn wsX2_push (wsV RX2 27 RX1 yX1_becomeSizeOf wsX1_becomeSizeOf) := goodIn_app (goodIn_of _ (by decide +kernel)) ggX2_push_X1_becomeSizeOf
set_option maxRecDepth 20000 in
theorem ggX2_push_X1_add : GoodIn wsX2_push wsX1_add := goodIn_r _ [66, 32, 67, 68, 57, 69, 27, 42, 43, 44, 45, 25, 46, 97, 98] (by decide +kernel) (by decide +kernel)
set_option maxRecDepth 20000 in
theorem gX2_push_X1_add : GoodIn wsX2_push (wsV RX2 73 RX1 yX1_add wsX1_add) := goodIn_app (goodIn_of _ (by decide +kernel)) ggX2_push_X1_add
set_option maxRecDepth 20000 in
theorem ggX2_push_X2_keep : GoodIn wsX2_push wsX2_keep := goodIn_r _ [73, 1, 3, 74, 2, 75, 76, 77, 25, 78, 32, 67, 68, 57, 69, 79, 80, 81, 82, 27, 41, 83, 84, 85, 8, 86, 10, 11, 12, 13, 14, 15, 16, 17, 18, 19, 20, 21, 22, 23, 24, 26, 28, 29, 30, 31, 33, 34, 35, 36, 87, 88, 89, 90, 91, 92, 93, 94, 95, 96, 97, 98] (by decide +kernel) (by decide +kernel)
set_option maxRecDepth 20000 in
theorem gX2_push_X2_keep : GoodIn wsX2_push (wsV RX2 59 RX2 yX2_keep wsX2_keep) := goodIn_app (goodIn_of _ (by decide +kernel)) ggX2_push_X2_keep
theorem dX2_push_0 : decode cX2_push 0 = .ok (.iload_n 1, 1) := by decide +kernel
theorem dX2_push_1 : decode cX2_push 1 = .ok (.invokestatic 48, 3) := by decide +kernel
theorem dX2_push_4 : decode cX2_push 4 = .ok (.ifCond .ne 5, 3) := by decide +kernel
theorem dX2_push_7 : decode cX2_push 7 = .ok (.iconst (-1), 1) := by decide +kernel
theorem dX2_push_8 : decode cX2_push 8 = .ok (.ireturn, 1) := by decide +kernel
theorem dX2_push_9 : decode cX2_push 9 = .ok (.aload_n 0, 1) := by decide +kernel
theorem dX2_push_10 : decode cX2_push 10 = .ok (.getfield 16, 3) := by decide +kernel
theorem dX2_push_13 : decode cX2_push 13 = .ok (.aload_n 0, 1) := by decide +kernel
theorem dX2_push_14 : decode cX2_push 14 = .ok (.getfield 11, 3) := by decide +kernel
theorem dX2_push_17 : decode cX2_push 17 = .ok (.iload_n 1, 1) := by decide +kernel
theorem dX2_push_18 : decode cX2_push 18 = .ok (.aaload, 1) := by decide +kernel
theorem dX2_push_19 : decode cX2_push 19 = .ok (.invokevirtual 63, 3) := by decide +kernel
theorem dX2_push_22 : decode cX2_push 22 = .ok (.aload_n 0, 1) := by decide +kernel
theorem dX2_push_23 : decode cX2_push 23 = .ok (.getfield 16, 3) := by decide +kernel
theorem dX2_push_26 : decode cX2_push 26 = .ok (.getfield 23, 3) := by decide +kernel
theorem dX2_push_29 : decode cX2_push 29 = .ok (.bipush 18, 2) := by decide +kernel
theorem dX2_push_31 : decode cX2_push 31 = .ok (.invokevirtual 67, 3) := by decide +kernel
theorem dX2_push_34 : decode cX2_push 34 = .ok (.aload_n 0, 1) := by decide +kernel
theorem dX2_push_35 : decode cX2_push 35 = .ok (.getfield 34, 3) := by decide +kernel
theorem dX2_push_38 : decode cX2_push 38 = .ok (.lload_n 2, 1) := by decide +kernel
theorem dX2_push_39 : decode cX2_push 39 = .ok (.ldc2_w 71, 3) := by decide +kernel
theorem dX2_push_42 : decode cX2_push 42 = .ok (.lrem, 1) := by decide +kernel
theorem dX2_push_43 : decode cX2_push 43 = .ok (.invokevirtual 27, 3) := by decide +kernel
theorem dX2_push_46 : decode cX2_push 46 = .ok (.aload_n 0, 1) := by decide +kernel
theorem dX2_push_47 : decode cX2_push 47 = .ok (.getfield 16, 3) := by decide +kernel
theorem dX2_push_50 : decode cX2_push 50 = .ok (.getfield 23, 3) := by decide +kernel
theorem dX2_push_53 : decode cX2_push 53 = .ok (.aload_n 0, 1) := by decide +kernel
theorem dX2_push_54 : decode cX2_push 54 = .ok (.getfield 34, 3) := by decide +kernel
theorem dX2_push_57 : decode cX2_push 57 = .ok (.invokevirtual 73, 3) := by decide +kernel
theorem dX2_push_60 : decode cX2_push 60 = .ok (.aload_n 0, 1) := by decide +kernel
theorem dX2_push_61 : decode cX2_push 61 = .ok (.iload_n 1, 1) := by decide +kernel
theorem dX2_push_62 : decode cX2_push 62 = .ok (.invokevirtual 59, 3) := by decide +kernel
theorem dX2_push_65 : decode cX2_push 65 = .ok (.ireturn, 1) := by decide +kernel
set_option maxRecDepth 20000 in
theorem ggX2_reckon_X2_isRegister : GoodIn wsX2_reckon wsX2_isRegister := goodIn_r _ [7] (by decide +kernel) (by decide +kernel)
set_option maxRecDepth 20000 in
theorem gX2_reckon_X2_isRegister : GoodIn wsX2_reckon (va_wsS RX2 48 yX2_isRegister wsX2_isRegister) := goodIn_app (goodIn_of _ (by decide +kernel)) ggX2_reckon_X2_isRegister
set_option maxRecDepth 20000 in
theorem ggX2_reckon_X2_addUp : GoodIn wsX2_reckon wsX2_addUp := goodIn_r _ [11, 12, 13, 14, 15, 16, 2, 17, 18, 3, 19, 20, 21, 6, 22, 23, 24, 25, 26, 27, 28, 29, 30, 31, 32, 33, 34, 35, 36, 37, 38, 39, 40, 41, 42, 43, 44, 45, 46, 47, 48, 49, 50, 51, 52, 53, 54, 55, 56, 57, 58, 59, 60, 61, 62, 63, 64, 65, 66, 67, 68, 69, 70, 71, 72, 73, 74, 75, 76, 77, 78, 127, 128, 129, 120, 121, 122, 123, 124, 125, 126, 130, 131] (by decide +kernel) (by decide +kernel)
set_option maxRecDepth 20000 in
theorem gX2_reckon_X2_addUp : GoodIn wsX2_reckon (wsV RX2 77 RX2 yX2_addUp wsX2_addUp) := goodIn_app (goodIn_of _ (by decide +kernel)) ggX2_reckon_X2_addUp
set_option maxRecDepth 20000 in
theorem ggX2_reckon_X2_multiply : GoodIn wsX2_reckon wsX2_multiply := goodIn_r _ [82, 17, 23, 3, 2, 12, 83, 84, 85, 27, 86, 34, 29, 40, 87, 88, 89, 90, 75, 76, 77, 78, 54, 55, 56, 57, 58, 59, 60, 61, 62, 25, 26, 28, 30, 31, 32, 33, 63, 64, 65, 66, 120, 121, 122, 123, 124, 125, 126, 127, 128, 129, 130, 131] (by decide +kernel) (by decide +kernel)
set_option maxRecDepth 20000 in
theorem gX2_reckon_X2_multiply : GoodIn wsX2_reckon (wsV RX2 81 RX2 yX2_multiply wsX2_multiply) := goodIn_app (goodIn_of _ (by decide +kernel)) ggX2_reckon_X2_multiply
set_option maxRecDepth 20000 in
theorem ggX2_reckon_X2_order : GoodIn wsX2_reckon wsX2_order := goodIn_r _ [94, 2, 18, 17, 95, 96, 97, 57, 98, 59, 60, 63, 64, 65, 27, 66, 34, 19, 20, 21, 6, 22, 12, 23, 24, 25, 26, 28, 29, 30, 31, 32, 33, 35, 36, 37, 38, 39, 40, 41, 42, 43, 44, 45, 46, 47, 48, 67, 68, 69, 70, 127, 128, 129, 120, 121, 122, 123, 124, 125, 126, 130, 131] (by decide +kernel) (by decide +kernel)
set_option maxRecDepth 20000 in
theorem gX2_reckon_X2_order : GoodIn wsX2_reckon (wsV RX2 85 RX2 yX2_order wsX2_order) := goodIn_app (goodIn_of _ (by decide +kernel)) ggX2_reckon_X2_order
set_option maxRecDepth 20000 in
theorem ggX2_reckon_X0_become : GoodIn wsX2_reckon wsX0_become := goodIn_r _ [102, 59, 60, 61, 103, 55, 56, 57, 58, 62, 25, 26, 27, 28, 29, 30, 31, 32, 33, 34, 63, 64, 65, 66, 127, 128, 129, 130, 131] (by decide +kernel) (by decide +kernel)
set_option maxRecDepth 20000 in
theorem gX2_reckon_X0_become : GoodIn wsX2_reckon (wsV RX2 63 RX0 yX0_become wsX0_become) := goodIn_app (goodIn_of _ (by decide +kernel)) ggX2_reckon_X0_become
set_option maxRecDepth 20000 in
theorem ggX2_reckon_X2_keep : GoodIn wsX2_reckon wsX2_keep := goodIn_r _ [107, 3, 23, 12, 1, 108, 109, 110, 27, 111, 34, 53, 14, 15, 16, 112, 113, 114, 115, 29, 39, 116, 117, 118, 6, 119, 99, 100, 101, 57, 102, 59, 60, 61, 103, 55, 56, 58, 62, 25, 26, 28, 30, 31, 32, 33, 63, 64, 65, 66, 120, 121, 122, 123, 124, 125, 126, 127, 128, 129, 130, 131] (by decide +kernel) (by decide +kernel)
set_option maxRecDepth 20000 in
theorem gX2_reckon_X2_keep : GoodIn wsX2_reckon (wsV RX2 59 RX2 yX2_keep wsX2_keep) := goodIn_app (goodIn_of _ (by decide +kernel)) ggX2_reckon_X2_keep
theorem dX2_reckon_0 : decode cX2_reckon 0 = .ok (.iload_n 2, 1) := by decide +kernel
theorem dX2_reckon_1 : decode cX2_reckon 1 = .ok (.invokestatic 48, 3) := by decide +kernel
theorem dX2_reckon_4 : decode cX2_reckon 4 = .ok (.ifCond .eq 18, 3) := by decide +kernel
theorem dX2_reckon_7 : decode cX2_reckon 7 = .ok (.iload_n 3, 1) := by decide +kernel
theorem dX2_reckon_8 : decode cX2_reckon 8 = .ok (.invokestatic 48, 3) := by decide +kernel
theorem dX2_reckon_11 : decode cX2_reckon 11 = .ok (.ifCond .eq 11, 3) := by decide +kernel
theorem dX2_reckon_14 : decode cX2_reckon 14 = .ok (.iload 4, 2) := by decide +kernel
theorem dX2_reckon_16 : decode cX2_reckon 16 = .ok (.invokestatic 48, 3) := by decide +kernel
theorem dX2_reckon_19 : decode cX2_reckon 19 = .ok (.ifCond .ne 5, 3) := by decide +kernel
theorem dX2_reckon_22 : decode cX2_reckon 22 = .ok (.iconst (-1), 1) := by decide +kernel
theorem dX2_reckon_23 : decode cX2_reckon 23 = .ok (.ireturn, 1) := by decide +kernel
theorem dX2_reckon_24 : decode cX2_reckon 24 = .ok (.aload_n 0, 1) := by decide +kernel
theorem dX2_reckon_25 : decode cX2_reckon 25 = .ok (.getfield 11, 3) := by decide +kernel
theorem dX2_reckon_28 : decode cX2_reckon 28 = .ok (.iload_n 3, 1) := by decide +kernel
theorem dX2_reckon_29 : decode cX2_reckon 29 = .ok (.aaload, 1) := by decide +kernel
theorem dX2_reckon_30 : decode cX2_reckon 30 = .ok (.astore 5, 2) := by decide +kernel
theorem dX2_reckon_32 : decode cX2_reckon 32 = .ok (.aload_n 0, 1) := by decide +kernel
theorem dX2_reckon_33 : decode cX2_reckon 33 = .ok (.getfield 11, 3) := by decide +kernel
theorem dX2_reckon_36 : decode cX2_reckon 36 = .ok (.iload 4, 2) := by decide +kernel
theorem dX2_reckon_38 : decode cX2_reckon 38 = .ok (.aaload, 1) := by decide +kernel
theorem dX2_reckon_39 : decode cX2_reckon 39 = .ok (.astore 6, 2) := by decide +kernel
theorem dX2_reckon_41 : decode cX2_reckon 41 = .ok (.iload_n 1, 1) := by decide +kernel
theorem dX2_reckon_42 : decode cX2_reckon 42 = .ok (.tableswitch 141 0 4 #[34, 50, 74, 85, 113], 34) := by decide +kernel
theorem dX2_reckon_76 : decode cX2_reckon 76 = .ok (.aload_n 0, 1) := by decide +kernel
theorem dX2_reckon_77 : decode cX2_reckon 77 = .ok (.aload 5, 2) := by decide +kernel
theorem dX2_reckon_79 : decode cX2_reckon 79 = .ok (.aload 6, 2) := by decide +kernel
theorem dX2_reckon_81 : decode cX2_reckon 81 = .ok (.aload 6, 2) := by decide +kernel
theorem dX2_reckon_83 : decode cX2_reckon 83 = .ok (.getfield 52, 3) := by decide +kernel
theorem dX2_reckon_86 : decode cX2_reckon 86 = .ok (.invokevirtual 77, 3) := by decide +kernel
theorem dX2_reckon_89 : decode cX2_reckon 89 = .ok (.goto 96, 3) := by decide +kernel
theorem dX2_reckon_92 : decode cX2_reckon 92 = .ok (.aload_n 0, 1) := by decide +kernel
theorem dX2_reckon_93 : decode cX2_reckon 93 = .ok (.aload 5, 2) := by decide +kernel
theorem dX2_reckon_95 : decode cX2_reckon 95 = .ok (.aload 6, 2) := by decide +kernel
theorem dX2_reckon_97 : decode cX2_reckon 97 = .ok (.aload 6, 2) := by decide +kernel
theorem dX2_reckon_99 : decode cX2_reckon 99 = .ok (.getfield 52, 3) := by decide +kernel
theorem dX2_reckon_102 : decode cX2_reckon 102 = .ok (.ifCond .ne 7, 3) := by decide +kernel
theorem dX2_reckon_105 : decode cX2_reckon 105 = .ok (.iconst 1, 1) := by decide +kernel
theorem dX2_reckon_106 : decode cX2_reckon 106 = .ok (.goto 4, 3) := by decide +kernel
theorem dX2_reckon_109 : decode cX2_reckon 109 = .ok (.iconst 0, 1) := by decide +kernel
theorem dX2_reckon_110 : decode cX2_reckon 110 = .ok (.invokevirtual 77, 3) := by decide +kernel
theorem dX2_reckon_113 : decode cX2_reckon 113 = .ok (.goto 72, 3) := by decide +kernel
theorem dX2_reckon_116 : decode cX2_reckon 116 = .ok (.aload_n 0, 1) := by decide +kernel
theorem dX2_reckon_117 : decode cX2_reckon 117 = .ok (.aload 5, 2) := by decide +kernel
theorem dX2_reckon_119 : decode cX2_reckon 119 = .ok (.aload 6, 2) := by decide +kernel
theorem dX2_reckon_121 : decode cX2_reckon 121 = .ok (.invokevirtual 81, 3) := by decide +kernel
theorem dX2_reckon_124 : decode cX2_reckon 124 = .ok (.goto 61, 3) := by decide +kernel
theorem dX2_reckon_127 : decode cX2_reckon 127 = .ok (.aload_n 0, 1) := by decide +kernel
theorem dX2_reckon_128 : decode cX2_reckon 128 = .ok (.getfield 16, 3) := by decide +kernel
theorem dX2_reckon_131 : decode cX2_reckon 131 = .ok (.aload_n 0, 1) := by decide +kernel
theorem dX2_reckon_132 : decode cX2_reckon 132 = .ok (.aload 5, 2) := by decide +kernel
theorem dX2_reckon_134 : decode cX2_reckon 134 = .ok (.aload 6, 2) := by decide +kernel
theorem dX2_reckon_136 : decode cX2_reckon 136 = .ok (.invokevirtual 85, 3) := by decide +kernel
theorem dX2_reckon_139 : decode cX2_reckon 139 = .ok (.ifCond .lt 8, 3) := by decide +kernel
theorem dX2_reckon_142 : decode cX2_reckon 142 = .ok (.aload 5, 2) := by decide +kernel
theorem dX2_reckon_144 : decode cX2_reckon 144 = .ok (.goto 5, 3) := by decide +kernel
theorem dX2_reckon_147 : decode cX2_reckon 147 = .ok (.aload 6, 2) := by decide +kernel
theorem dX2_reckon_149 : decode cX2_reckon 149 = .ok (.invokevirtual 63, 3) := by decide +kernel
theorem dX2_reckon_152 : decode cX2_reckon 152 = .ok (.goto 33, 3) := by decide +kernel
theorem dX2_reckon_155 : decode cX2_reckon 155 = .ok (.aload_n 0, 1) := by decide +kernel
theorem dX2_reckon_156 : decode cX2_reckon 156 = .ok (.getfield 16, 3) := by decide +kernel
theorem dX2_reckon_159 : decode cX2_reckon 159 = .ok (.aload_n 0, 1) := by decide +kernel
theorem dX2_reckon_160 : decode cX2_reckon 160 = .ok (.aload 5, 2) := by decide +kernel
theorem dX2_reckon_162 : decode cX2_reckon 162 = .ok (.aload 6, 2) := by decide +kernel
theorem dX2_reckon_164 : decode cX2_reckon 164 = .ok (.invokevirtual 85, 3) := by decide +kernel
theorem dX2_reckon_167 : decode cX2_reckon 167 = .ok (.ifCond .gt 8, 3) := by decide +kernel
theorem dX2_reckon_170 : decode cX2_reckon 170 = .ok (.aload 5, 2) := by decide +kernel
theorem dX2_reckon_172 : decode cX2_reckon 172 = .ok (.goto 5, 3) := by decide +kernel
theorem dX2_reckon_175 : decode cX2_reckon 175 = .ok (.aload 6, 2) := by decide +kernel
theorem dX2_reckon_177 : decode cX2_reckon 177 = .ok (.invokevirtual 63, 3) := by decide +kernel
theorem dX2_reckon_180 : decode cX2_reckon 180 = .ok (.goto 5, 3) := by decide +kernel
theorem dX2_reckon_183 : decode cX2_reckon 183 = .ok (.iconst (-1), 1) := by decide +kernel
theorem dX2_reckon_184 : decode cX2_reckon 184 = .ok (.ireturn, 1) := by decide +kernel
theorem dX2_reckon_185 : decode cX2_reckon 185 = .ok (.aload_n 0, 1) := by decide +kernel
theorem dX2_reckon_186 : decode cX2_reckon 186 = .ok (.iload_n 2, 1) := by decide +kernel
theorem dX2_reckon_187 : decode cX2_reckon 187 = .ok (.invokevirtual 59, 3) := by decide +kernel
theorem dX2_reckon_190 : decode cX2_reckon 190 = .ok (.ireturn, 1) := by decide +kernel
set_option maxRecDepth 20000 in
theorem ggX2_divide_X2_isRegister : GoodIn wsX2_divide wsX2_isRegister := goodIn_r _ [6] (by decide +kernel) (by decide +kernel)
set_option maxRecDepth 20000 in
theorem gX2_divide_X2_isRegister : GoodIn wsX2_divide (va_wsS RX2 48 yX2_isRegister wsX2_isRegister) := goodIn_app (goodIn_of _ (by decide +kernel)) ggX2_divide_X2_isRegister
set_option maxRecDepth 20000 in
theorem ggX2_divide_X2_isWay : GoodIn wsX2_divide wsX2_isWay := goodIn_r _ [9] (by decide +kernel) (by decide +kernel)
set_option maxRecDepth 20000 in
theorem gX2_divide_X2_isWay : GoodIn wsX2_divide (va_wsS RX2 89 yX2_isWay wsX2_isWay) := goodIn_app (goodIn_of _ (by decide +kernel)) ggX2_divide_X2_isWay
set_option maxRecDepth 20000 in
theorem ggX2_divide_X1_isZero : GoodIn wsX2_divide wsX1_isZero := goodIn_r _ [14, 15, 143, 144] (by decide +kernel) (by decide +kernel)
set_option maxRecDepth 20000 in
theorem gX2_divide_X1_isZero : GoodIn wsX2_divide (wsV RX2 92 RX1 yX1_isZero wsX1_isZero) := goodIn_app (goodIn_of _ (by decide +kernel)) ggX2_divide_X1_isZero
set_option maxRecDepth 20000 in
theorem ggX2_divide_X2_keepQuotient : GoodIn wsX2_divide wsX2_keepQuotient := goodIn_r _ [19, 20, 21, 5, 22, 23, 24, 25, 26, 27, 28, 29, 2, 30, 31, 32, 33, 34, 35, 36, 37, 38, 13, 39, 40, 41, 42, 43, 44, 15, 45, 46, 47, 48, 49, 50, 51, 52, 53, 54, 55, 56, 57, 58, 59, 60, 61, 62, 63, 64, 65, 66, 67, 68, 69, 70, 71, 72, 73, 74, 75, 76, 77, 78, 79, 80, 81, 82, 83, 84, 85, 86, 87, 88, 10, 11, 12, 14, 89, 90, 91, 92, 93, 94, 95, 96, 97, 98, 99, 100, 101, 102, 103, 104, 105, 106, 107, 108, 109, 110, 111, 112, 113, 1, 114, 115, 116, 117, 118, 119, 120, 121, 122, 123, 124, 125, 126, 127, 128, 129, 130, 131, 132, 133, 134, 135, 136, 137, 138, 139, 140, 141, 142, 143, 144] (by decide +kernel) (by decide +kernel)
set_option maxRecDepth 20000 in
theorem gX2_divide_X2_keepQuotient : GoodIn wsX2_divide (wsV RX2 96 RX2 yX2_keepQuotient wsX2_keepQuotient) := goodIn_app (goodIn_of _ (by decide +kernel)) ggX2_divide_X2_keepQuotient
theorem dX2_divide_0 : decode cX2_divide 0 = .ok (.iload_n 1, 1) := by decide +kernel
theorem dX2_divide_1 : decode cX2_divide 1 = .ok (.invokestatic 48, 3) := by decide +kernel
theorem dX2_divide_4 : decode cX2_divide 4 = .ok (.ifCond .eq 25, 3) := by decide +kernel
theorem dX2_divide_7 : decode cX2_divide 7 = .ok (.iload_n 2, 1) := by decide +kernel
theorem dX2_divide_8 : decode cX2_divide 8 = .ok (.invokestatic 48, 3) := by decide +kernel
theorem dX2_divide_11 : decode cX2_divide 11 = .ok (.ifCond .eq 18, 3) := by decide +kernel
theorem dX2_divide_14 : decode cX2_divide 14 = .ok (.iload_n 3, 1) := by decide +kernel
theorem dX2_divide_15 : decode cX2_divide 15 = .ok (.invokestatic 48, 3) := by decide +kernel
theorem dX2_divide_18 : decode cX2_divide 18 = .ok (.ifCond .eq 11, 3) := by decide +kernel
theorem dX2_divide_21 : decode cX2_divide 21 = .ok (.iload 5, 2) := by decide +kernel
theorem dX2_divide_23 : decode cX2_divide 23 = .ok (.invokestatic 89, 3) := by decide +kernel
theorem dX2_divide_26 : decode cX2_divide 26 = .ok (.ifCond .ne 5, 3) := by decide +kernel
theorem dX2_divide_29 : decode cX2_divide 29 = .ok (.iconst (-1), 1) := by decide +kernel
theorem dX2_divide_30 : decode cX2_divide 30 = .ok (.ireturn, 1) := by decide +kernel
theorem dX2_divide_31 : decode cX2_divide 31 = .ok (.aload_n 0, 1) := by decide +kernel
theorem dX2_divide_32 : decode cX2_divide 32 = .ok (.getfield 11, 3) := by decide +kernel
theorem dX2_divide_35 : decode cX2_divide 35 = .ok (.iload_n 3, 1) := by decide +kernel
theorem dX2_divide_36 : decode cX2_divide 36 = .ok (.aaload, 1) := by decide +kernel
theorem dX2_divide_37 : decode cX2_divide 37 = .ok (.getfield 23, 3) := by decide +kernel
theorem dX2_divide_40 : decode cX2_divide 40 = .ok (.invokevirtual 92, 3) := by decide +kernel
theorem dX2_divide_43 : decode cX2_divide 43 = .ok (.ifCond .eq 6, 3) := by decide +kernel
theorem dX2_divide_46 : decode cX2_divide 46 = .ok (.bipush (-2), 2) := by decide +kernel
theorem dX2_divide_48 : decode cX2_divide 48 = .ok (.ireturn, 1) := by decide +kernel
theorem dX2_divide_49 : decode cX2_divide 49 = .ok (.aload_n 0, 1) := by decide +kernel
theorem dX2_divide_50 : decode cX2_divide 50 = .ok (.iload_n 1, 1) := by decide +kernel
theorem dX2_divide_51 : decode cX2_divide 51 = .ok (.aload_n 0, 1) := by decide +kernel
theorem dX2_divide_52 : decode cX2_divide 52 = .ok (.getfield 11, 3) := by decide +kernel
theorem dX2_divide_55 : decode cX2_divide 55 = .ok (.iload_n 2, 1) := by decide +kernel
theorem dX2_divide_56 : decode cX2_divide 56 = .ok (.aaload, 1) := by decide +kernel
theorem dX2_divide_57 : decode cX2_divide 57 = .ok (.aload_n 0, 1) := by decide +kernel
theorem dX2_divide_58 : decode cX2_divide 58 = .ok (.getfield 11, 3) := by decide +kernel
theorem dX2_divide_61 : decode cX2_divide 61 = .ok (.iload_n 3, 1) := by decide +kernel
theorem dX2_divide_62 : decode cX2_divide 62 = .ok (.aaload, 1) := by decide +kernel
theorem dX2_divide_63 : decode cX2_divide 63 = .ok (.iload 4, 2) := by decide +kernel
theorem dX2_divide_65 : decode cX2_divide 65 = .ok (.iload 5, 2) := by decide +kernel
theorem dX2_divide_67 : decode cX2_divide 67 = .ok (.invokevirtual 96, 3) := by decide +kernel
theorem dX2_divide_70 : decode cX2_divide 70 = .ok (.ireturn, 1) := by decide +kernel
set_option maxRecDepth 20000 in
theorem ggX2_part_X2_isRegister : GoodIn wsX2_part wsX2_isRegister := goodIn_r _ [13] (by decide +kernel) (by decide +kernel)
set_option maxRecDepth 20000 in
theorem gX2_part_X2_isRegister : GoodIn wsX2_part (va_wsS RX2 48 yX2_isRegister wsX2_isRegister) := goodIn_app (goodIn_of _ (by decide +kernel)) ggX2_part_X2_isRegister
set_option maxRecDepth 20000 in
theorem ggX2_part_X1_isZero : GoodIn wsX2_part wsX1_isZero := goodIn_r _ [18, 19, 120, 121] (by decide +kernel) (by decide +kernel)
set_option maxRecDepth 20000 in
theorem gX2_part_X1_isZero : GoodIn wsX2_part (wsV RX2 92 RX1 yX1_isZero wsX1_isZero) := goodIn_app (goodIn_of _ (by decide +kernel)) ggX2_part_X1_isZero
set_option maxRecDepth 20000 in
theorem ggX2_part_X2_split : GoodIn wsX2_part wsX2_split := goodIn_r _ [23, 9, 24, 25, 2, 3, 4, 26, 27, 28, 12, 29, 30, 31, 32, 17, 33, 34, 35, 36, 37, 38, 19, 39, 40, 41, 42, 43, 44, 45, 46, 47, 48, 49, 50, 51, 52, 53, 54, 55, 56, 57, 58, 59, 60, 61, 62, 63, 64, 65, 66, 67, 68, 69, 70, 71, 72, 73, 74, 75, 76, 77, 110, 111, 112, 113, 114, 115, 116, 117, 118, 119, 120, 121] (by decide +kernel) (by decide +kernel)
set_option maxRecDepth 20000 in
theorem gX2_part_X2_split : GoodIn wsX2_part (wsV RX2 106 RX2 yX2_split wsX2_split) := goodIn_app (goodIn_of _ (by decide +kernel)) ggX2_part_X2_split
set_option maxRecDepth 20000 in
theorem ggX2_part_X2_keep : GoodIn wsX2_part wsX2_keep := goodIn_r _ [81, 25, 2, 4, 1, 82, 83, 84, 17, 85, 19, 86, 6, 7, 8, 87, 88, 89, 90, 34, 43, 91, 92, 93, 12, 94, 95, 96, 97, 98, 99, 100, 101, 102, 103, 104, 105, 106, 107, 31, 32, 33, 35, 36, 37, 38, 108, 15, 16, 18, 110, 111, 112, 113, 114, 115, 116, 117, 118, 119, 120, 121] (by decide +kernel) (by decide +kernel)
set_option maxRecDepth 20000 in
theorem gX2_part_X2_keep : GoodIn wsX2_part (wsV RX2 59 RX2 yX2_keep wsX2_keep) := goodIn_app (goodIn_of _ (by decide +kernel)) ggX2_part_X2_keep
set_option maxRecDepth 20000 in
theorem ggX2_part_X0_take : GoodIn wsX2_part wsX0_take := goodIn_r _ [106, 100, 101, 102, 107, 31, 32, 17, 33, 34, 35, 36, 37, 38, 19, 108, 15, 16, 18, 117, 118, 119, 120, 121] (by decide +kernel) (by decide +kernel)
set_option maxRecDepth 20000 in
theorem gX2_part_X0_take : GoodIn wsX2_part (wsV RX2 110 RX0 yX0_take wsX0_take) := goodIn_app (goodIn_of _ (by decide +kernel)) ggX2_part_X0_take
theorem dX2_part_0 : decode cX2_part 0 = .ok (.iload_n 1, 1) := by decide +kernel
theorem dX2_part_1 : decode cX2_part 1 = .ok (.invokestatic 48, 3) := by decide +kernel
theorem dX2_part_4 : decode cX2_part 4 = .ok (.ifCond .eq 30, 3) := by decide +kernel
theorem dX2_part_7 : decode cX2_part 7 = .ok (.iload_n 2, 1) := by decide +kernel
theorem dX2_part_8 : decode cX2_part 8 = .ok (.invokestatic 48, 3) := by decide +kernel
theorem dX2_part_11 : decode cX2_part 11 = .ok (.ifCond .eq 23, 3) := by decide +kernel
theorem dX2_part_14 : decode cX2_part 14 = .ok (.iload_n 3, 1) := by decide +kernel
theorem dX2_part_15 : decode cX2_part 15 = .ok (.invokestatic 48, 3) := by decide +kernel
theorem dX2_part_18 : decode cX2_part 18 = .ok (.ifCond .eq 16, 3) := by decide +kernel
theorem dX2_part_21 : decode cX2_part 21 = .ok (.iload 4, 2) := by decide +kernel
theorem dX2_part_23 : decode cX2_part 23 = .ok (.invokestatic 48, 3) := by decide +kernel
theorem dX2_part_26 : decode cX2_part 26 = .ok (.ifCond .eq 8, 3) := by decide +kernel
theorem dX2_part_29 : decode cX2_part 29 = .ok (.iload_n 1, 1) := by decide +kernel
theorem dX2_part_30 : decode cX2_part 30 = .ok (.iload_n 2, 1) := by decide +kernel
theorem dX2_part_31 : decode cX2_part 31 = .ok (.if_icmp .ne 5, 3) := by decide +kernel
theorem dX2_part_34 : decode cX2_part 34 = .ok (.iconst (-1), 1) := by decide +kernel
theorem dX2_part_35 : decode cX2_part 35 = .ok (.ireturn, 1) := by decide +kernel
theorem dX2_part_36 : decode cX2_part 36 = .ok (.aload_n 0, 1) := by decide +kernel
theorem dX2_part_37 : decode cX2_part 37 = .ok (.getfield 11, 3) := by decide +kernel
theorem dX2_part_40 : decode cX2_part 40 = .ok (.iload_n 3, 1) := by decide +kernel
theorem dX2_part_41 : decode cX2_part 41 = .ok (.aaload, 1) := by decide +kernel
theorem dX2_part_42 : decode cX2_part 42 = .ok (.astore 5, 2) := by decide +kernel
theorem dX2_part_44 : decode cX2_part 44 = .ok (.aload_n 0, 1) := by decide +kernel
theorem dX2_part_45 : decode cX2_part 45 = .ok (.getfield 11, 3) := by decide +kernel
theorem dX2_part_48 : decode cX2_part 48 = .ok (.iload 4, 2) := by decide +kernel
theorem dX2_part_50 : decode cX2_part 50 = .ok (.aaload, 1) := by decide +kernel
theorem dX2_part_51 : decode cX2_part 51 = .ok (.astore 6, 2) := by decide +kernel
theorem dX2_part_53 : decode cX2_part 53 = .ok (.aload 6, 2) := by decide +kernel
theorem dX2_part_55 : decode cX2_part 55 = .ok (.getfield 23, 3) := by decide +kernel
theorem dX2_part_58 : decode cX2_part 58 = .ok (.invokevirtual 92, 3) := by decide +kernel
theorem dX2_part_61 : decode cX2_part 61 = .ok (.ifCond .eq 6, 3) := by decide +kernel
theorem dX2_part_64 : decode cX2_part 64 = .ok (.bipush (-2), 2) := by decide +kernel
theorem dX2_part_66 : decode cX2_part 66 = .ok (.ireturn, 1) := by decide +kernel
theorem dX2_part_67 : decode cX2_part 67 = .ok (.aload 5, 2) := by decide +kernel
theorem dX2_part_69 : decode cX2_part 69 = .ok (.getfield 52, 3) := by decide +kernel
theorem dX2_part_72 : decode cX2_part 72 = .ok (.istore 7, 2) := by decide +kernel
theorem dX2_part_74 : decode cX2_part 74 = .ok (.aload 5, 2) := by decide +kernel
theorem dX2_part_76 : decode cX2_part 76 = .ok (.getfield 56, 3) := by decide +kernel
theorem dX2_part_79 : decode cX2_part 79 = .ok (.aload 6, 2) := by decide +kernel
theorem dX2_part_81 : decode cX2_part 81 = .ok (.getfield 56, 3) := by decide +kernel
theorem dX2_part_84 : decode cX2_part 84 = .ok (.invokestatic 100, 3) := by decide +kernel
theorem dX2_part_87 : decode cX2_part 87 = .ok (.istore 8, 2) := by decide +kernel
theorem dX2_part_89 : decode cX2_part 89 = .ok (.aload_n 0, 1) := by decide +kernel
theorem dX2_part_90 : decode cX2_part 90 = .ok (.aload 5, 2) := by decide +kernel
theorem dX2_part_92 : decode cX2_part 92 = .ok (.aload 6, 2) := by decide +kernel
theorem dX2_part_94 : decode cX2_part 94 = .ok (.iconst 0, 1) := by decide +kernel
theorem dX2_part_95 : decode cX2_part 95 = .ok (.invokevirtual 106, 3) := by decide +kernel
theorem dX2_part_98 : decode cX2_part 98 = .ok (.aload_n 0, 1) := by decide +kernel
theorem dX2_part_99 : decode cX2_part 99 = .ok (.iload_n 1, 1) := by decide +kernel
theorem dX2_part_100 : decode cX2_part 100 = .ok (.invokevirtual 59, 3) := by decide +kernel
theorem dX2_part_103 : decode cX2_part 103 = .ok (.istore 9, 2) := by decide +kernel
theorem dX2_part_105 : decode cX2_part 105 = .ok (.iload 9, 2) := by decide +kernel
theorem dX2_part_107 : decode cX2_part 107 = .ok (.bipush (-3), 2) := by decide +kernel
theorem dX2_part_109 : decode cX2_part 109 = .ok (.if_icmp .eq 20, 3) := by decide +kernel
theorem dX2_part_112 : decode cX2_part 112 = .ok (.aload_n 0, 1) := by decide +kernel
theorem dX2_part_113 : decode cX2_part 113 = .ok (.getfield 11, 3) := by decide +kernel
theorem dX2_part_116 : decode cX2_part 116 = .ok (.iload_n 2, 1) := by decide +kernel
theorem dX2_part_117 : decode cX2_part 117 = .ok (.aaload, 1) := by decide +kernel
theorem dX2_part_118 : decode cX2_part 118 = .ok (.aload_n 0, 1) := by decide +kernel
theorem dX2_part_119 : decode cX2_part 119 = .ok (.getfield 34, 3) := by decide +kernel
theorem dX2_part_122 : decode cX2_part 122 = .ok (.iload 7, 2) := by decide +kernel
theorem dX2_part_124 : decode cX2_part 124 = .ok (.iload 8, 2) := by decide +kernel
theorem dX2_part_126 : decode cX2_part 126 = .ok (.invokevirtual 110, 3) := by decide +kernel
theorem dX2_part_129 : decode cX2_part 129 = .ok (.iload 9, 2) := by decide +kernel
theorem dX2_part_131 : decode cX2_part 131 = .ok (.ireturn, 1) := by decide +kernel
set_option maxRecDepth 20000 in
theorem ggX2_scale_X2_isRegister : GoodIn wsX2_scale wsX2_isRegister := goodIn_r _ [6] (by decide +kernel) (by decide +kernel)
set_option maxRecDepth 20000 in
theorem gX2_scale_X2_isRegister : GoodIn wsX2_scale (va_wsS RX2 48 yX2_isRegister wsX2_isRegister) := goodIn_app (goodIn_of _ (by decide +kernel)) ggX2_scale_X2_isRegister
set_option maxRecDepth 20000 in
theorem ggX2_scale_X2_isWay : GoodIn wsX2_scale wsX2_isWay := goodIn_r _ [9] (by decide +kernel) (by decide +kernel)
set_option maxRecDepth 20000 in
theorem gX2_scale_X2_isWay : GoodIn wsX2_scale (va_wsS RX2 89 yX2_isWay wsX2_isWay) := goodIn_app (goodIn_of _ (by decide +kernel)) ggX2_scale_X2_isWay
set_option maxRecDepth 20000 in
theorem ggX2_scale_X2_keepQuotient : GoodIn wsX2_scale wsX2_keepQuotient := goodIn_r _ [13, 14, 15, 5, 16, 17, 18, 19, 20, 21, 22, 23, 24, 25, 26, 27, 28, 29, 30, 31, 32, 33, 34, 35, 36, 37, 38, 39, 40, 41, 42, 43, 44, 45, 46, 47, 48, 49, 50, 51, 52, 53, 54, 55, 56, 57, 58, 59, 60, 61, 62, 63, 64, 65, 66, 67, 68, 69, 70, 71, 72, 73, 74, 75, 76, 77, 78, 79, 80, 81, 82, 83, 84, 2, 85, 86, 87, 88, 89, 90, 91, 92, 93, 94, 95, 96, 97, 98, 99, 100, 101, 102, 103, 104, 105, 106, 107, 108, 109, 110, 111, 112, 113, 1, 114, 115, 116, 117, 118, 119, 120, 121, 122, 123, 124, 125, 126, 127, 128, 129, 130, 131, 132, 133, 134, 135, 136, 137, 138, 139, 140, 141, 142, 143, 144] (by decide +kernel) (by decide +kernel)
set_option maxRecDepth 20000 in
theorem gX2_scale_X2_keepQuotient : GoodIn wsX2_scale (wsV RX2 96 RX2 yX2_keepQuotient wsX2_keepQuotient) := goodIn_app (goodIn_of _ (by decide +kernel)) ggX2_scale_X2_keepQuotient
theorem dX2_scale_0 : decode cX2_scale 0 = .ok (.iload_n 1, 1) := by decide +kernel
theorem dX2_scale_1 : decode cX2_scale 1 = .ok (.invokestatic 48, 3) := by decide +kernel
theorem dX2_scale_4 : decode cX2_scale 4 = .ok (.ifCond .eq 18, 3) := by decide +kernel
theorem dX2_scale_7 : decode cX2_scale 7 = .ok (.iload_n 2, 1) := by decide +kernel
theorem dX2_scale_8 : decode cX2_scale 8 = .ok (.invokestatic 48, 3) := by decide +kernel
theorem dX2_scale_11 : decode cX2_scale 11 = .ok (.ifCond .eq 11, 3) := by decide +kernel
theorem dX2_scale_14 : decode cX2_scale 14 = .ok (.iload 4, 2) := by decide +kernel
theorem dX2_scale_16 : decode cX2_scale 16 = .ok (.invokestatic 89, 3) := by decide +kernel
theorem dX2_scale_19 : decode cX2_scale 19 = .ok (.ifCond .ne 5, 3) := by decide +kernel
theorem dX2_scale_22 : decode cX2_scale 22 = .ok (.iconst (-1), 1) := by decide +kernel
theorem dX2_scale_23 : decode cX2_scale 23 = .ok (.ireturn, 1) := by decide +kernel
theorem dX2_scale_24 : decode cX2_scale 24 = .ok (.aload_n 0, 1) := by decide +kernel
theorem dX2_scale_25 : decode cX2_scale 25 = .ok (.iload_n 1, 1) := by decide +kernel
theorem dX2_scale_26 : decode cX2_scale 26 = .ok (.aload_n 0, 1) := by decide +kernel
theorem dX2_scale_27 : decode cX2_scale 27 = .ok (.getfield 11, 3) := by decide +kernel
theorem dX2_scale_30 : decode cX2_scale 30 = .ok (.iload_n 2, 1) := by decide +kernel
theorem dX2_scale_31 : decode cX2_scale 31 = .ok (.aaload, 1) := by decide +kernel
theorem dX2_scale_32 : decode cX2_scale 32 = .ok (.aload_n 0, 1) := by decide +kernel
theorem dX2_scale_33 : decode cX2_scale 33 = .ok (.getfield 20, 3) := by decide +kernel
theorem dX2_scale_36 : decode cX2_scale 36 = .ok (.iload_n 3, 1) := by decide +kernel
theorem dX2_scale_37 : decode cX2_scale 37 = .ok (.iload 4, 2) := by decide +kernel
theorem dX2_scale_39 : decode cX2_scale 39 = .ok (.invokevirtual 96, 3) := by decide +kernel
theorem dX2_scale_42 : decode cX2_scale 42 = .ok (.ireturn, 1) := by decide +kernel
set_option maxRecDepth 20000 in
theorem ggX2_round_X2_isRegister : GoodIn wsX2_round wsX2_isRegister := goodIn_r _ [7] (by decide +kernel) (by decide +kernel)
set_option maxRecDepth 20000 in
theorem gX2_round_X2_isRegister : GoodIn wsX2_round (va_wsS RX2 48 yX2_isRegister wsX2_isRegister) := goodIn_app (goodIn_of _ (by decide +kernel)) ggX2_round_X2_isRegister
set_option maxRecDepth 20000 in
theorem ggX2_round_X2_isWay : GoodIn wsX2_round wsX2_isWay := goodIn_r _ [10] (by decide +kernel) (by decide +kernel)
set_option maxRecDepth 20000 in
theorem gX2_round_X2_isWay : GoodIn wsX2_round (va_wsS RX2 89 yX2_isWay wsX2_isWay) := goodIn_app (goodIn_of _ (by decide +kernel)) ggX2_round_X2_isWay
set_option maxRecDepth 20000 in
theorem ggX2_round_X1_precision : GoodIn wsX2_round wsX1_precision := goodIn_r _ [15, 16, 17, 18, 19, 20, 21, 22, 23, 14, 24, 25, 26, 27, 143, 144] (by decide +kernel) (by decide +kernel)
set_option maxRecDepth 20000 in
theorem gX2_round_X1_precision : GoodIn wsX2_round (wsV RX2 114 RX1 yX1_precision wsX1_precision) := goodIn_app (goodIn_of _ (by decide +kernel)) ggX2_round_X1_precision
set_option maxRecDepth 20000 in
theorem ggX2_round_X0_become : GoodIn wsX2_round wsX0_become := goodIn_r _ [32, 33, 34, 35, 36, 37, 38, 31, 39, 40, 41, 42, 14, 43, 25, 44, 45, 46, 47, 16, 48, 49, 50, 51, 140, 141, 142, 143, 144] (by decide +kernel) (by decide +kernel)
set_option maxRecDepth 20000 in
theorem gX2_round_X0_become : GoodIn wsX2_round (wsV RX2 63 RX0 yX0_become wsX0_become) := goodIn_app (goodIn_of _ (by decide +kernel)) ggX2_round_X0_become
set_option maxRecDepth 20000 in
theorem ggX2_round_X2_cutOff : GoodIn wsX2_round wsX2_cutOff := goodIn_r _ [55, 3, 56, 57, 58, 59, 60, 6, 61, 62, 63, 2, 64, 65, 66, 67, 68, 69, 41, 42, 14, 43, 25, 44, 45, 46, 47, 16, 70, 71, 72, 73, 26, 74, 75, 76, 77, 78, 79, 80, 81, 82, 83, 84, 85, 86, 87, 88, 89, 90, 91, 92, 93, 94, 95, 96, 97, 98, 99, 100, 101, 102, 103, 104, 105, 106, 107, 133, 134, 135, 136, 137, 138, 139, 140, 141, 142, 143, 144] (by decide +kernel) (by decide +kernel)
set_option maxRecDepth 20000 in
theorem gX2_round_X2_cutOff : GoodIn wsX2_round (wsV RX2 118 RX2 yX2_cutOff wsX2_cutOff) := goodIn_app (goodIn_of _ (by decide +kernel)) ggX2_round_X2_cutOff
set_option maxRecDepth 20000 in
theorem ggX2_round_X2_settle : GoodIn wsX2_round wsX2_settle := goodIn_r _ [111, 62, 63, 3, 2, 56, 112, 49, 50, 14, 51, 16, 113, 114, 115, 116, 17, 18, 19, 20, 25, 74, 75, 76, 77, 78, 117, 118, 119, 120, 121, 122, 123, 6, 124, 64, 125, 22, 23, 24, 26, 27, 133, 134, 135, 136, 137, 138, 139, 140, 141, 142, 143, 144] (by decide +kernel) (by decide +kernel)
set_option maxRecDepth 20000 in
theorem gX2_round_X2_settle : GoodIn wsX2_round (wsV RX2 121 RX2 yX2_settle wsX2_settle) := goodIn_app (goodIn_of _ (by decide +kernel)) ggX2_round_X2_settle
set_option maxRecDepth 20000 in
theorem ggX2_round_X2_keep : GoodIn wsX2_round wsX2_keep := goodIn_r _ [129, 3, 2, 57, 1, 11, 12, 13, 14, 15, 16, 17, 18, 19, 20, 21, 22, 23, 24, 25, 26, 27, 130, 131, 6, 132, 28, 29, 30, 31, 32, 33, 34, 35, 36, 37, 38, 39, 40, 41, 42, 43, 44, 45, 46, 47, 48, 49, 50, 51, 133, 134, 135, 136, 137, 138, 139, 140, 141, 142, 143, 144] (by decide +kernel) (by decide +kernel)
set_option maxRecDepth 20000 in
theorem gX2_round_X2_keep : GoodIn wsX2_round (wsV RX2 59 RX2 yX2_keep wsX2_keep) := goodIn_app (goodIn_of _ (by decide +kernel)) ggX2_round_X2_keep
theorem dX2_round_0 : decode cX2_round 0 = .ok (.iload_n 1, 1) := by decide +kernel
theorem dX2_round_1 : decode cX2_round 1 = .ok (.invokestatic 48, 3) := by decide +kernel
theorem dX2_round_4 : decode cX2_round 4 = .ok (.ifCond .eq 23, 3) := by decide +kernel
theorem dX2_round_7 : decode cX2_round 7 = .ok (.iload_n 2, 1) := by decide +kernel
theorem dX2_round_8 : decode cX2_round 8 = .ok (.invokestatic 48, 3) := by decide +kernel
theorem dX2_round_11 : decode cX2_round 11 = .ok (.ifCond .eq 16, 3) := by decide +kernel
theorem dX2_round_14 : decode cX2_round 14 = .ok (.iload 4, 2) := by decide +kernel
theorem dX2_round_16 : decode cX2_round 16 = .ok (.invokestatic 89, 3) := by decide +kernel
theorem dX2_round_19 : decode cX2_round 19 = .ok (.ifCond .eq 8, 3) := by decide +kernel
theorem dX2_round_22 : decode cX2_round 22 = .ok (.iload_n 3, 1) := by decide +kernel
theorem dX2_round_23 : decode cX2_round 23 = .ok (.iconst 1, 1) := by decide +kernel
theorem dX2_round_24 : decode cX2_round 24 = .ok (.if_icmp .ge 5, 3) := by decide +kernel
theorem dX2_round_27 : decode cX2_round 27 = .ok (.iconst (-1), 1) := by decide +kernel
theorem dX2_round_28 : decode cX2_round 28 = .ok (.ireturn, 1) := by decide +kernel
theorem dX2_round_29 : decode cX2_round 29 = .ok (.aload_n 0, 1) := by decide +kernel
theorem dX2_round_30 : decode cX2_round 30 = .ok (.getfield 11, 3) := by decide +kernel
theorem dX2_round_33 : decode cX2_round 33 = .ok (.iload_n 2, 1) := by decide +kernel
theorem dX2_round_34 : decode cX2_round 34 = .ok (.aaload, 1) := by decide +kernel
theorem dX2_round_35 : decode cX2_round 35 = .ok (.astore 5, 2) := by decide +kernel
theorem dX2_round_37 : decode cX2_round 37 = .ok (.aload 5, 2) := by decide +kernel
theorem dX2_round_39 : decode cX2_round 39 = .ok (.getfield 23, 3) := by decide +kernel
theorem dX2_round_42 : decode cX2_round 42 = .ok (.invokevirtual 114, 3) := by decide +kernel
theorem dX2_round_45 : decode cX2_round 45 = .ok (.iload_n 3, 1) := by decide +kernel
theorem dX2_round_46 : decode cX2_round 46 = .ok (.isub, 1) := by decide +kernel
theorem dX2_round_47 : decode cX2_round 47 = .ok (.istore 6, 2) := by decide +kernel
theorem dX2_round_49 : decode cX2_round 49 = .ok (.iload 6, 2) := by decide +kernel
theorem dX2_round_51 : decode cX2_round 51 = .ok (.bipush 18, 2) := by decide +kernel
theorem dX2_round_53 : decode cX2_round 53 = .ok (.if_icmp .le 5, 3) := by decide +kernel
theorem dX2_round_56 : decode cX2_round 56 = .ok (.iconst (-1), 1) := by decide +kernel
theorem dX2_round_57 : decode cX2_round 57 = .ok (.ireturn, 1) := by decide +kernel
theorem dX2_round_58 : decode cX2_round 58 = .ok (.aload_n 0, 1) := by decide +kernel
theorem dX2_round_59 : decode cX2_round 59 = .ok (.getfield 16, 3) := by decide +kernel
theorem dX2_round_62 : decode cX2_round 62 = .ok (.aload 5, 2) := by decide +kernel
theorem dX2_round_64 : decode cX2_round 64 = .ok (.invokevirtual 63, 3) := by decide +kernel
theorem dX2_round_67 : decode cX2_round 67 = .ok (.iload 6, 2) := by decide +kernel
theorem dX2_round_69 : decode cX2_round 69 = .ok (.ifCond .le 40, 3) := by decide +kernel
theorem dX2_round_72 : decode cX2_round 72 = .ok (.aload_n 0, 1) := by decide +kernel
theorem dX2_round_73 : decode cX2_round 73 = .ok (.iload 6, 2) := by decide +kernel
theorem dX2_round_75 : decode cX2_round 75 = .ok (.invokevirtual 118, 3) := by decide +kernel
theorem dX2_round_78 : decode cX2_round 78 = .ok (.aload_n 0, 1) := by decide +kernel
theorem dX2_round_79 : decode cX2_round 79 = .ok (.iload 4, 2) := by decide +kernel
theorem dX2_round_81 : decode cX2_round 81 = .ok (.invokevirtual 121, 3) := by decide +kernel
theorem dX2_round_84 : decode cX2_round 84 = .ok (.ifCond .ne 6, 3) := by decide +kernel
theorem dX2_round_87 : decode cX2_round 87 = .ok (.bipush (-4), 2) := by decide +kernel
theorem dX2_round_89 : decode cX2_round 89 = .ok (.ireturn, 1) := by decide +kernel
theorem dX2_round_90 : decode cX2_round 90 = .ok (.aload_n 0, 1) := by decide +kernel
theorem dX2_round_91 : decode cX2_round 91 = .ok (.getfield 16, 3) := by decide +kernel
theorem dX2_round_94 : decode cX2_round 94 = .ok (.getfield 23, 3) := by decide +kernel
theorem dX2_round_97 : decode cX2_round 97 = .ok (.invokevirtual 114, 3) := by decide +kernel
theorem dX2_round_100 : decode cX2_round 100 = .ok (.iload_n 3, 1) := by decide +kernel
theorem dX2_round_101 : decode cX2_round 101 = .ok (.if_icmp .le 8, 3) := by decide +kernel
theorem dX2_round_104 : decode cX2_round 104 = .ok (.aload_n 0, 1) := by decide +kernel
theorem dX2_round_105 : decode cX2_round 105 = .ok (.iconst 1, 1) := by decide +kernel
theorem dX2_round_106 : decode cX2_round 106 = .ok (.invokevirtual 118, 3) := by decide +kernel
theorem dX2_round_109 : decode cX2_round 109 = .ok (.aload_n 0, 1) := by decide +kernel
theorem dX2_round_110 : decode cX2_round 110 = .ok (.iload_n 1, 1) := by decide +kernel
theorem dX2_round_111 : decode cX2_round 111 = .ok (.invokevirtual 59, 3) := by decide +kernel
theorem dX2_round_114 : decode cX2_round 114 = .ok (.ireturn, 1) := by decide +kernel
set_option maxRecDepth 20000 in
theorem ggX2_turn_X2_isRegister : GoodIn wsX2_turn wsX2_isRegister := goodIn_r _ [7] (by decide +kernel) (by decide +kernel)
set_option maxRecDepth 20000 in
theorem gX2_turn_X2_isRegister : GoodIn wsX2_turn (va_wsS RX2 48 yX2_isRegister wsX2_isRegister) := goodIn_app (goodIn_of _ (by decide +kernel)) ggX2_turn_X2_isRegister
set_option maxRecDepth 20000 in
theorem ggX2_turn_X0_become : GoodIn wsX2_turn wsX0_become := goodIn_r _ [12, 13, 14, 15, 16, 17, 18, 11, 19, 20, 21, 22, 23, 24, 25, 26, 27, 28, 29, 30, 31, 32, 33, 34, 128, 129, 130, 131, 132] (by decide +kernel) (by decide +kernel)
set_option maxRecDepth 20000 in
theorem gX2_turn_X0_become : GoodIn wsX2_turn (wsV RX2 63 RX0 yX0_become wsX0_become) := goodIn_app (goodIn_of _ (by decide +kernel)) ggX2_turn_X0_become
set_option maxRecDepth 20000 in
theorem ggX2_turn_X2_cutOffZeros : GoodIn wsX2_turn wsX2_cutOffZeros := goodIn_r _ [38, 1, 39, 40, 41, 32, 33, 23, 34, 30, 42, 43, 44, 45, 46, 47, 48, 49, 25, 50, 51, 52, 53, 54, 6, 55, 56, 57, 58, 59, 60, 61, 62, 3, 63, 64, 65, 66, 67, 21, 22, 24, 26, 27, 28, 29, 68, 69, 70, 71, 72, 73, 74, 75, 76, 77, 78, 79, 80, 81, 82, 83, 84, 85, 86, 87, 88, 89, 90, 91, 92, 93, 94, 95, 96, 97, 98, 99, 100, 101, 102, 103, 104, 105, 121, 122, 123, 124, 125, 126, 127, 128, 129, 130, 131, 132] (by decide +kernel) (by decide +kernel)
set_option maxRecDepth 20000 in
theorem gX2_turn_X2_cutOffZeros : GoodIn wsX2_turn (wsV RX2 124 RX2 yX2_cutOffZeros wsX2_cutOffZeros) := goodIn_app (goodIn_of _ (by decide +kernel)) ggX2_turn_X2_cutOffZeros
set_option maxRecDepth 20000 in
theorem ggX2_turn_X2_keep : GoodIn wsX2_turn wsX2_keep := goodIn_r _ [109, 1, 39, 40, 2, 110, 111, 112, 23, 113, 30, 114, 115, 116, 117, 46, 47, 48, 49, 25, 50, 51, 118, 119, 6, 120, 8, 9, 10, 11, 12, 13, 14, 15, 16, 17, 18, 19, 20, 21, 22, 24, 26, 27, 28, 29, 31, 32, 33, 34, 121, 122, 123, 124, 125, 126, 127, 128, 129, 130, 131, 132] (by decide +kernel) (by decide +kernel)
set_option maxRecDepth 20000 in
theorem gX2_turn_X2_keep : GoodIn wsX2_turn (wsV RX2 59 RX2 yX2_keep wsX2_keep) := goodIn_app (goodIn_of _ (by decide +kernel)) ggX2_turn_X2_keep
theorem dX2_turn_0 : decode cX2_turn 0 = .ok (.iload_n 2, 1) := by decide +kernel
theorem dX2_turn_1 : decode cX2_turn 1 = .ok (.invokestatic 48, 3) := by decide +kernel
theorem dX2_turn_4 : decode cX2_turn 4 = .ok (.ifCond .eq 10, 3) := by decide +kernel
theorem dX2_turn_7 : decode cX2_turn 7 = .ok (.iload_n 3, 1) := by decide +kernel
theorem dX2_turn_8 : decode cX2_turn 8 = .ok (.invokestatic 48, 3) := by decide +kernel
theorem dX2_turn_11 : decode cX2_turn 11 = .ok (.ifCond .ne 5, 3) := by decide +kernel
theorem dX2_turn_14 : decode cX2_turn 14 = .ok (.iconst (-1), 1) := by decide +kernel
theorem dX2_turn_15 : decode cX2_turn 15 = .ok (.ireturn, 1) := by decide +kernel
theorem dX2_turn_16 : decode cX2_turn 16 = .ok (.aload_n 0, 1) := by decide +kernel
theorem dX2_turn_17 : decode cX2_turn 17 = .ok (.getfield 16, 3) := by decide +kernel
theorem dX2_turn_20 : decode cX2_turn 20 = .ok (.aload_n 0, 1) := by decide +kernel
theorem dX2_turn_21 : decode cX2_turn 21 = .ok (.getfield 11, 3) := by decide +kernel
theorem dX2_turn_24 : decode cX2_turn 24 = .ok (.iload_n 3, 1) := by decide +kernel
theorem dX2_turn_25 : decode cX2_turn 25 = .ok (.aaload, 1) := by decide +kernel
theorem dX2_turn_26 : decode cX2_turn 26 = .ok (.invokevirtual 63, 3) := by decide +kernel
theorem dX2_turn_29 : decode cX2_turn 29 = .ok (.iload_n 1, 1) := by decide +kernel
theorem dX2_turn_30 : decode cX2_turn 30 = .ok (.tableswitch 69 0 2 #[26, 37, 62], 26) := by decide +kernel
theorem dX2_turn_56 : decode cX2_turn 56 = .ok (.aload_n 0, 1) := by decide +kernel
theorem dX2_turn_57 : decode cX2_turn 57 = .ok (.getfield 16, 3) := by decide +kernel
theorem dX2_turn_60 : decode cX2_turn 60 = .ok (.iconst 0, 1) := by decide +kernel
theorem dX2_turn_61 : decode cX2_turn 61 = .ok (.putfield 52, 3) := by decide +kernel
theorem dX2_turn_64 : decode cX2_turn 64 = .ok (.goto 37, 3) := by decide +kernel
theorem dX2_turn_67 : decode cX2_turn 67 = .ok (.aload_n 0, 1) := by decide +kernel
theorem dX2_turn_68 : decode cX2_turn 68 = .ok (.getfield 16, 3) := by decide +kernel
theorem dX2_turn_71 : decode cX2_turn 71 = .ok (.aload_n 0, 1) := by decide +kernel
theorem dX2_turn_72 : decode cX2_turn 72 = .ok (.getfield 16, 3) := by decide +kernel
theorem dX2_turn_75 : decode cX2_turn 75 = .ok (.getfield 52, 3) := by decide +kernel
theorem dX2_turn_78 : decode cX2_turn 78 = .ok (.ifCond .ne 7, 3) := by decide +kernel
theorem dX2_turn_81 : decode cX2_turn 81 = .ok (.iconst 1, 1) := by decide +kernel
theorem dX2_turn_82 : decode cX2_turn 82 = .ok (.goto 4, 3) := by decide +kernel
theorem dX2_turn_85 : decode cX2_turn 85 = .ok (.iconst 0, 1) := by decide +kernel
theorem dX2_turn_86 : decode cX2_turn 86 = .ok (.putfield 52, 3) := by decide +kernel
theorem dX2_turn_89 : decode cX2_turn 89 = .ok (.goto 12, 3) := by decide +kernel
theorem dX2_turn_92 : decode cX2_turn 92 = .ok (.aload_n 0, 1) := by decide +kernel
theorem dX2_turn_93 : decode cX2_turn 93 = .ok (.invokevirtual 124, 3) := by decide +kernel
theorem dX2_turn_96 : decode cX2_turn 96 = .ok (.goto 5, 3) := by decide +kernel
theorem dX2_turn_99 : decode cX2_turn 99 = .ok (.iconst (-1), 1) := by decide +kernel
theorem dX2_turn_100 : decode cX2_turn 100 = .ok (.ireturn, 1) := by decide +kernel
theorem dX2_turn_101 : decode cX2_turn 101 = .ok (.aload_n 0, 1) := by decide +kernel
theorem dX2_turn_102 : decode cX2_turn 102 = .ok (.iload_n 2, 1) := by decide +kernel
theorem dX2_turn_103 : decode cX2_turn 103 = .ok (.invokevirtual 59, 3) := by decide +kernel
theorem dX2_turn_106 : decode cX2_turn 106 = .ok (.ireturn, 1) := by decide +kernel
set_option maxRecDepth 20000 in
theorem ggX2_move_X2_isRegister : GoodIn wsX2_move wsX2_isRegister := goodIn_r _ [8] (by decide +kernel) (by decide +kernel)
set_option maxRecDepth 20000 in
theorem gX2_move_X2_isRegister : GoodIn wsX2_move (va_wsS RX2 48 yX2_isRegister wsX2_isRegister) := goodIn_app (goodIn_of _ (by decide +kernel)) ggX2_move_X2_isRegister
set_option maxRecDepth 20000 in
theorem ggX2_move_X0_become : GoodIn wsX2_move wsX0_become := goodIn_r _ [13, 14, 15, 16, 17, 18, 19, 12, 20, 21, 22, 23, 24, 25, 26, 27, 28, 29, 30, 31, 32, 33, 34, 35, 77, 78, 79, 80, 81] (by decide +kernel) (by decide +kernel)
set_option maxRecDepth 20000 in
theorem gX2_move_X0_become : GoodIn wsX2_move (wsV RX2 63 RX0 yX0_become wsX0_become) := goodIn_app (goodIn_of _ (by decide +kernel)) ggX2_move_X0_become
set_option maxRecDepth 20000 in
theorem ggX2_move_X1_raise : GoodIn wsX2_move wsX1_raise := goodIn_r _ [39, 31, 40, 26, 41, 42, 43, 44, 24, 45, 46, 47, 48, 49, 80, 81] (by decide +kernel) (by decide +kernel)
set_option maxRecDepth 20000 in
theorem gX2_move_X1_raise : GoodIn wsX2_move (wsV RX2 67 RX1 yX1_raise wsX1_raise) := goodIn_app (goodIn_of _ (by decide +kernel)) ggX2_move_X1_raise
set_option maxRecDepth 20000 in
theorem ggX2_move_X2_keep : GoodIn wsX2_move wsX2_keep := goodIn_r _ [53, 1, 4, 3, 2, 54, 55, 56, 24, 57, 31, 58, 59, 60, 61, 62, 63, 64, 65, 26, 40, 66, 67, 68, 7, 69, 9, 10, 11, 12, 13, 14, 15, 16, 17, 18, 19, 20, 21, 22, 23, 25, 27, 28, 29, 30, 32, 33, 34, 35, 70, 71, 72, 73, 74, 75, 76, 77, 78, 79, 80, 81] (by decide +kernel) (by decide +kernel)
set_option maxRecDepth 20000 in
theorem gX2_move_X2_keep : GoodIn wsX2_move (wsV RX2 59 RX2 yX2_keep wsX2_keep) := goodIn_app (goodIn_of _ (by decide +kernel)) ggX2_move_X2_keep
theorem dX2_move_0 : decode cX2_move 0 = .ok (.iload_n 2, 1) := by decide +kernel
theorem dX2_move_1 : decode cX2_move 1 = .ok (.invokestatic 48, 3) := by decide +kernel
theorem dX2_move_4 : decode cX2_move 4 = .ok (.ifCond .eq 19, 3) := by decide +kernel
theorem dX2_move_7 : decode cX2_move 7 = .ok (.iload_n 3, 1) := by decide +kernel
theorem dX2_move_8 : decode cX2_move 8 = .ok (.invokestatic 48, 3) := by decide +kernel
theorem dX2_move_11 : decode cX2_move 11 = .ok (.ifCond .eq 12, 3) := by decide +kernel
theorem dX2_move_14 : decode cX2_move 14 = .ok (.iload_n 1, 1) := by decide +kernel
theorem dX2_move_15 : decode cX2_move 15 = .ok (.ifCond .lt 8, 3) := by decide +kernel
theorem dX2_move_18 : decode cX2_move 18 = .ok (.iload_n 1, 1) := by decide +kernel
theorem dX2_move_19 : decode cX2_move 19 = .ok (.iconst 1, 1) := by decide +kernel
theorem dX2_move_20 : decode cX2_move 20 = .ok (.if_icmp .le 5, 3) := by decide +kernel
theorem dX2_move_23 : decode cX2_move 23 = .ok (.iconst (-1), 1) := by decide +kernel
theorem dX2_move_24 : decode cX2_move 24 = .ok (.ireturn, 1) := by decide +kernel
theorem dX2_move_25 : decode cX2_move 25 = .ok (.iload 4, 2) := by decide +kernel
theorem dX2_move_27 : decode cX2_move 27 = .ok (.bipush (-12), 2) := by decide +kernel
theorem dX2_move_29 : decode cX2_move 29 = .ok (.if_icmp .lt 10, 3) := by decide +kernel
theorem dX2_move_32 : decode cX2_move 32 = .ok (.iload 4, 2) := by decide +kernel
theorem dX2_move_34 : decode cX2_move 34 = .ok (.bipush 12, 2) := by decide +kernel
theorem dX2_move_36 : decode cX2_move 36 = .ok (.if_icmp .le 5, 3) := by decide +kernel
theorem dX2_move_39 : decode cX2_move 39 = .ok (.iconst (-1), 1) := by decide +kernel
theorem dX2_move_40 : decode cX2_move 40 = .ok (.ireturn, 1) := by decide +kernel
theorem dX2_move_41 : decode cX2_move 41 = .ok (.aload_n 0, 1) := by decide +kernel
theorem dX2_move_42 : decode cX2_move 42 = .ok (.getfield 16, 3) := by decide +kernel
theorem dX2_move_45 : decode cX2_move 45 = .ok (.aload_n 0, 1) := by decide +kernel
theorem dX2_move_46 : decode cX2_move 46 = .ok (.getfield 11, 3) := by decide +kernel
theorem dX2_move_49 : decode cX2_move 49 = .ok (.iload_n 3, 1) := by decide +kernel
theorem dX2_move_50 : decode cX2_move 50 = .ok (.aaload, 1) := by decide +kernel
theorem dX2_move_51 : decode cX2_move 51 = .ok (.invokevirtual 63, 3) := by decide +kernel
theorem dX2_move_54 : decode cX2_move 54 = .ok (.aload_n 0, 1) := by decide +kernel
theorem dX2_move_55 : decode cX2_move 55 = .ok (.getfield 16, 3) := by decide +kernel
theorem dX2_move_58 : decode cX2_move 58 = .ok (.dup, 1) := by decide +kernel
theorem dX2_move_59 : decode cX2_move 59 = .ok (.getfield 56, 3) := by decide +kernel
theorem dX2_move_62 : decode cX2_move 62 = .ok (.iload 4, 2) := by decide +kernel
theorem dX2_move_64 : decode cX2_move 64 = .ok (.isub, 1) := by decide +kernel
theorem dX2_move_65 : decode cX2_move 65 = .ok (.putfield 56, 3) := by decide +kernel
theorem dX2_move_68 : decode cX2_move 68 = .ok (.iload_n 1, 1) := by decide +kernel
theorem dX2_move_69 : decode cX2_move 69 = .ok (.iconst 1, 1) := by decide +kernel
theorem dX2_move_70 : decode cX2_move 70 = .ok (.if_icmp .ne 39, 3) := by decide +kernel
theorem dX2_move_73 : decode cX2_move 73 = .ok (.aload_n 0, 1) := by decide +kernel
theorem dX2_move_74 : decode cX2_move 74 = .ok (.getfield 16, 3) := by decide +kernel
theorem dX2_move_77 : decode cX2_move 77 = .ok (.getfield 56, 3) := by decide +kernel
theorem dX2_move_80 : decode cX2_move 80 = .ok (.ifCond .ge 29, 3) := by decide +kernel
theorem dX2_move_83 : decode cX2_move 83 = .ok (.aload_n 0, 1) := by decide +kernel
theorem dX2_move_84 : decode cX2_move 84 = .ok (.getfield 16, 3) := by decide +kernel
theorem dX2_move_87 : decode cX2_move 87 = .ok (.getfield 23, 3) := by decide +kernel
theorem dX2_move_90 : decode cX2_move 90 = .ok (.aload_n 0, 1) := by decide +kernel
theorem dX2_move_91 : decode cX2_move 91 = .ok (.getfield 16, 3) := by decide +kernel
theorem dX2_move_94 : decode cX2_move 94 = .ok (.getfield 56, 3) := by decide +kernel
theorem dX2_move_97 : decode cX2_move 97 = .ok (.ineg, 1) := by decide +kernel
theorem dX2_move_98 : decode cX2_move 98 = .ok (.invokevirtual 67, 3) := by decide +kernel
theorem dX2_move_101 : decode cX2_move 101 = .ok (.aload_n 0, 1) := by decide +kernel
theorem dX2_move_102 : decode cX2_move 102 = .ok (.getfield 16, 3) := by decide +kernel
theorem dX2_move_105 : decode cX2_move 105 = .ok (.iconst 0, 1) := by decide +kernel
theorem dX2_move_106 : decode cX2_move 106 = .ok (.putfield 56, 3) := by decide +kernel
theorem dX2_move_109 : decode cX2_move 109 = .ok (.aload_n 0, 1) := by decide +kernel
theorem dX2_move_110 : decode cX2_move 110 = .ok (.iload_n 2, 1) := by decide +kernel
theorem dX2_move_111 : decode cX2_move 111 = .ok (.invokevirtual 59, 3) := by decide +kernel
theorem dX2_move_114 : decode cX2_move 114 = .ok (.ireturn, 1) := by decide +kernel
set_option maxRecDepth 20000 in
theorem ggX2_power_X2_isRegister : GoodIn wsX2_power wsX2_isRegister := goodIn_r _ [8] (by decide +kernel) (by decide +kernel)
set_option maxRecDepth 20000 in
theorem gX2_power_X2_isRegister : GoodIn wsX2_power (va_wsS RX2 48 yX2_isRegister wsX2_isRegister) := goodIn_app (goodIn_of _ (by decide +kernel)) ggX2_power_X2_isRegister
set_option maxRecDepth 20000 in
theorem ggX2_power_X1_precision : GoodIn wsX2_power wsX1_precision := goodIn_r _ [13, 14, 15, 16, 17, 18, 19, 20, 21, 12, 22, 23, 24, 25, 88, 89] (by decide +kernel) (by decide +kernel)
set_option maxRecDepth 20000 in
theorem gX2_power_X1_precision : GoodIn wsX2_power (wsV RX2 114 RX1 yX1_precision wsX1_precision) := goodIn_app (goodIn_of _ (by decide +kernel)) ggX2_power_X1_precision
set_option maxRecDepth 20000 in
theorem ggX2_power_X0_become : GoodIn wsX2_power wsX0_become := goodIn_r _ [30, 31, 32, 33, 34, 35, 36, 29, 37, 38, 39, 40, 12, 41, 23, 42, 43, 44, 45, 14, 46, 47, 48, 49, 85, 86, 87, 88, 89] (by decide +kernel) (by decide +kernel)
set_option maxRecDepth 20000 in
theorem gX2_power_X0_become : GoodIn wsX2_power (wsV RX2 63 RX0 yX0_become wsX0_become) := goodIn_app (goodIn_of _ (by decide +kernel)) ggX2_power_X0_become
set_option maxRecDepth 20000 in
theorem ggX2_power_X2_multiply : GoodIn wsX2_power wsX2_multiply := goodIn_r _ [53, 54, 2, 3, 55, 56, 57, 58, 59, 12, 60, 14, 23, 61, 62, 63, 64, 65, 66, 67, 68, 69, 70, 35, 36, 29, 37, 31, 32, 33, 38, 39, 40, 41, 42, 43, 44, 45, 46, 47, 48, 49, 78, 79, 80, 81, 82, 83, 84, 85, 86, 87, 88, 89] (by decide +kernel) (by decide +kernel)
set_option maxRecDepth 20000 in
theorem gX2_power_X2_multiply : GoodIn wsX2_power (wsV RX2 81 RX2 yX2_multiply wsX2_multiply) := goodIn_app (goodIn_of _ (by decide +kernel)) ggX2_power_X2_multiply
set_option maxRecDepth 20000 in
theorem ggX2_power_X2_keep : GoodIn wsX2_power wsX2_keep := goodIn_r _ [74, 3, 2, 56, 1, 9, 10, 11, 12, 13, 14, 15, 16, 17, 18, 19, 20, 21, 22, 23, 24, 25, 75, 76, 7, 77, 26, 27, 28, 29, 30, 31, 32, 33, 34, 35, 36, 37, 38, 39, 40, 41, 42, 43, 44, 45, 46, 47, 48, 49, 78, 79, 80, 81, 82, 83, 84, 85, 86, 87, 88, 89] (by decide +kernel) (by decide +kernel)
set_option maxRecDepth 20000 in
theorem gX2_power_X2_keep : GoodIn wsX2_power (wsV RX2 59 RX2 yX2_keep wsX2_keep) := goodIn_app (goodIn_of _ (by decide +kernel)) ggX2_power_X2_keep
theorem dX2_power_0 : decode cX2_power 0 = .ok (.iload_n 1, 1) := by decide +kernel
theorem dX2_power_1 : decode cX2_power 1 = .ok (.invokestatic 48, 3) := by decide +kernel
theorem dX2_power_4 : decode cX2_power 4 = .ok (.ifCond .eq 20, 3) := by decide +kernel
theorem dX2_power_7 : decode cX2_power 7 = .ok (.iload_n 2, 1) := by decide +kernel
theorem dX2_power_8 : decode cX2_power 8 = .ok (.invokestatic 48, 3) := by decide +kernel
theorem dX2_power_11 : decode cX2_power 11 = .ok (.ifCond .eq 13, 3) := by decide +kernel
theorem dX2_power_14 : decode cX2_power 14 = .ok (.iload_n 3, 1) := by decide +kernel
theorem dX2_power_15 : decode cX2_power 15 = .ok (.ifCond .lt 9, 3) := by decide +kernel
theorem dX2_power_18 : decode cX2_power 18 = .ok (.iload_n 3, 1) := by decide +kernel
theorem dX2_power_19 : decode cX2_power 19 = .ok (.bipush 40, 2) := by decide +kernel
theorem dX2_power_21 : decode cX2_power 21 = .ok (.if_icmp .le 5, 3) := by decide +kernel
theorem dX2_power_24 : decode cX2_power 24 = .ok (.iconst (-1), 1) := by decide +kernel
theorem dX2_power_25 : decode cX2_power 25 = .ok (.ireturn, 1) := by decide +kernel
theorem dX2_power_26 : decode cX2_power 26 = .ok (.aload_n 0, 1) := by decide +kernel
theorem dX2_power_27 : decode cX2_power 27 = .ok (.getfield 11, 3) := by decide +kernel
theorem dX2_power_30 : decode cX2_power 30 = .ok (.iload_n 2, 1) := by decide +kernel
theorem dX2_power_31 : decode cX2_power 31 = .ok (.aaload, 1) := by decide +kernel
theorem dX2_power_32 : decode cX2_power 32 = .ok (.astore 4, 2) := by decide +kernel
theorem dX2_power_34 : decode cX2_power 34 = .ok (.iload_n 3, 1) := by decide +kernel
theorem dX2_power_35 : decode cX2_power 35 = .ok (.aload 4, 2) := by decide +kernel
theorem dX2_power_37 : decode cX2_power 37 = .ok (.getfield 23, 3) := by decide +kernel
theorem dX2_power_40 : decode cX2_power 40 = .ok (.invokevirtual 114, 3) := by decide +kernel
theorem dX2_power_43 : decode cX2_power 43 = .ok (.imul, 1) := by decide +kernel
theorem dX2_power_44 : decode cX2_power 44 = .ok (.sipush 190, 3) := by decide +kernel
theorem dX2_power_47 : decode cX2_power 47 = .ok (.if_icmp .le 6, 3) := by decide +kernel
theorem dX2_power_50 : decode cX2_power 50 = .ok (.bipush (-3), 2) := by decide +kernel
theorem dX2_power_52 : decode cX2_power 52 = .ok (.ireturn, 1) := by decide +kernel
theorem dX2_power_53 : decode cX2_power 53 = .ok (.aload_n 0, 1) := by decide +kernel
theorem dX2_power_54 : decode cX2_power 54 = .ok (.getfield 16, 3) := by decide +kernel
theorem dX2_power_57 : decode cX2_power 57 = .ok (.aload_n 0, 1) := by decide +kernel
theorem dX2_power_58 : decode cX2_power 58 = .ok (.getfield 20, 3) := by decide +kernel
theorem dX2_power_61 : decode cX2_power 61 = .ok (.invokevirtual 63, 3) := by decide +kernel
theorem dX2_power_64 : decode cX2_power 64 = .ok (.iconst 0, 1) := by decide +kernel
theorem dX2_power_65 : decode cX2_power 65 = .ok (.istore 5, 2) := by decide +kernel
theorem dX2_power_67 : decode cX2_power 67 = .ok (.iload 5, 2) := by decide +kernel
theorem dX2_power_69 : decode cX2_power 69 = .ok (.iload_n 3, 1) := by decide +kernel
theorem dX2_power_70 : decode cX2_power 70 = .ok (.if_icmp .ge 19, 3) := by decide +kernel
theorem dX2_power_73 : decode cX2_power 73 = .ok (.aload_n 0, 1) := by decide +kernel
theorem dX2_power_74 : decode cX2_power 74 = .ok (.aload_n 0, 1) := by decide +kernel
theorem dX2_power_75 : decode cX2_power 75 = .ok (.getfield 16, 3) := by decide +kernel
theorem dX2_power_78 : decode cX2_power 78 = .ok (.aload 4, 2) := by decide +kernel
theorem dX2_power_80 : decode cX2_power 80 = .ok (.invokevirtual 81, 3) := by decide +kernel
theorem dX2_power_83 : decode cX2_power 83 = .ok (.iinc 5 1, 3) := by decide +kernel
theorem dX2_power_86 : decode cX2_power 86 = .ok (.goto (-19), 3) := by decide +kernel
theorem dX2_power_89 : decode cX2_power 89 = .ok (.aload_n 0, 1) := by decide +kernel
theorem dX2_power_90 : decode cX2_power 90 = .ok (.iload_n 1, 1) := by decide +kernel
theorem dX2_power_91 : decode cX2_power 91 = .ok (.invokevirtual 59, 3) := by decide +kernel
theorem dX2_power_94 : decode cX2_power 94 = .ok (.ireturn, 1) := by decide +kernel
set_option maxRecDepth 20000 in
theorem ggX2_compare_X2_isRegister : GoodIn wsX2_compare wsX2_isRegister := goodIn_r _ [5] (by decide +kernel) (by decide +kernel)
set_option maxRecDepth 20000 in
theorem gX2_compare_X2_isRegister : GoodIn wsX2_compare (va_wsS RX2 48 yX2_isRegister wsX2_isRegister) := goodIn_app (goodIn_of _ (by decide +kernel)) ggX2_compare_X2_isRegister
set_option maxRecDepth 20000 in
theorem ggX2_compare_X2_order : GoodIn wsX2_compare wsX2_order := goodIn_r _ [9, 10, 11, 12, 13, 14, 15, 16, 17, 18, 19, 20, 21, 22, 23, 24, 25, 26, 27, 28, 4, 29, 30, 31, 32, 33, 34, 35, 36, 37, 38, 39, 40, 41, 42, 43, 44, 45, 46, 47, 48, 49, 50, 51, 52, 53, 54, 55, 56, 57, 58, 66, 67, 68, 59, 60, 61, 62, 63, 64, 65, 69, 70] (by decide +kernel) (by decide +kernel)
set_option maxRecDepth 20000 in
theorem gX2_compare_X2_order : GoodIn wsX2_compare (wsV RX2 85 RX2 yX2_order wsX2_order) := goodIn_app (goodIn_of _ (by decide +kernel)) ggX2_compare_X2_order
theorem dX2_compare_0 : decode cX2_compare 0 = .ok (.iload_n 1, 1) := by decide +kernel
theorem dX2_compare_1 : decode cX2_compare 1 = .ok (.invokestatic 48, 3) := by decide +kernel
theorem dX2_compare_4 : decode cX2_compare 4 = .ok (.ifCond .eq 10, 3) := by decide +kernel
theorem dX2_compare_7 : decode cX2_compare 7 = .ok (.iload_n 2, 1) := by decide +kernel
theorem dX2_compare_8 : decode cX2_compare 8 = .ok (.invokestatic 48, 3) := by decide +kernel
theorem dX2_compare_11 : decode cX2_compare 11 = .ok (.ifCond .ne 6, 3) := by decide +kernel
theorem dX2_compare_14 : decode cX2_compare 14 = .ok (.bipush (-2), 2) := by decide +kernel
theorem dX2_compare_16 : decode cX2_compare 16 = .ok (.ireturn, 1) := by decide +kernel
theorem dX2_compare_17 : decode cX2_compare 17 = .ok (.aload_n 0, 1) := by decide +kernel
theorem dX2_compare_18 : decode cX2_compare 18 = .ok (.aload_n 0, 1) := by decide +kernel
theorem dX2_compare_19 : decode cX2_compare 19 = .ok (.getfield 11, 3) := by decide +kernel
theorem dX2_compare_22 : decode cX2_compare 22 = .ok (.iload_n 1, 1) := by decide +kernel
theorem dX2_compare_23 : decode cX2_compare 23 = .ok (.aaload, 1) := by decide +kernel
theorem dX2_compare_24 : decode cX2_compare 24 = .ok (.aload_n 0, 1) := by decide +kernel
theorem dX2_compare_25 : decode cX2_compare 25 = .ok (.getfield 11, 3) := by decide +kernel
theorem dX2_compare_28 : decode cX2_compare 28 = .ok (.iload_n 2, 1) := by decide +kernel
theorem dX2_compare_29 : decode cX2_compare 29 = .ok (.aaload, 1) := by decide +kernel
theorem dX2_compare_30 : decode cX2_compare 30 = .ok (.invokevirtual 85, 3) := by decide +kernel
theorem dX2_compare_33 : decode cX2_compare 33 = .ok (.ireturn, 1) := by decide +kernel
set_option maxRecDepth 20000 in
theorem ggX2_same_X2_isRegister : GoodIn wsX2_same wsX2_isRegister := goodIn_r _ [8] (by decide +kernel) (by decide +kernel)
set_option maxRecDepth 20000 in
theorem gX2_same_X2_isRegister : GoodIn wsX2_same (va_wsS RX2 48 yX2_isRegister wsX2_isRegister) := goodIn_app (goodIn_of _ (by decide +kernel)) ggX2_same_X2_isRegister
set_option maxRecDepth 20000 in
theorem ggX2_same_X1_order : GoodIn wsX2_same wsX1_order := goodIn_r _ [13, 14, 15, 26, 27] (by decide +kernel) (by decide +kernel)
set_option maxRecDepth 20000 in
theorem gX2_same_X1_order : GoodIn wsX2_same (wsV RX2 127 RX1 yX1_order wsX1_order) := goodIn_app (goodIn_of _ (by decide +kernel)) ggX2_same_X1_order
theorem dX2_same_0 : decode cX2_same 0 = .ok (.iload_n 1, 1) := by decide +kernel
theorem dX2_same_1 : decode cX2_same 1 = .ok (.invokestatic 48, 3) := by decide +kernel
theorem dX2_same_4 : decode cX2_same 4 = .ok (.ifCond .eq 10, 3) := by decide +kernel
theorem dX2_same_7 : decode cX2_same 7 = .ok (.iload_n 2, 1) := by decide +kernel
theorem dX2_same_8 : decode cX2_same 8 = .ok (.invokestatic 48, 3) := by decide +kernel
theorem dX2_same_11 : decode cX2_same 11 = .ok (.ifCond .ne 5, 3) := by decide +kernel
theorem dX2_same_14 : decode cX2_same 14 = .ok (.iconst 0, 1) := by decide +kernel
theorem dX2_same_15 : decode cX2_same 15 = .ok (.ireturn, 1) := by decide +kernel
theorem dX2_same_16 : decode cX2_same 16 = .ok (.aload_n 0, 1) := by decide +kernel
theorem dX2_same_17 : decode cX2_same 17 = .ok (.getfield 11, 3) := by decide +kernel
theorem dX2_same_20 : decode cX2_same 20 = .ok (.iload_n 1, 1) := by decide +kernel
theorem dX2_same_21 : decode cX2_same 21 = .ok (.aaload, 1) := by decide +kernel
theorem dX2_same_22 : decode cX2_same 22 = .ok (.astore_n 3, 1) := by decide +kernel
theorem dX2_same_23 : decode cX2_same 23 = .ok (.aload_n 0, 1) := by decide +kernel
theorem dX2_same_24 : decode cX2_same 24 = .ok (.getfield 11, 3) := by decide +kernel
theorem dX2_same_27 : decode cX2_same 27 = .ok (.iload_n 2, 1) := by decide +kernel
theorem dX2_same_28 : decode cX2_same 28 = .ok (.aaload, 1) := by decide +kernel
theorem dX2_same_29 : decode cX2_same 29 = .ok (.astore 4, 2) := by decide +kernel
theorem dX2_same_31 : decode cX2_same 31 = .ok (.aload_n 3, 1) := by decide +kernel
theorem dX2_same_32 : decode cX2_same 32 = .ok (.getfield 56, 3) := by decide +kernel
theorem dX2_same_35 : decode cX2_same 35 = .ok (.aload 4, 2) := by decide +kernel
theorem dX2_same_37 : decode cX2_same 37 = .ok (.getfield 56, 3) := by decide +kernel
theorem dX2_same_40 : decode cX2_same 40 = .ok (.if_icmp .ne 34, 3) := by decide +kernel
theorem dX2_same_43 : decode cX2_same 43 = .ok (.aload_n 3, 1) := by decide +kernel
theorem dX2_same_44 : decode cX2_same 44 = .ok (.getfield 52, 3) := by decide +kernel
theorem dX2_same_47 : decode cX2_same 47 = .ok (.aload 4, 2) := by decide +kernel
theorem dX2_same_49 : decode cX2_same 49 = .ok (.getfield 52, 3) := by decide +kernel
theorem dX2_same_52 : decode cX2_same 52 = .ok (.if_icmp .ne 22, 3) := by decide +kernel
theorem dX2_same_55 : decode cX2_same 55 = .ok (.aload_n 3, 1) := by decide +kernel
theorem dX2_same_56 : decode cX2_same 56 = .ok (.getfield 23, 3) := by decide +kernel
theorem dX2_same_59 : decode cX2_same 59 = .ok (.aload 4, 2) := by decide +kernel
theorem dX2_same_61 : decode cX2_same 61 = .ok (.getfield 23, 3) := by decide +kernel
theorem dX2_same_64 : decode cX2_same 64 = .ok (.invokevirtual 127, 3) := by decide +kernel
theorem dX2_same_67 : decode cX2_same 67 = .ok (.ifCond .ne 7, 3) := by decide +kernel
theorem dX2_same_70 : decode cX2_same 70 = .ok (.iconst 1, 1) := by decide +kernel
theorem dX2_same_71 : decode cX2_same 71 = .ok (.goto 4, 3) := by decide +kernel
theorem dX2_same_74 : decode cX2_same 74 = .ok (.iconst 0, 1) := by decide +kernel
theorem dX2_same_75 : decode cX2_same 75 = .ok (.ireturn, 1) := by decide +kernel
