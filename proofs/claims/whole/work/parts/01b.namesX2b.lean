set_option maxRecDepth 20000 in
theorem ggX2_look_X2_isRegister : GoodIn wsX2_look wsX2_isRegister := goodIn_r _ [7] (by decide +kernel) (by decide +kernel)
set_option maxRecDepth 20000 in
theorem gX2_look_X2_isRegister : GoodIn wsX2_look (va_wsS RX2 48 yX2_isRegister wsX2_isRegister) := goodIn_app (goodIn_of _ (by decide +kernel)) ggX2_look_X2_isRegister
set_option maxRecDepth 20000 in
theorem ggX2_look_X0_sign : GoodIn wsX2_look wsX0_sign := goodIn_r _ [12, 13, 14, 15, 16, 17, 18, 19, 20, 43, 44, 45, 46, 47] (by decide +kernel) (by decide +kernel)
set_option maxRecDepth 20000 in
theorem gX2_look_X0_sign : GoodIn wsX2_look (wsV RX2 130 RX0 yX0_sign wsX0_sign) := goodIn_app (goodIn_of _ (by decide +kernel)) ggX2_look_X0_sign
set_option maxRecDepth 20000 in
theorem ggX2_look_X1_precision : GoodIn wsX2_look wsX1_precision := goodIn_r _ [24, 20, 25, 26, 27, 28, 29, 30, 31, 18, 32, 33, 34, 35, 46, 47] (by decide +kernel) (by decide +kernel)
set_option maxRecDepth 20000 in
theorem gX2_look_X1_precision : GoodIn wsX2_look (wsV RX2 114 RX1 yX1_precision wsX1_precision) := goodIn_app (goodIn_of _ (by decide +kernel)) ggX2_look_X1_precision
theorem dX2_look_0 : decode cX2_look 0 = .ok (.iload_n 2, 1) := by decide +kernel
theorem dX2_look_1 : decode cX2_look 1 = .ok (.invokestatic 48, 3) := by decide +kernel
theorem dX2_look_4 : decode cX2_look 4 = .ok (.ifCond .ne 16, 3) := by decide +kernel
theorem dX2_look_7 : decode cX2_look 7 = .ok (.iload_n 1, 1) := by decide +kernel
theorem dX2_look_8 : decode cX2_look 8 = .ok (.iconst 2, 1) := by decide +kernel
theorem dX2_look_9 : decode cX2_look 9 = .ok (.if_icmp .ne 9, 3) := by decide +kernel
theorem dX2_look_12 : decode cX2_look 12 = .ok (.sipush 1000, 3) := by decide +kernel
theorem dX2_look_15 : decode cX2_look 15 = .ok (.goto 4, 3) := by decide +kernel
theorem dX2_look_18 : decode cX2_look 18 = .ok (.iconst (-1), 1) := by decide +kernel
theorem dX2_look_19 : decode cX2_look 19 = .ok (.ireturn, 1) := by decide +kernel
theorem dX2_look_20 : decode cX2_look 20 = .ok (.iload_n 1, 1) := by decide +kernel
theorem dX2_look_21 : decode cX2_look 21 = .ok (.tableswitch 60 0 2 #[27, 37, 50], 27) := by decide +kernel
theorem dX2_look_48 : decode cX2_look 48 = .ok (.aload_n 0, 1) := by decide +kernel
theorem dX2_look_49 : decode cX2_look 49 = .ok (.getfield 11, 3) := by decide +kernel
theorem dX2_look_52 : decode cX2_look 52 = .ok (.iload_n 2, 1) := by decide +kernel
theorem dX2_look_53 : decode cX2_look 53 = .ok (.aaload, 1) := by decide +kernel
theorem dX2_look_54 : decode cX2_look 54 = .ok (.invokevirtual 130, 3) := by decide +kernel
theorem dX2_look_57 : decode cX2_look 57 = .ok (.ireturn, 1) := by decide +kernel
theorem dX2_look_58 : decode cX2_look 58 = .ok (.aload_n 0, 1) := by decide +kernel
theorem dX2_look_59 : decode cX2_look 59 = .ok (.getfield 11, 3) := by decide +kernel
theorem dX2_look_62 : decode cX2_look 62 = .ok (.iload_n 2, 1) := by decide +kernel
theorem dX2_look_63 : decode cX2_look 63 = .ok (.aaload, 1) := by decide +kernel
theorem dX2_look_64 : decode cX2_look 64 = .ok (.getfield 23, 3) := by decide +kernel
theorem dX2_look_67 : decode cX2_look 67 = .ok (.invokevirtual 114, 3) := by decide +kernel
theorem dX2_look_70 : decode cX2_look 70 = .ok (.ireturn, 1) := by decide +kernel
theorem dX2_look_71 : decode cX2_look 71 = .ok (.aload_n 0, 1) := by decide +kernel
theorem dX2_look_72 : decode cX2_look 72 = .ok (.getfield 11, 3) := by decide +kernel
theorem dX2_look_75 : decode cX2_look 75 = .ok (.iload_n 2, 1) := by decide +kernel
theorem dX2_look_76 : decode cX2_look 76 = .ok (.aaload, 1) := by decide +kernel
theorem dX2_look_77 : decode cX2_look 77 = .ok (.getfield 56, 3) := by decide +kernel
theorem dX2_look_80 : decode cX2_look 80 = .ok (.ireturn, 1) := by decide +kernel
theorem dX2_look_81 : decode cX2_look 81 = .ok (.iconst (-1), 1) := by decide +kernel
theorem dX2_look_82 : decode cX2_look 82 = .ok (.ireturn, 1) := by decide +kernel
set_option maxRecDepth 20000 in
theorem ggX2_digit_X2_isRegister : GoodIn wsX2_digit wsX2_isRegister := goodIn_r _ [6] (by decide +kernel) (by decide +kernel)
set_option maxRecDepth 20000 in
theorem gX2_digit_X2_isRegister : GoodIn wsX2_digit (va_wsS RX2 48 yX2_isRegister wsX2_isRegister) := goodIn_app (goodIn_of _ (by decide +kernel)) ggX2_digit_X2_isRegister
set_option maxRecDepth 20000 in
theorem ggX2_digit_X1_precision : GoodIn wsX2_digit wsX1_precision := goodIn_r _ [11, 12, 13, 14, 15, 16, 17, 18, 19, 10, 20, 21, 22, 23, 35, 36] (by decide +kernel) (by decide +kernel)
set_option maxRecDepth 20000 in
theorem gX2_digit_X1_precision : GoodIn wsX2_digit (wsV RX2 114 RX1 yX1_precision wsX1_precision) := goodIn_app (goodIn_of _ (by decide +kernel)) ggX2_digit_X1_precision
set_option maxRecDepth 20000 in
theorem ggX2_digit_X1_figure : GoodIn wsX2_digit wsX1_figure := goodIn_r _ [20, 12, 21, 22, 23, 35, 36] (by decide +kernel) (by decide +kernel)
set_option maxRecDepth 20000 in
theorem gX2_digit_X1_figure : GoodIn wsX2_digit (wsV RX2 133 RX1 yX1_figure wsX1_figure) := goodIn_app (goodIn_of _ (by decide +kernel)) ggX2_digit_X1_figure
theorem dX2_digit_0 : decode cX2_digit 0 = .ok (.iload_n 1, 1) := by decide +kernel
theorem dX2_digit_1 : decode cX2_digit 1 = .ok (.invokestatic 48, 3) := by decide +kernel
theorem dX2_digit_4 : decode cX2_digit 4 = .ok (.ifCond .eq 23, 3) := by decide +kernel
theorem dX2_digit_7 : decode cX2_digit 7 = .ok (.iload_n 2, 1) := by decide +kernel
theorem dX2_digit_8 : decode cX2_digit 8 = .ok (.ifCond .lt 19, 3) := by decide +kernel
theorem dX2_digit_11 : decode cX2_digit 11 = .ok (.iload_n 2, 1) := by decide +kernel
theorem dX2_digit_12 : decode cX2_digit 12 = .ok (.aload_n 0, 1) := by decide +kernel
theorem dX2_digit_13 : decode cX2_digit 13 = .ok (.getfield 11, 3) := by decide +kernel
theorem dX2_digit_16 : decode cX2_digit 16 = .ok (.iload_n 1, 1) := by decide +kernel
theorem dX2_digit_17 : decode cX2_digit 17 = .ok (.aaload, 1) := by decide +kernel
theorem dX2_digit_18 : decode cX2_digit 18 = .ok (.getfield 23, 3) := by decide +kernel
theorem dX2_digit_21 : decode cX2_digit 21 = .ok (.invokevirtual 114, 3) := by decide +kernel
theorem dX2_digit_24 : decode cX2_digit 24 = .ok (.if_icmp .lt 5, 3) := by decide +kernel
theorem dX2_digit_27 : decode cX2_digit 27 = .ok (.iconst (-1), 1) := by decide +kernel
theorem dX2_digit_28 : decode cX2_digit 28 = .ok (.ireturn, 1) := by decide +kernel
theorem dX2_digit_29 : decode cX2_digit 29 = .ok (.aload_n 0, 1) := by decide +kernel
theorem dX2_digit_30 : decode cX2_digit 30 = .ok (.getfield 11, 3) := by decide +kernel
theorem dX2_digit_33 : decode cX2_digit 33 = .ok (.iload_n 1, 1) := by decide +kernel
theorem dX2_digit_34 : decode cX2_digit 34 = .ok (.aaload, 1) := by decide +kernel
theorem dX2_digit_35 : decode cX2_digit 35 = .ok (.getfield 23, 3) := by decide +kernel
theorem dX2_digit_38 : decode cX2_digit 38 = .ok (.iload_n 2, 1) := by decide +kernel
theorem dX2_digit_39 : decode cX2_digit 39 = .ok (.invokevirtual 133, 3) := by decide +kernel
theorem dX2_digit_42 : decode cX2_digit 42 = .ok (.ireturn, 1) := by decide +kernel
set_option maxRecDepth 20000 in
theorem ggX2_whole_X2_isRegister : GoodIn wsX2_whole wsX2_isRegister := goodIn_r _ [9] (by decide +kernel) (by decide +kernel)
set_option maxRecDepth 20000 in
theorem gX2_whole_X2_isRegister : GoodIn wsX2_whole (va_wsS RX2 48 yX2_isRegister wsX2_isRegister) := goodIn_app (goodIn_of _ (by decide +kernel)) ggX2_whole_X2_isRegister
set_option maxRecDepth 20000 in
theorem ggX2_whole_X2_split : GoodIn wsX2_whole wsX2_split := goodIn_r _ [13, 14, 15, 3, 4, 5, 16, 17, 18, 19, 8, 20, 21, 22, 23, 24, 25, 26, 27, 28, 29, 30, 31, 32, 33, 34, 35, 36, 37, 38, 39, 40, 41, 42, 43, 44, 45, 46, 47, 48, 49, 50, 51, 52, 53, 54, 55, 56, 57, 58, 59, 60, 61, 62, 63, 64, 65, 66, 67, 68, 69, 70, 75, 76, 77, 78, 79, 80, 81, 82, 83, 84, 85, 86] (by decide +kernel) (by decide +kernel)
set_option maxRecDepth 20000 in
theorem gX2_whole_X2_split : GoodIn wsX2_whole (wsV RX2 106 RX2 yX2_split wsX2_split) := goodIn_app (goodIn_of _ (by decide +kernel)) ggX2_whole_X2_split
set_option maxRecDepth 20000 in
theorem ggX2_whole_X1_lowestBits : GoodIn wsX2_whole wsX1_lowestBits := goodIn_r _ [74, 31, 37, 26, 85, 86] (by decide +kernel) (by decide +kernel)
set_option maxRecDepth 20000 in
theorem gX2_whole_X1_lowestBits : GoodIn wsX2_whole (wsV RX2 136 RX1 yX1_lowestBits wsX1_lowestBits) := goodIn_app (goodIn_of _ (by decide +kernel)) ggX2_whole_X1_lowestBits
theorem dX2_whole_0 : decode cX2_whole 0 = .ok (.iload_n 1, 1) := by decide +kernel
theorem dX2_whole_1 : decode cX2_whole 1 = .ok (.invokestatic 48, 3) := by decide +kernel
theorem dX2_whole_4 : decode cX2_whole 4 = .ok (.ifCond .ne 5, 3) := by decide +kernel
theorem dX2_whole_7 : decode cX2_whole 7 = .ok (.lconst 0, 1) := by decide +kernel
theorem dX2_whole_8 : decode cX2_whole 8 = .ok (.lreturn, 1) := by decide +kernel
theorem dX2_whole_9 : decode cX2_whole 9 = .ok (.aload_n 0, 1) := by decide +kernel
theorem dX2_whole_10 : decode cX2_whole 10 = .ok (.aload_n 0, 1) := by decide +kernel
theorem dX2_whole_11 : decode cX2_whole 11 = .ok (.getfield 11, 3) := by decide +kernel
theorem dX2_whole_14 : decode cX2_whole 14 = .ok (.iload_n 1, 1) := by decide +kernel
theorem dX2_whole_15 : decode cX2_whole 15 = .ok (.aaload, 1) := by decide +kernel
theorem dX2_whole_16 : decode cX2_whole 16 = .ok (.aload_n 0, 1) := by decide +kernel
theorem dX2_whole_17 : decode cX2_whole 17 = .ok (.getfield 20, 3) := by decide +kernel
theorem dX2_whole_20 : decode cX2_whole 20 = .ok (.iconst 0, 1) := by decide +kernel
theorem dX2_whole_21 : decode cX2_whole 21 = .ok (.invokevirtual 106, 3) := by decide +kernel
theorem dX2_whole_24 : decode cX2_whole 24 = .ok (.aload_n 0, 1) := by decide +kernel
theorem dX2_whole_25 : decode cX2_whole 25 = .ok (.getfield 16, 3) := by decide +kernel
theorem dX2_whole_28 : decode cX2_whole 28 = .ok (.getfield 23, 3) := by decide +kernel
theorem dX2_whole_31 : decode cX2_whole 31 = .ok (.invokevirtual 136, 3) := by decide +kernel
theorem dX2_whole_34 : decode cX2_whole 34 = .ok (.lstore_n 2, 1) := by decide +kernel
theorem dX2_whole_35 : decode cX2_whole 35 = .ok (.aload_n 0, 1) := by decide +kernel
theorem dX2_whole_36 : decode cX2_whole 36 = .ok (.getfield 16, 3) := by decide +kernel
theorem dX2_whole_39 : decode cX2_whole 39 = .ok (.getfield 52, 3) := by decide +kernel
theorem dX2_whole_42 : decode cX2_whole 42 = .ok (.ifCond .eq 8, 3) := by decide +kernel
theorem dX2_whole_45 : decode cX2_whole 45 = .ok (.lload_n 2, 1) := by decide +kernel
theorem dX2_whole_46 : decode cX2_whole 46 = .ok (.lneg, 1) := by decide +kernel
theorem dX2_whole_47 : decode cX2_whole 47 = .ok (.goto 4, 3) := by decide +kernel
theorem dX2_whole_50 : decode cX2_whole 50 = .ok (.lload_n 2, 1) := by decide +kernel
theorem dX2_whole_51 : decode cX2_whole 51 = .ok (.lreturn, 1) := by decide +kernel
set_option maxRecDepth 20000 in
theorem ggX2_write_X2_isRegister : GoodIn wsX2_write wsX2_isRegister := goodIn_r _ [9] (by decide +kernel) (by decide +kernel)
set_option maxRecDepth 20000 in
theorem gX2_write_X2_isRegister : GoodIn wsX2_write (va_wsS RX2 48 yX2_isRegister wsX2_isRegister) := goodIn_app (goodIn_of _ (by decide +kernel)) ggX2_write_X2_isRegister
set_option maxRecDepth 20000 in
theorem ggX2_write_X2_append : GoodIn wsX2_write wsX2_append := goodIn_r _ [13, 2, 14, 46, 47, 48, 49, 50, 51, 52] (by decide +kernel) (by decide +kernel)
set_option maxRecDepth 20000 in
theorem gX2_write_X2_append : GoodIn wsX2_write (wsV RX2 140 RX2 yX2_append wsX2_append) := goodIn_app (goodIn_of _ (by decide +kernel)) ggX2_write_X2_append
set_option maxRecDepth 20000 in
theorem ggX2_write_X2_appendFigures : GoodIn wsX2_write wsX2_appendFigures := goodIn_r _ [18, 4, 5, 19, 20, 21, 22, 23, 24, 25, 26, 27, 28, 29, 30, 31, 32, 33, 34, 35, 36, 37, 10, 11, 12, 8, 13, 2, 14, 53, 54, 55, 56, 57, 46, 47, 48, 49, 50, 51, 52] (by decide +kernel) (by decide +kernel)
set_option maxRecDepth 20000 in
theorem gX2_write_X2_appendFigures : GoodIn wsX2_write (wsV RX2 144 RX2 yX2_appendFigures wsX2_appendFigures) := goodIn_app (goodIn_of _ (by decide +kernel)) ggX2_write_X2_appendFigures
set_option maxRecDepth 20000 in
theorem ggX2_write_X1_isZero : GoodIn wsX2_write wsX1_isZero := goodIn_r _ [41, 28, 56, 57] (by decide +kernel) (by decide +kernel)
set_option maxRecDepth 20000 in
theorem gX2_write_X1_isZero : GoodIn wsX2_write (wsV RX2 92 RX1 yX1_isZero wsX1_isZero) := goodIn_app (goodIn_of _ (by decide +kernel)) ggX2_write_X1_isZero
set_option maxRecDepth 20000 in
theorem ggX2_write_X2_appendZeros : GoodIn wsX2_write wsX2_appendZeros := goodIn_r _ [45, 10, 11, 12, 8, 13, 2, 14, 46, 47, 48, 49, 50, 51, 52] (by decide +kernel) (by decide +kernel)
set_option maxRecDepth 20000 in
theorem gX2_write_X2_appendZeros : GoodIn wsX2_write (wsV RX2 147 RX2 yX2_appendZeros wsX2_appendZeros) := goodIn_app (goodIn_of _ (by decide +kernel)) ggX2_write_X2_appendZeros
theorem dX2_write_0 : decode cX2_write 0 = .ok (.iload_n 1, 1) := by decide +kernel
theorem dX2_write_1 : decode cX2_write 1 = .ok (.invokestatic 48, 3) := by decide +kernel
theorem dX2_write_4 : decode cX2_write 4 = .ok (.ifCond .ne 5, 3) := by decide +kernel
theorem dX2_write_7 : decode cX2_write 7 = .ok (.iconst (-1), 1) := by decide +kernel
theorem dX2_write_8 : decode cX2_write 8 = .ok (.ireturn, 1) := by decide +kernel
theorem dX2_write_9 : decode cX2_write 9 = .ok (.aload_n 0, 1) := by decide +kernel
theorem dX2_write_10 : decode cX2_write 10 = .ok (.getfield 11, 3) := by decide +kernel
theorem dX2_write_13 : decode cX2_write 13 = .ok (.iload_n 1, 1) := by decide +kernel
theorem dX2_write_14 : decode cX2_write 14 = .ok (.aaload, 1) := by decide +kernel
theorem dX2_write_15 : decode cX2_write 15 = .ok (.astore_n 2, 1) := by decide +kernel
theorem dX2_write_16 : decode cX2_write 16 = .ok (.aload_n 0, 1) := by decide +kernel
theorem dX2_write_17 : decode cX2_write 17 = .ok (.iconst 0, 1) := by decide +kernel
theorem dX2_write_18 : decode cX2_write 18 = .ok (.putfield 44, 3) := by decide +kernel
theorem dX2_write_21 : decode cX2_write 21 = .ok (.aload_n 2, 1) := by decide +kernel
theorem dX2_write_22 : decode cX2_write 22 = .ok (.getfield 52, 3) := by decide +kernel
theorem dX2_write_25 : decode cX2_write 25 = .ok (.ifCond .eq 9, 3) := by decide +kernel
theorem dX2_write_28 : decode cX2_write 28 = .ok (.aload_n 0, 1) := by decide +kernel
theorem dX2_write_29 : decode cX2_write 29 = .ok (.bipush 45, 2) := by decide +kernel
theorem dX2_write_31 : decode cX2_write 31 = .ok (.invokevirtual 140, 3) := by decide +kernel
theorem dX2_write_34 : decode cX2_write 34 = .ok (.aload_n 0, 1) := by decide +kernel
theorem dX2_write_35 : decode cX2_write 35 = .ok (.aload_n 2, 1) := by decide +kernel
theorem dX2_write_36 : decode cX2_write 36 = .ok (.invokevirtual 144, 3) := by decide +kernel
theorem dX2_write_39 : decode cX2_write 39 = .ok (.aload_n 2, 1) := by decide +kernel
theorem dX2_write_40 : decode cX2_write 40 = .ok (.getfield 23, 3) := by decide +kernel
theorem dX2_write_43 : decode cX2_write 43 = .ok (.invokevirtual 92, 3) := by decide +kernel
theorem dX2_write_46 : decode cX2_write 46 = .ok (.ifCond .ne 12, 3) := by decide +kernel
theorem dX2_write_49 : decode cX2_write 49 = .ok (.aload_n 0, 1) := by decide +kernel
theorem dX2_write_50 : decode cX2_write 50 = .ok (.aload_n 2, 1) := by decide +kernel
theorem dX2_write_51 : decode cX2_write 51 = .ok (.getfield 56, 3) := by decide +kernel
theorem dX2_write_54 : decode cX2_write 54 = .ok (.ineg, 1) := by decide +kernel
theorem dX2_write_55 : decode cX2_write 55 = .ok (.invokevirtual 147, 3) := by decide +kernel
theorem dX2_write_58 : decode cX2_write 58 = .ok (.aload_n 0, 1) := by decide +kernel
theorem dX2_write_59 : decode cX2_write 59 = .ok (.getfield 44, 3) := by decide +kernel
theorem dX2_write_62 : decode cX2_write 62 = .ok (.ireturn, 1) := by decide +kernel
theorem dX2_octet_0 : decode cX2_octet 0 = .ok (.iload_n 1, 1) := by decide +kernel
theorem dX2_octet_1 : decode cX2_octet 1 = .ok (.ifCond .lt 20, 3) := by decide +kernel
theorem dX2_octet_4 : decode cX2_octet 4 = .ok (.iload_n 1, 1) := by decide +kernel
theorem dX2_octet_5 : decode cX2_octet 5 = .ok (.aload_n 0, 1) := by decide +kernel
theorem dX2_octet_6 : decode cX2_octet 6 = .ok (.getfield 44, 3) := by decide +kernel
theorem dX2_octet_9 : decode cX2_octet 9 = .ok (.if_icmp .ge 12, 3) := by decide +kernel
theorem dX2_octet_12 : decode cX2_octet 12 = .ok (.aload_n 0, 1) := by decide +kernel
theorem dX2_octet_13 : decode cX2_octet 13 = .ok (.getfield 40, 3) := by decide +kernel
theorem dX2_octet_16 : decode cX2_octet 16 = .ok (.iload_n 1, 1) := by decide +kernel
theorem dX2_octet_17 : decode cX2_octet 17 = .ok (.caload, 1) := by decide +kernel
theorem dX2_octet_18 : decode cX2_octet 18 = .ok (.goto 4, 3) := by decide +kernel
theorem dX2_octet_21 : decode cX2_octet 21 = .ok (.iconst (-1), 1) := by decide +kernel
theorem dX2_octet_22 : decode cX2_octet 22 = .ok (.ireturn, 1) := by decide +kernel
theorem dX2_isRegister_0 : decode cX2_isRegister 0 = .ok (.iload_n 0, 1) := by decide +kernel
theorem dX2_isRegister_1 : decode cX2_isRegister 1 = .ok (.ifCond .lt 13, 3) := by decide +kernel
theorem dX2_isRegister_4 : decode cX2_isRegister 4 = .ok (.iload_n 0, 1) := by decide +kernel
theorem dX2_isRegister_5 : decode cX2_isRegister 5 = .ok (.bipush 6, 2) := by decide +kernel
theorem dX2_isRegister_7 : decode cX2_isRegister 7 = .ok (.if_icmp .ge 7, 3) := by decide +kernel
theorem dX2_isRegister_10 : decode cX2_isRegister 10 = .ok (.iconst 1, 1) := by decide +kernel
theorem dX2_isRegister_11 : decode cX2_isRegister 11 = .ok (.goto 4, 3) := by decide +kernel
theorem dX2_isRegister_14 : decode cX2_isRegister 14 = .ok (.iconst 0, 1) := by decide +kernel
theorem dX2_isRegister_15 : decode cX2_isRegister 15 = .ok (.ireturn, 1) := by decide +kernel
theorem dX2_isWay_0 : decode cX2_isWay 0 = .ok (.iload_n 0, 1) := by decide +kernel
theorem dX2_isWay_1 : decode cX2_isWay 1 = .ok (.ifCond .lt 13, 3) := by decide +kernel
theorem dX2_isWay_4 : decode cX2_isWay 4 = .ok (.iload_n 0, 1) := by decide +kernel
theorem dX2_isWay_5 : decode cX2_isWay 5 = .ok (.bipush 7, 2) := by decide +kernel
theorem dX2_isWay_7 : decode cX2_isWay 7 = .ok (.if_icmp .gt 7, 3) := by decide +kernel
theorem dX2_isWay_10 : decode cX2_isWay 10 = .ok (.iconst 1, 1) := by decide +kernel
theorem dX2_isWay_11 : decode cX2_isWay 11 = .ok (.goto 4, 3) := by decide +kernel
theorem dX2_isWay_14 : decode cX2_isWay 14 = .ok (.iconst 0, 1) := by decide +kernel
theorem dX2_isWay_15 : decode cX2_isWay 15 = .ok (.ireturn, 1) := by decide +kernel
theorem dX2_isScale_0 : decode cX2_isScale 0 = .ok (.iload_n 0, 1) := by decide +kernel
theorem dX2_isScale_1 : decode cX2_isScale 1 = .ok (.bipush (-6), 2) := by decide +kernel
theorem dX2_isScale_3 : decode cX2_isScale 3 = .ok (.if_icmp .lt 13, 3) := by decide +kernel
theorem dX2_isScale_6 : decode cX2_isScale 6 = .ok (.iload_n 0, 1) := by decide +kernel
theorem dX2_isScale_7 : decode cX2_isScale 7 = .ok (.bipush 6, 2) := by decide +kernel
theorem dX2_isScale_9 : decode cX2_isScale 9 = .ok (.if_icmp .gt 7, 3) := by decide +kernel
theorem dX2_isScale_12 : decode cX2_isScale 12 = .ok (.iconst 1, 1) := by decide +kernel
theorem dX2_isScale_13 : decode cX2_isScale 13 = .ok (.goto 4, 3) := by decide +kernel
theorem dX2_isScale_16 : decode cX2_isScale 16 = .ok (.iconst 0, 1) := by decide +kernel
theorem dX2_isScale_17 : decode cX2_isScale 17 = .ok (.ireturn, 1) := by decide +kernel
set_option maxRecDepth 20000 in
theorem ggX2_keep_X1_precision : GoodIn wsX2_keep wsX1_precision := goodIn_r _ [9, 10, 11, 12, 13, 14, 15, 16, 17, 8, 18, 19, 20, 21, 60, 61] (by decide +kernel) (by decide +kernel)
set_option maxRecDepth 20000 in
theorem gX2_keep_X1_precision : GoodIn wsX2_keep (wsV RX2 114 RX1 yX1_precision wsX1_precision) := goodIn_app (goodIn_of _ (by decide +kernel)) ggX2_keep_X1_precision
set_option maxRecDepth 20000 in
theorem ggX2_keep_X2_isScale : GoodIn wsX2_keep wsX2_isScale := goodIn_r _ [25] (by decide +kernel) (by decide +kernel)
set_option maxRecDepth 20000 in
theorem gX2_keep_X2_isScale : GoodIn wsX2_keep (va_wsS RX2 150 yX2_isScale wsX2_isScale) := goodIn_app (goodIn_of _ (by decide +kernel)) ggX2_keep_X2_isScale
set_option maxRecDepth 20000 in
theorem ggX2_keep_X0_become : GoodIn wsX2_keep wsX0_become := goodIn_r _ [30, 31, 32, 33, 34, 35, 36, 29, 37, 38, 39, 40, 8, 41, 19, 42, 43, 44, 45, 10, 46, 47, 48, 49, 57, 58, 59, 60, 61] (by decide +kernel) (by decide +kernel)
set_option maxRecDepth 20000 in
theorem gX2_keep_X0_become : GoodIn wsX2_keep (wsV RX2 63 RX0 yX0_become wsX0_become) := goodIn_app (goodIn_of _ (by decide +kernel)) ggX2_keep_X0_become
theorem dX2_keep_0 : decode cX2_keep 0 = .ok (.aload_n 0, 1) := by decide +kernel
theorem dX2_keep_1 : decode cX2_keep 1 = .ok (.getfield 16, 3) := by decide +kernel
theorem dX2_keep_4 : decode cX2_keep 4 = .ok (.getfield 23, 3) := by decide +kernel
theorem dX2_keep_7 : decode cX2_keep 7 = .ok (.invokevirtual 114, 3) := by decide +kernel
theorem dX2_keep_10 : decode cX2_keep 10 = .ok (.istore_n 2, 1) := by decide +kernel
theorem dX2_keep_11 : decode cX2_keep 11 = .ok (.iload_n 2, 1) := by decide +kernel
theorem dX2_keep_12 : decode cX2_keep 12 = .ok (.sipush 190, 3) := by decide +kernel
theorem dX2_keep_15 : decode cX2_keep 15 = .ok (.if_icmp .gt 16, 3) := by decide +kernel
theorem dX2_keep_18 : decode cX2_keep 18 = .ok (.aload_n 0, 1) := by decide +kernel
theorem dX2_keep_19 : decode cX2_keep 19 = .ok (.getfield 16, 3) := by decide +kernel
theorem dX2_keep_22 : decode cX2_keep 22 = .ok (.getfield 56, 3) := by decide +kernel
theorem dX2_keep_25 : decode cX2_keep 25 = .ok (.invokestatic 150, 3) := by decide +kernel
theorem dX2_keep_28 : decode cX2_keep 28 = .ok (.ifCond .ne 6, 3) := by decide +kernel
theorem dX2_keep_31 : decode cX2_keep 31 = .ok (.bipush (-3), 2) := by decide +kernel
theorem dX2_keep_33 : decode cX2_keep 33 = .ok (.ireturn, 1) := by decide +kernel
theorem dX2_keep_34 : decode cX2_keep 34 = .ok (.aload_n 0, 1) := by decide +kernel
theorem dX2_keep_35 : decode cX2_keep 35 = .ok (.getfield 11, 3) := by decide +kernel
theorem dX2_keep_38 : decode cX2_keep 38 = .ok (.iload_n 1, 1) := by decide +kernel
theorem dX2_keep_39 : decode cX2_keep 39 = .ok (.aaload, 1) := by decide +kernel
theorem dX2_keep_40 : decode cX2_keep 40 = .ok (.aload_n 0, 1) := by decide +kernel
theorem dX2_keep_41 : decode cX2_keep 41 = .ok (.getfield 16, 3) := by decide +kernel
theorem dX2_keep_44 : decode cX2_keep 44 = .ok (.invokevirtual 63, 3) := by decide +kernel
theorem dX2_keep_47 : decode cX2_keep 47 = .ok (.iload_n 2, 1) := by decide +kernel
theorem dX2_keep_48 : decode cX2_keep 48 = .ok (.ireturn, 1) := by decide +kernel
set_option maxRecDepth 20000 in
theorem ggX2_keepQuotient_X2_isScale : GoodIn wsX2_keepQuotient wsX2_isScale := goodIn_r _ [4] (by decide +kernel) (by decide +kernel)
set_option maxRecDepth 20000 in
theorem gX2_keepQuotient_X2_isScale : GoodIn wsX2_keepQuotient (va_wsS RX2 150 yX2_isScale wsX2_isScale) := goodIn_app (goodIn_of _ (by decide +kernel)) ggX2_keepQuotient_X2_isScale
set_option maxRecDepth 20000 in
theorem ggX2_keepQuotient_X2_split : GoodIn wsX2_keepQuotient wsX2_split := goodIn_r _ [8, 9, 10, 11, 12, 13, 14, 15, 16, 17, 3, 18, 19, 20, 21, 22, 23, 24, 25, 26, 27, 28, 29, 30, 31, 32, 33, 34, 35, 36, 37, 38, 39, 40, 41, 42, 43, 44, 45, 46, 47, 48, 49, 50, 51, 52, 53, 54, 55, 56, 57, 58, 59, 60, 61, 62, 63, 64, 65, 66, 67, 68, 123, 124, 125, 126, 127, 128, 129, 130, 131, 132, 133, 134] (by decide +kernel) (by decide +kernel)
set_option maxRecDepth 20000 in
theorem gX2_keepQuotient_X2_split : GoodIn wsX2_keepQuotient (wsV RX2 106 RX2 yX2_split wsX2_split) := goodIn_app (goodIn_of _ (by decide +kernel)) ggX2_keepQuotient_X2_split
set_option maxRecDepth 20000 in
theorem ggX2_keepQuotient_X2_settle : GoodIn wsX2_keepQuotient wsX2_settle := goodIn_r _ [72, 9, 10, 11, 12, 73, 74, 75, 76, 22, 77, 29, 78, 79, 80, 81, 82, 83, 84, 85, 24, 35, 36, 37, 38, 39, 86, 87, 88, 89, 90, 91, 92, 3, 93, 13, 94, 95, 96, 97, 34, 98, 123, 124, 125, 126, 127, 128, 129, 130, 131, 132, 133, 134] (by decide +kernel) (by decide +kernel)
set_option maxRecDepth 20000 in
theorem gX2_keepQuotient_X2_settle : GoodIn wsX2_keepQuotient (wsV RX2 121 RX2 yX2_settle wsX2_settle) := goodIn_app (goodIn_of _ (by decide +kernel)) ggX2_keepQuotient_X2_settle
set_option maxRecDepth 20000 in
theorem ggX2_keepQuotient_X2_keep : GoodIn wsX2_keepQuotient wsX2_keep := goodIn_r _ [102, 11, 12, 14, 103, 104, 105, 106, 22, 107, 29, 82, 83, 84, 85, 108, 95, 96, 97, 24, 34, 98, 1, 2, 3, 4, 109, 110, 111, 112, 113, 114, 115, 116, 117, 118, 119, 120, 121, 20, 21, 23, 25, 26, 27, 28, 122, 75, 76, 77, 123, 124, 125, 126, 127, 128, 129, 130, 131, 132, 133, 134] (by decide +kernel) (by decide +kernel)
set_option maxRecDepth 20000 in
theorem gX2_keepQuotient_X2_keep : GoodIn wsX2_keepQuotient (wsV RX2 59 RX2 yX2_keep wsX2_keep) := goodIn_app (goodIn_of _ (by decide +kernel)) ggX2_keepQuotient_X2_keep
theorem dX2_keepQuotient_0 : decode cX2_keepQuotient 0 = .ok (.iload 4, 2) := by decide +kernel
theorem dX2_keepQuotient_2 : decode cX2_keepQuotient 2 = .ok (.invokestatic 150, 3) := by decide +kernel
theorem dX2_keepQuotient_5 : decode cX2_keepQuotient 5 = .ok (.ifCond .ne 6, 3) := by decide +kernel
theorem dX2_keepQuotient_8 : decode cX2_keepQuotient 8 = .ok (.bipush (-3), 2) := by decide +kernel
theorem dX2_keepQuotient_10 : decode cX2_keepQuotient 10 = .ok (.ireturn, 1) := by decide +kernel
theorem dX2_keepQuotient_11 : decode cX2_keepQuotient 11 = .ok (.aload_n 0, 1) := by decide +kernel
theorem dX2_keepQuotient_12 : decode cX2_keepQuotient 12 = .ok (.aload_n 2, 1) := by decide +kernel
theorem dX2_keepQuotient_13 : decode cX2_keepQuotient 13 = .ok (.aload_n 3, 1) := by decide +kernel
theorem dX2_keepQuotient_14 : decode cX2_keepQuotient 14 = .ok (.iload 4, 2) := by decide +kernel
theorem dX2_keepQuotient_16 : decode cX2_keepQuotient 16 = .ok (.invokevirtual 106, 3) := by decide +kernel
theorem dX2_keepQuotient_19 : decode cX2_keepQuotient 19 = .ok (.aload_n 0, 1) := by decide +kernel
theorem dX2_keepQuotient_20 : decode cX2_keepQuotient 20 = .ok (.iload 5, 2) := by decide +kernel
theorem dX2_keepQuotient_22 : decode cX2_keepQuotient 22 = .ok (.invokevirtual 121, 3) := by decide +kernel
theorem dX2_keepQuotient_25 : decode cX2_keepQuotient 25 = .ok (.ifCond .eq 11, 3) := by decide +kernel
theorem dX2_keepQuotient_28 : decode cX2_keepQuotient 28 = .ok (.aload_n 0, 1) := by decide +kernel
theorem dX2_keepQuotient_29 : decode cX2_keepQuotient 29 = .ok (.iload_n 1, 1) := by decide +kernel
theorem dX2_keepQuotient_30 : decode cX2_keepQuotient 30 = .ok (.invokevirtual 59, 3) := by decide +kernel
theorem dX2_keepQuotient_33 : decode cX2_keepQuotient 33 = .ok (.goto 5, 3) := by decide +kernel
theorem dX2_keepQuotient_36 : decode cX2_keepQuotient 36 = .ok (.bipush (-4), 2) := by decide +kernel
theorem dX2_keepQuotient_38 : decode cX2_keepQuotient 38 = .ok (.ireturn, 1) := by decide +kernel
set_option maxRecDepth 20000 in
theorem ggX2_align_X1_become : GoodIn wsX2_align wsX1_become := goodIn_r _ [9, 10, 11, 12, 13, 14, 15, 40, 41] (by decide +kernel) (by decide +kernel)
set_option maxRecDepth 20000 in
theorem gX2_align_X1_become : GoodIn wsX2_align (wsV RX2 153 RX1 yX1_become wsX1_become) := goodIn_app (goodIn_of _ (by decide +kernel)) ggX2_align_X1_become
set_option maxRecDepth 20000 in
theorem ggX2_align_X1_raise : GoodIn wsX2_align wsX1_raise := goodIn_r _ [19, 15, 20, 10, 21, 22, 23, 24, 8, 25, 26, 27, 28, 29, 40, 41] (by decide +kernel) (by decide +kernel)
set_option maxRecDepth 20000 in
theorem gX2_align_X1_raise : GoodIn wsX2_align (wsV RX2 67 RX1 yX1_raise wsX1_raise) := goodIn_app (goodIn_of _ (by decide +kernel)) ggX2_align_X1_raise
theorem dX2_align_0 : decode cX2_align 0 = .ok (.iload_n 3, 1) := by decide +kernel
theorem dX2_align_1 : decode cX2_align 1 = .ok (.aload_n 2, 1) := by decide +kernel
theorem dX2_align_2 : decode cX2_align 2 = .ok (.getfield 56, 3) := by decide +kernel
theorem dX2_align_5 : decode cX2_align 5 = .ok (.iadd, 1) := by decide +kernel
theorem dX2_align_6 : decode cX2_align 6 = .ok (.aload_n 1, 1) := by decide +kernel
theorem dX2_align_7 : decode cX2_align 7 = .ok (.getfield 56, 3) := by decide +kernel
theorem dX2_align_10 : decode cX2_align 10 = .ok (.isub, 1) := by decide +kernel
theorem dX2_align_11 : decode cX2_align 11 = .ok (.istore 4, 2) := by decide +kernel
theorem dX2_align_13 : decode cX2_align 13 = .ok (.aload_n 0, 1) := by decide +kernel
theorem dX2_align_14 : decode cX2_align 14 = .ok (.getfield 34, 3) := by decide +kernel
theorem dX2_align_17 : decode cX2_align 17 = .ok (.aload_n 1, 1) := by decide +kernel
theorem dX2_align_18 : decode cX2_align 18 = .ok (.getfield 23, 3) := by decide +kernel
theorem dX2_align_21 : decode cX2_align 21 = .ok (.invokevirtual 153, 3) := by decide +kernel
theorem dX2_align_24 : decode cX2_align 24 = .ok (.aload_n 0, 1) := by decide +kernel
theorem dX2_align_25 : decode cX2_align 25 = .ok (.getfield 37, 3) := by decide +kernel
theorem dX2_align_28 : decode cX2_align 28 = .ok (.aload_n 2, 1) := by decide +kernel
theorem dX2_align_29 : decode cX2_align 29 = .ok (.getfield 23, 3) := by decide +kernel
theorem dX2_align_32 : decode cX2_align 32 = .ok (.invokevirtual 153, 3) := by decide +kernel
theorem dX2_align_35 : decode cX2_align 35 = .ok (.iload 4, 2) := by decide +kernel
theorem dX2_align_37 : decode cX2_align 37 = .ok (.ifCond .le 15, 3) := by decide +kernel
theorem dX2_align_40 : decode cX2_align 40 = .ok (.aload_n 0, 1) := by decide +kernel
theorem dX2_align_41 : decode cX2_align 41 = .ok (.getfield 34, 3) := by decide +kernel
theorem dX2_align_44 : decode cX2_align 44 = .ok (.iload 4, 2) := by decide +kernel
theorem dX2_align_46 : decode cX2_align 46 = .ok (.invokevirtual 67, 3) := by decide +kernel
theorem dX2_align_49 : decode cX2_align 49 = .ok (.goto 13, 3) := by decide +kernel
theorem dX2_align_52 : decode cX2_align 52 = .ok (.aload_n 0, 1) := by decide +kernel
theorem dX2_align_53 : decode cX2_align 53 = .ok (.getfield 37, 3) := by decide +kernel
theorem dX2_align_56 : decode cX2_align 56 = .ok (.iload 4, 2) := by decide +kernel
theorem dX2_align_58 : decode cX2_align 58 = .ok (.ineg, 1) := by decide +kernel
theorem dX2_align_59 : decode cX2_align 59 = .ok (.invokevirtual 67, 3) := by decide +kernel
theorem dX2_align_62 : decode cX2_align 62 = .ok (.return_, 1) := by decide +kernel
set_option maxRecDepth 20000 in
theorem ggX2_split_X2_align : GoodIn wsX2_split wsX2_align := goodIn_r _ [11, 6, 1, 4, 2, 12, 13, 14, 15, 16, 17, 18, 19, 20, 21, 22, 23, 24, 25, 26, 27, 28, 29, 30, 31, 32, 33, 34, 35, 36, 69, 70, 71, 62, 63, 64, 65, 66, 67, 68, 72, 73] (by decide +kernel) (by decide +kernel)
set_option maxRecDepth 20000 in
theorem gX2_split_X2_align : GoodIn wsX2_split (wsV RX2 155 RX2 yX2_align wsX2_align) := goodIn_app (goodIn_of _ (by decide +kernel)) ggX2_split_X2_align
set_option maxRecDepth 20000 in
theorem ggX2_split_X1_takeOut : GoodIn wsX2_split wsX1_takeOut := goodIn_r _ [40, 22, 17, 41, 42, 43, 44, 15, 45, 46, 47, 48, 49, 28, 50, 51, 52, 53, 54, 55, 56, 57, 58, 59, 60, 61, 72, 73] (by decide +kernel) (by decide +kernel)
set_option maxRecDepth 20000 in
theorem gX2_split_X1_takeOut : GoodIn wsX2_split (wsV RX2 158 RX1 yX1_takeOut wsX1_takeOut) := goodIn_app (goodIn_of _ (by decide +kernel)) ggX2_split_X1_takeOut
theorem dX2_split_0 : decode cX2_split 0 = .ok (.aload_n 0, 1) := by decide +kernel
theorem dX2_split_1 : decode cX2_split 1 = .ok (.aload_n 1, 1) := by decide +kernel
theorem dX2_split_2 : decode cX2_split 2 = .ok (.aload_n 2, 1) := by decide +kernel
theorem dX2_split_3 : decode cX2_split 3 = .ok (.iload_n 3, 1) := by decide +kernel
theorem dX2_split_4 : decode cX2_split 4 = .ok (.invokevirtual 155, 3) := by decide +kernel
theorem dX2_split_7 : decode cX2_split 7 = .ok (.aload_n 0, 1) := by decide +kernel
theorem dX2_split_8 : decode cX2_split 8 = .ok (.getfield 34, 3) := by decide +kernel
theorem dX2_split_11 : decode cX2_split 11 = .ok (.aload_n 0, 1) := by decide +kernel
theorem dX2_split_12 : decode cX2_split 12 = .ok (.getfield 37, 3) := by decide +kernel
theorem dX2_split_15 : decode cX2_split 15 = .ok (.aload_n 0, 1) := by decide +kernel
theorem dX2_split_16 : decode cX2_split 16 = .ok (.getfield 16, 3) := by decide +kernel
theorem dX2_split_19 : decode cX2_split 19 = .ok (.getfield 23, 3) := by decide +kernel
theorem dX2_split_22 : decode cX2_split 22 = .ok (.invokevirtual 158, 3) := by decide +kernel
theorem dX2_split_25 : decode cX2_split 25 = .ok (.aload_n 0, 1) := by decide +kernel
theorem dX2_split_26 : decode cX2_split 26 = .ok (.getfield 16, 3) := by decide +kernel
theorem dX2_split_29 : decode cX2_split 29 = .ok (.aload_n 1, 1) := by decide +kernel
theorem dX2_split_30 : decode cX2_split 30 = .ok (.getfield 52, 3) := by decide +kernel
theorem dX2_split_33 : decode cX2_split 33 = .ok (.aload_n 2, 1) := by decide +kernel
theorem dX2_split_34 : decode cX2_split 34 = .ok (.getfield 52, 3) := by decide +kernel
theorem dX2_split_37 : decode cX2_split 37 = .ok (.if_icmp .eq 7, 3) := by decide +kernel
theorem dX2_split_40 : decode cX2_split 40 = .ok (.iconst 1, 1) := by decide +kernel
theorem dX2_split_41 : decode cX2_split 41 = .ok (.goto 4, 3) := by decide +kernel
theorem dX2_split_44 : decode cX2_split 44 = .ok (.iconst 0, 1) := by decide +kernel
theorem dX2_split_45 : decode cX2_split 45 = .ok (.putfield 52, 3) := by decide +kernel
theorem dX2_split_48 : decode cX2_split 48 = .ok (.aload_n 0, 1) := by decide +kernel
theorem dX2_split_49 : decode cX2_split 49 = .ok (.getfield 16, 3) := by decide +kernel
theorem dX2_split_52 : decode cX2_split 52 = .ok (.iload_n 3, 1) := by decide +kernel
theorem dX2_split_53 : decode cX2_split 53 = .ok (.putfield 56, 3) := by decide +kernel
theorem dX2_split_56 : decode cX2_split 56 = .ok (.return_, 1) := by decide +kernel
set_option maxRecDepth 20000 in
theorem ggX2_settle_X1_isZero : GoodIn wsX2_settle wsX1_isZero := goodIn_r _ [10, 11, 52, 53] (by decide +kernel) (by decide +kernel)
set_option maxRecDepth 20000 in
theorem gX2_settle_X1_isZero : GoodIn wsX2_settle (wsV RX2 92 RX1 yX1_isZero wsX1_isZero) := goodIn_app (goodIn_of _ (by decide +kernel)) ggX2_settle_X1_isZero
set_option maxRecDepth 20000 in
theorem ggX2_settle_X1_add : GoodIn wsX2_settle wsX1_add := goodIn_r _ [15, 11, 16, 17, 18, 19, 20, 21, 22, 23, 24, 9, 25, 52, 53] (by decide +kernel) (by decide +kernel)
set_option maxRecDepth 20000 in
theorem gX2_settle_X1_add : GoodIn wsX2_settle (wsV RX2 73 RX1 yX1_add wsX1_add) := goodIn_app (goodIn_of _ (by decide +kernel)) ggX2_settle_X1_add
set_option maxRecDepth 20000 in
theorem ggX2_settle_X1_order : GoodIn wsX2_settle wsX1_order := goodIn_r _ [29, 11, 20, 52, 53] (by decide +kernel) (by decide +kernel)
set_option maxRecDepth 20000 in
theorem gX2_settle_X1_order : GoodIn wsX2_settle (wsV RX2 127 RX1 yX1_order wsX1_order) := goodIn_app (goodIn_of _ (by decide +kernel)) ggX2_settle_X1_order
set_option maxRecDepth 20000 in
theorem ggX2_settle_X2_isAwayFromZero : GoodIn wsX2_settle wsX2_isAwayFromZero := goodIn_r _ [34, 3, 35, 4, 36, 37, 38, 9, 39, 11, 20, 40, 41, 42, 43, 44, 45, 46, 47, 48, 49, 50, 51, 52, 53] (by decide +kernel) (by decide +kernel)
set_option maxRecDepth 20000 in
theorem gX2_settle_X2_isAwayFromZero : GoodIn wsX2_settle (wsV RX2 162 RX2 yX2_isAwayFromZero wsX2_isAwayFromZero) := goodIn_app (goodIn_of _ (by decide +kernel)) ggX2_settle_X2_isAwayFromZero
theorem dX2_settle_0 : decode cX2_settle 0 = .ok (.aload_n 0, 1) := by decide +kernel
theorem dX2_settle_1 : decode cX2_settle 1 = .ok (.getfield 34, 3) := by decide +kernel
theorem dX2_settle_4 : decode cX2_settle 4 = .ok (.invokevirtual 92, 3) := by decide +kernel
theorem dX2_settle_7 : decode cX2_settle 7 = .ok (.ifCond .eq 5, 3) := by decide +kernel
theorem dX2_settle_10 : decode cX2_settle 10 = .ok (.iconst 1, 1) := by decide +kernel
theorem dX2_settle_11 : decode cX2_settle 11 = .ok (.ireturn, 1) := by decide +kernel
theorem dX2_settle_12 : decode cX2_settle 12 = .ok (.iload_n 1, 1) := by decide +kernel
theorem dX2_settle_13 : decode cX2_settle 13 = .ok (.bipush 7, 2) := by decide +kernel
theorem dX2_settle_15 : decode cX2_settle 15 = .ok (.if_icmp .ne 5, 3) := by decide +kernel
theorem dX2_settle_18 : decode cX2_settle 18 = .ok (.iconst 0, 1) := by decide +kernel
theorem dX2_settle_19 : decode cX2_settle 19 = .ok (.ireturn, 1) := by decide +kernel
theorem dX2_settle_20 : decode cX2_settle 20 = .ok (.aload_n 0, 1) := by decide +kernel
theorem dX2_settle_21 : decode cX2_settle 21 = .ok (.getfield 34, 3) := by decide +kernel
theorem dX2_settle_24 : decode cX2_settle 24 = .ok (.aload_n 0, 1) := by decide +kernel
theorem dX2_settle_25 : decode cX2_settle 25 = .ok (.getfield 34, 3) := by decide +kernel
theorem dX2_settle_28 : decode cX2_settle 28 = .ok (.invokevirtual 73, 3) := by decide +kernel
theorem dX2_settle_31 : decode cX2_settle 31 = .ok (.aload_n 0, 1) := by decide +kernel
theorem dX2_settle_32 : decode cX2_settle 32 = .ok (.iload_n 1, 1) := by decide +kernel
theorem dX2_settle_33 : decode cX2_settle 33 = .ok (.aload_n 0, 1) := by decide +kernel
theorem dX2_settle_34 : decode cX2_settle 34 = .ok (.getfield 34, 3) := by decide +kernel
theorem dX2_settle_37 : decode cX2_settle 37 = .ok (.aload_n 0, 1) := by decide +kernel
theorem dX2_settle_38 : decode cX2_settle 38 = .ok (.getfield 37, 3) := by decide +kernel
theorem dX2_settle_41 : decode cX2_settle 41 = .ok (.invokevirtual 127, 3) := by decide +kernel
theorem dX2_settle_44 : decode cX2_settle 44 = .ok (.invokevirtual 162, 3) := by decide +kernel
theorem dX2_settle_47 : decode cX2_settle 47 = .ok (.ifCond .eq 20, 3) := by decide +kernel
theorem dX2_settle_50 : decode cX2_settle 50 = .ok (.aload_n 0, 1) := by decide +kernel
theorem dX2_settle_51 : decode cX2_settle 51 = .ok (.getfield 16, 3) := by decide +kernel
theorem dX2_settle_54 : decode cX2_settle 54 = .ok (.getfield 23, 3) := by decide +kernel
theorem dX2_settle_57 : decode cX2_settle 57 = .ok (.aload_n 0, 1) := by decide +kernel
theorem dX2_settle_58 : decode cX2_settle 58 = .ok (.getfield 20, 3) := by decide +kernel
theorem dX2_settle_61 : decode cX2_settle 61 = .ok (.getfield 23, 3) := by decide +kernel
theorem dX2_settle_64 : decode cX2_settle 64 = .ok (.invokevirtual 73, 3) := by decide +kernel
theorem dX2_settle_67 : decode cX2_settle 67 = .ok (.iconst 1, 1) := by decide +kernel
theorem dX2_settle_68 : decode cX2_settle 68 = .ok (.ireturn, 1) := by decide +kernel
set_option maxRecDepth 20000 in
theorem ggX2_isAwayFromZero_X1_figure : GoodIn wsX2_isAwayFromZero wsX1_figure := goodIn_r _ [8, 9, 10, 11, 12, 23, 24] (by decide +kernel) (by decide +kernel)
set_option maxRecDepth 20000 in
theorem gX2_isAwayFromZero_X1_figure : GoodIn wsX2_isAwayFromZero (wsV RX2 133 RX1 yX1_figure wsX1_figure) := goodIn_app (goodIn_of _ (by decide +kernel)) ggX2_isAwayFromZero_X1_figure
theorem dX2_isAwayFromZero_0 : decode cX2_isAwayFromZero 0 = .ok (.iload_n 1, 1) := by decide +kernel
theorem dX2_isAwayFromZero_1 : decode cX2_isAwayFromZero 1 = .ok (.tableswitch 122 0 6 #[43, 45, 47, 63, 71, 81, 91], 43) := by decide +kernel
theorem dX2_isAwayFromZero_44 : decode cX2_isAwayFromZero 44 = .ok (.iconst 1, 1) := by decide +kernel
theorem dX2_isAwayFromZero_45 : decode cX2_isAwayFromZero 45 = .ok (.ireturn, 1) := by decide +kernel
theorem dX2_isAwayFromZero_46 : decode cX2_isAwayFromZero 46 = .ok (.iconst 0, 1) := by decide +kernel
theorem dX2_isAwayFromZero_47 : decode cX2_isAwayFromZero 47 = .ok (.ireturn, 1) := by decide +kernel
theorem dX2_isAwayFromZero_48 : decode cX2_isAwayFromZero 48 = .ok (.aload_n 0, 1) := by decide +kernel
theorem dX2_isAwayFromZero_49 : decode cX2_isAwayFromZero 49 = .ok (.getfield 16, 3) := by decide +kernel
theorem dX2_isAwayFromZero_52 : decode cX2_isAwayFromZero 52 = .ok (.getfield 52, 3) := by decide +kernel
theorem dX2_isAwayFromZero_55 : decode cX2_isAwayFromZero 55 = .ok (.ifCond .ne 7, 3) := by decide +kernel
theorem dX2_isAwayFromZero_58 : decode cX2_isAwayFromZero 58 = .ok (.iconst 1, 1) := by decide +kernel
theorem dX2_isAwayFromZero_59 : decode cX2_isAwayFromZero 59 = .ok (.goto 4, 3) := by decide +kernel
theorem dX2_isAwayFromZero_62 : decode cX2_isAwayFromZero 62 = .ok (.iconst 0, 1) := by decide +kernel
theorem dX2_isAwayFromZero_63 : decode cX2_isAwayFromZero 63 = .ok (.ireturn, 1) := by decide +kernel
theorem dX2_isAwayFromZero_64 : decode cX2_isAwayFromZero 64 = .ok (.aload_n 0, 1) := by decide +kernel
theorem dX2_isAwayFromZero_65 : decode cX2_isAwayFromZero 65 = .ok (.getfield 16, 3) := by decide +kernel
theorem dX2_isAwayFromZero_68 : decode cX2_isAwayFromZero 68 = .ok (.getfield 52, 3) := by decide +kernel
theorem dX2_isAwayFromZero_71 : decode cX2_isAwayFromZero 71 = .ok (.ireturn, 1) := by decide +kernel
theorem dX2_isAwayFromZero_72 : decode cX2_isAwayFromZero 72 = .ok (.iload_n 2, 1) := by decide +kernel
theorem dX2_isAwayFromZero_73 : decode cX2_isAwayFromZero 73 = .ok (.ifCond .lt 7, 3) := by decide +kernel
theorem dX2_isAwayFromZero_76 : decode cX2_isAwayFromZero 76 = .ok (.iconst 1, 1) := by decide +kernel
theorem dX2_isAwayFromZero_77 : decode cX2_isAwayFromZero 77 = .ok (.goto 4, 3) := by decide +kernel
theorem dX2_isAwayFromZero_80 : decode cX2_isAwayFromZero 80 = .ok (.iconst 0, 1) := by decide +kernel
theorem dX2_isAwayFromZero_81 : decode cX2_isAwayFromZero 81 = .ok (.ireturn, 1) := by decide +kernel
theorem dX2_isAwayFromZero_82 : decode cX2_isAwayFromZero 82 = .ok (.iload_n 2, 1) := by decide +kernel
theorem dX2_isAwayFromZero_83 : decode cX2_isAwayFromZero 83 = .ok (.ifCond .le 7, 3) := by decide +kernel
theorem dX2_isAwayFromZero_86 : decode cX2_isAwayFromZero 86 = .ok (.iconst 1, 1) := by decide +kernel
theorem dX2_isAwayFromZero_87 : decode cX2_isAwayFromZero 87 = .ok (.goto 4, 3) := by decide +kernel
theorem dX2_isAwayFromZero_90 : decode cX2_isAwayFromZero 90 = .ok (.iconst 0, 1) := by decide +kernel
theorem dX2_isAwayFromZero_91 : decode cX2_isAwayFromZero 91 = .ok (.ireturn, 1) := by decide +kernel
theorem dX2_isAwayFromZero_92 : decode cX2_isAwayFromZero 92 = .ok (.iload_n 2, 1) := by decide +kernel
theorem dX2_isAwayFromZero_93 : decode cX2_isAwayFromZero 93 = .ok (.ifCond .gt 24, 3) := by decide +kernel
theorem dX2_isAwayFromZero_96 : decode cX2_isAwayFromZero 96 = .ok (.iload_n 2, 1) := by decide +kernel
theorem dX2_isAwayFromZero_97 : decode cX2_isAwayFromZero 97 = .ok (.ifCond .ne 24, 3) := by decide +kernel
theorem dX2_isAwayFromZero_100 : decode cX2_isAwayFromZero 100 = .ok (.aload_n 0, 1) := by decide +kernel
theorem dX2_isAwayFromZero_101 : decode cX2_isAwayFromZero 101 = .ok (.getfield 16, 3) := by decide +kernel
theorem dX2_isAwayFromZero_104 : decode cX2_isAwayFromZero 104 = .ok (.getfield 23, 3) := by decide +kernel
theorem dX2_isAwayFromZero_107 : decode cX2_isAwayFromZero 107 = .ok (.iconst 0, 1) := by decide +kernel
theorem dX2_isAwayFromZero_108 : decode cX2_isAwayFromZero 108 = .ok (.invokevirtual 133, 3) := by decide +kernel
theorem dX2_isAwayFromZero_111 : decode cX2_isAwayFromZero 111 = .ok (.iconst 2, 1) := by decide +kernel
theorem dX2_isAwayFromZero_112 : decode cX2_isAwayFromZero 112 = .ok (.irem, 1) := by decide +kernel
theorem dX2_isAwayFromZero_113 : decode cX2_isAwayFromZero 113 = .ok (.iconst 1, 1) := by decide +kernel
theorem dX2_isAwayFromZero_114 : decode cX2_isAwayFromZero 114 = .ok (.if_icmp .ne 7, 3) := by decide +kernel
theorem dX2_isAwayFromZero_117 : decode cX2_isAwayFromZero 117 = .ok (.iconst 1, 1) := by decide +kernel
theorem dX2_isAwayFromZero_118 : decode cX2_isAwayFromZero 118 = .ok (.goto 4, 3) := by decide +kernel
theorem dX2_isAwayFromZero_121 : decode cX2_isAwayFromZero 121 = .ok (.iconst 0, 1) := by decide +kernel
theorem dX2_isAwayFromZero_122 : decode cX2_isAwayFromZero 122 = .ok (.ireturn, 1) := by decide +kernel
theorem dX2_isAwayFromZero_123 : decode cX2_isAwayFromZero 123 = .ok (.iconst 0, 1) := by decide +kernel
theorem dX2_isAwayFromZero_124 : decode cX2_isAwayFromZero 124 = .ok (.ireturn, 1) := by decide +kernel
set_option maxRecDepth 20000 in
theorem ggX2_cutOff_X2_split : GoodIn wsX2_cutOff wsX2_split := goodIn_r _ [8, 9, 10, 1, 11, 12, 3, 13, 14, 15, 7, 16, 17, 18, 19, 20, 21, 22, 23, 24, 25, 26, 27, 28, 29, 30, 31, 32, 33, 34, 35, 36, 37, 38, 39, 40, 41, 42, 43, 44, 45, 46, 47, 48, 49, 50, 51, 52, 53, 54, 55, 56, 57, 58, 59, 60, 61, 62, 63, 64, 65, 66, 67, 68, 69, 70, 71, 72, 73, 74, 75, 76, 77, 78] (by decide +kernel) (by decide +kernel)
set_option maxRecDepth 20000 in
theorem gX2_cutOff_X2_split : GoodIn wsX2_cutOff (wsV RX2 106 RX2 yX2_split wsX2_split) := goodIn_app (goodIn_of _ (by decide +kernel)) ggX2_cutOff_X2_split
theorem dX2_cutOff_0 : decode cX2_cutOff 0 = .ok (.aload_n 0, 1) := by decide +kernel
theorem dX2_cutOff_1 : decode cX2_cutOff 1 = .ok (.aload_n 0, 1) := by decide +kernel
theorem dX2_cutOff_2 : decode cX2_cutOff 2 = .ok (.getfield 16, 3) := by decide +kernel
theorem dX2_cutOff_5 : decode cX2_cutOff 5 = .ok (.aload_n 0, 1) := by decide +kernel
theorem dX2_cutOff_6 : decode cX2_cutOff 6 = .ok (.getfield 20, 3) := by decide +kernel
theorem dX2_cutOff_9 : decode cX2_cutOff 9 = .ok (.aload_n 0, 1) := by decide +kernel
theorem dX2_cutOff_10 : decode cX2_cutOff 10 = .ok (.getfield 16, 3) := by decide +kernel
theorem dX2_cutOff_13 : decode cX2_cutOff 13 = .ok (.getfield 56, 3) := by decide +kernel
theorem dX2_cutOff_16 : decode cX2_cutOff 16 = .ok (.iload_n 1, 1) := by decide +kernel
theorem dX2_cutOff_17 : decode cX2_cutOff 17 = .ok (.isub, 1) := by decide +kernel
theorem dX2_cutOff_18 : decode cX2_cutOff 18 = .ok (.invokevirtual 106, 3) := by decide +kernel
theorem dX2_cutOff_21 : decode cX2_cutOff 21 = .ok (.return_, 1) := by decide +kernel
set_option maxRecDepth 20000 in
theorem ggX2_cutOffZeros_X1_isZero : GoodIn wsX2_cutOffZeros wsX1_isZero := goodIn_r _ [8, 9, 94, 95] (by decide +kernel) (by decide +kernel)
set_option maxRecDepth 20000 in
theorem gX2_cutOffZeros_X1_isZero : GoodIn wsX2_cutOffZeros (wsV RX2 92 RX1 yX1_isZero wsX1_isZero) := goodIn_app (goodIn_of _ (by decide +kernel)) ggX2_cutOffZeros_X1_isZero
set_option maxRecDepth 20000 in
theorem ggX2_cutOffZeros_X1_zerosAtEnd : GoodIn wsX2_cutOffZeros wsX1_zerosAtEnd := goodIn_r _ [13, 9, 14, 15, 16, 7, 17, 18, 19, 20, 94, 95] (by decide +kernel) (by decide +kernel)
set_option maxRecDepth 20000 in
theorem gX2_cutOffZeros_X1_zerosAtEnd : GoodIn wsX2_cutOffZeros (wsV RX2 166 RX1 yX1_zerosAtEnd wsX1_zerosAtEnd) := goodIn_app (goodIn_of _ (by decide +kernel)) ggX2_cutOffZeros_X1_zerosAtEnd
set_option maxRecDepth 20000 in
theorem ggX2_cutOffZeros_X2_cutOff : GoodIn wsX2_cutOffZeros wsX2_cutOff := goodIn_r _ [25, 1, 26, 3, 27, 28, 29, 24, 30, 31, 32, 2, 33, 34, 35, 36, 37, 38, 39, 40, 7, 41, 18, 42, 43, 44, 45, 9, 46, 47, 48, 49, 19, 50, 51, 52, 53, 54, 55, 56, 57, 58, 59, 60, 61, 62, 63, 64, 65, 66, 67, 68, 69, 70, 71, 72, 73, 74, 75, 76, 77, 78, 79, 80, 81, 82, 83, 84, 85, 86, 87, 88, 89, 90, 91, 92, 93, 94, 95] (by decide +kernel) (by decide +kernel)
set_option maxRecDepth 20000 in
theorem gX2_cutOffZeros_X2_cutOff : GoodIn wsX2_cutOffZeros (wsV RX2 118 RX2 yX2_cutOff wsX2_cutOff) := goodIn_app (goodIn_of _ (by decide +kernel)) ggX2_cutOffZeros_X2_cutOff
theorem dX2_cutOffZeros_0 : decode cX2_cutOffZeros 0 = .ok (.aload_n 0, 1) := by decide +kernel
theorem dX2_cutOffZeros_1 : decode cX2_cutOffZeros 1 = .ok (.getfield 16, 3) := by decide +kernel
theorem dX2_cutOffZeros_4 : decode cX2_cutOffZeros 4 = .ok (.getfield 23, 3) := by decide +kernel
theorem dX2_cutOffZeros_7 : decode cX2_cutOffZeros 7 = .ok (.invokevirtual 92, 3) := by decide +kernel
theorem dX2_cutOffZeros_10 : decode cX2_cutOffZeros 10 = .ok (.ifCond .eq 14, 3) := by decide +kernel
theorem dX2_cutOffZeros_13 : decode cX2_cutOffZeros 13 = .ok (.aload_n 0, 1) := by decide +kernel
theorem dX2_cutOffZeros_14 : decode cX2_cutOffZeros 14 = .ok (.getfield 16, 3) := by decide +kernel
theorem dX2_cutOffZeros_17 : decode cX2_cutOffZeros 17 = .ok (.iconst 0, 1) := by decide +kernel
theorem dX2_cutOffZeros_18 : decode cX2_cutOffZeros 18 = .ok (.putfield 56, 3) := by decide +kernel
theorem dX2_cutOffZeros_21 : decode cX2_cutOffZeros 21 = .ok (.goto 17, 3) := by decide +kernel
theorem dX2_cutOffZeros_24 : decode cX2_cutOffZeros 24 = .ok (.aload_n 0, 1) := by decide +kernel
theorem dX2_cutOffZeros_25 : decode cX2_cutOffZeros 25 = .ok (.aload_n 0, 1) := by decide +kernel
theorem dX2_cutOffZeros_26 : decode cX2_cutOffZeros 26 = .ok (.getfield 16, 3) := by decide +kernel
theorem dX2_cutOffZeros_29 : decode cX2_cutOffZeros 29 = .ok (.getfield 23, 3) := by decide +kernel
theorem dX2_cutOffZeros_32 : decode cX2_cutOffZeros 32 = .ok (.invokevirtual 166, 3) := by decide +kernel
theorem dX2_cutOffZeros_35 : decode cX2_cutOffZeros 35 = .ok (.invokevirtual 118, 3) := by decide +kernel
theorem dX2_cutOffZeros_38 : decode cX2_cutOffZeros 38 = .ok (.return_, 1) := by decide +kernel
set_option maxRecDepth 20000 in
theorem ggX2_addUp_X2_align : GoodIn wsX2_addUp wsX2_align := goodIn_r _ [14, 1, 7, 15, 8, 16, 17, 18, 19, 20, 21, 22, 23, 24, 25, 26, 27, 28, 29, 30, 31, 32, 33, 34, 35, 36, 37, 38, 39, 40, 71, 72, 73, 74, 75, 76, 77, 78, 79, 80, 81, 82] (by decide +kernel) (by decide +kernel)
set_option maxRecDepth 20000 in
theorem gX2_addUp_X2_align : GoodIn wsX2_addUp (wsV RX2 155 RX2 yX2_align wsX2_align) := goodIn_app (goodIn_of _ (by decide +kernel)) ggX2_addUp_X2_align
set_option maxRecDepth 20000 in
theorem ggX2_addUp_X1_add : GoodIn wsX2_addUp wsX1_add := goodIn_r _ [44, 26, 45, 3, 4, 5, 21, 32, 33, 34, 35, 19, 36, 81, 82] (by decide +kernel) (by decide +kernel)
set_option maxRecDepth 20000 in
theorem gX2_addUp_X1_add : GoodIn wsX2_addUp (wsV RX2 73 RX1 yX1_add wsX1_add) := goodIn_app (goodIn_of _ (by decide +kernel)) ggX2_addUp_X1_add
set_option maxRecDepth 20000 in
theorem ggX2_addUp_X0_take : GoodIn wsX2_addUp wsX0_take := goodIn_r _ [50, 51, 52, 53, 54, 17, 18, 19, 20, 21, 22, 23, 24, 25, 26, 55, 56, 57, 58, 71, 72, 73, 81, 82] (by decide +kernel) (by decide +kernel)
set_option maxRecDepth 20000 in
theorem gX2_addUp_X0_take : GoodIn wsX2_addUp (wsV RX2 110 RX0 yX0_take wsX0_take) := goodIn_app (goodIn_of _ (by decide +kernel)) ggX2_addUp_X0_take
set_option maxRecDepth 20000 in
theorem ggX2_addUp_X1_order : GoodIn wsX2_addUp wsX1_order := goodIn_r _ [62, 26, 21, 81, 82] (by decide +kernel) (by decide +kernel)
set_option maxRecDepth 20000 in
theorem gX2_addUp_X1_order : GoodIn wsX2_addUp (wsV RX2 127 RX1 yX1_order wsX1_order) := goodIn_app (goodIn_of _ (by decide +kernel)) ggX2_addUp_X1_order
set_option maxRecDepth 20000 in
theorem ggX2_addUp_X1_subtract : GoodIn wsX2_addUp wsX1_subtract := goodIn_r _ [66, 26, 21, 32, 67, 68, 69, 19, 70, 81, 82] (by decide +kernel) (by decide +kernel)
set_option maxRecDepth 20000 in
theorem gX2_addUp_X1_subtract : GoodIn wsX2_addUp (wsV RX2 169 RX1 yX1_subtract wsX1_subtract) := goodIn_app (goodIn_of _ (by decide +kernel)) ggX2_addUp_X1_subtract
theorem dX2_addUp_0 : decode cX2_addUp 0 = .ok (.aload_n 1, 1) := by decide +kernel
theorem dX2_addUp_1 : decode cX2_addUp 1 = .ok (.getfield 56, 3) := by decide +kernel
theorem dX2_addUp_4 : decode cX2_addUp 4 = .ok (.aload_n 2, 1) := by decide +kernel
theorem dX2_addUp_5 : decode cX2_addUp 5 = .ok (.getfield 56, 3) := by decide +kernel
theorem dX2_addUp_8 : decode cX2_addUp 8 = .ok (.invokestatic 100, 3) := by decide +kernel
theorem dX2_addUp_11 : decode cX2_addUp 11 = .ok (.istore 4, 2) := by decide +kernel
theorem dX2_addUp_13 : decode cX2_addUp 13 = .ok (.aload_n 0, 1) := by decide +kernel
theorem dX2_addUp_14 : decode cX2_addUp 14 = .ok (.aload_n 1, 1) := by decide +kernel
theorem dX2_addUp_15 : decode cX2_addUp 15 = .ok (.aload_n 2, 1) := by decide +kernel
theorem dX2_addUp_16 : decode cX2_addUp 16 = .ok (.iconst 0, 1) := by decide +kernel
theorem dX2_addUp_17 : decode cX2_addUp 17 = .ok (.invokevirtual 155, 3) := by decide +kernel
theorem dX2_addUp_20 : decode cX2_addUp 20 = .ok (.aload_n 1, 1) := by decide +kernel
theorem dX2_addUp_21 : decode cX2_addUp 21 = .ok (.getfield 52, 3) := by decide +kernel
theorem dX2_addUp_24 : decode cX2_addUp 24 = .ok (.iload_n 3, 1) := by decide +kernel
theorem dX2_addUp_25 : decode cX2_addUp 25 = .ok (.if_icmp .ne 34, 3) := by decide +kernel
theorem dX2_addUp_28 : decode cX2_addUp 28 = .ok (.aload_n 0, 1) := by decide +kernel
theorem dX2_addUp_29 : decode cX2_addUp 29 = .ok (.getfield 34, 3) := by decide +kernel
theorem dX2_addUp_32 : decode cX2_addUp 32 = .ok (.aload_n 0, 1) := by decide +kernel
theorem dX2_addUp_33 : decode cX2_addUp 33 = .ok (.getfield 37, 3) := by decide +kernel
theorem dX2_addUp_36 : decode cX2_addUp 36 = .ok (.invokevirtual 73, 3) := by decide +kernel
theorem dX2_addUp_39 : decode cX2_addUp 39 = .ok (.aload_n 0, 1) := by decide +kernel
theorem dX2_addUp_40 : decode cX2_addUp 40 = .ok (.getfield 16, 3) := by decide +kernel
theorem dX2_addUp_43 : decode cX2_addUp 43 = .ok (.aload_n 0, 1) := by decide +kernel
theorem dX2_addUp_44 : decode cX2_addUp 44 = .ok (.getfield 34, 3) := by decide +kernel
theorem dX2_addUp_47 : decode cX2_addUp 47 = .ok (.aload_n 1, 1) := by decide +kernel
theorem dX2_addUp_48 : decode cX2_addUp 48 = .ok (.getfield 52, 3) := by decide +kernel
theorem dX2_addUp_51 : decode cX2_addUp 51 = .ok (.iload 4, 2) := by decide +kernel
theorem dX2_addUp_53 : decode cX2_addUp 53 = .ok (.invokevirtual 110, 3) := by decide +kernel
theorem dX2_addUp_56 : decode cX2_addUp 56 = .ok (.goto 73, 3) := by decide +kernel
theorem dX2_addUp_59 : decode cX2_addUp 59 = .ok (.aload_n 0, 1) := by decide +kernel
theorem dX2_addUp_60 : decode cX2_addUp 60 = .ok (.getfield 34, 3) := by decide +kernel
theorem dX2_addUp_63 : decode cX2_addUp 63 = .ok (.aload_n 0, 1) := by decide +kernel
theorem dX2_addUp_64 : decode cX2_addUp 64 = .ok (.getfield 37, 3) := by decide +kernel
theorem dX2_addUp_67 : decode cX2_addUp 67 = .ok (.invokevirtual 127, 3) := by decide +kernel
theorem dX2_addUp_70 : decode cX2_addUp 70 = .ok (.ifCond .lt 34, 3) := by decide +kernel
theorem dX2_addUp_73 : decode cX2_addUp 73 = .ok (.aload_n 0, 1) := by decide +kernel
theorem dX2_addUp_74 : decode cX2_addUp 74 = .ok (.getfield 34, 3) := by decide +kernel
theorem dX2_addUp_77 : decode cX2_addUp 77 = .ok (.aload_n 0, 1) := by decide +kernel
theorem dX2_addUp_78 : decode cX2_addUp 78 = .ok (.getfield 37, 3) := by decide +kernel
theorem dX2_addUp_81 : decode cX2_addUp 81 = .ok (.invokevirtual 169, 3) := by decide +kernel
theorem dX2_addUp_84 : decode cX2_addUp 84 = .ok (.aload_n 0, 1) := by decide +kernel
theorem dX2_addUp_85 : decode cX2_addUp 85 = .ok (.getfield 16, 3) := by decide +kernel
theorem dX2_addUp_88 : decode cX2_addUp 88 = .ok (.aload_n 0, 1) := by decide +kernel
theorem dX2_addUp_89 : decode cX2_addUp 89 = .ok (.getfield 34, 3) := by decide +kernel
theorem dX2_addUp_92 : decode cX2_addUp 92 = .ok (.aload_n 1, 1) := by decide +kernel
theorem dX2_addUp_93 : decode cX2_addUp 93 = .ok (.getfield 52, 3) := by decide +kernel
theorem dX2_addUp_96 : decode cX2_addUp 96 = .ok (.iload 4, 2) := by decide +kernel
theorem dX2_addUp_98 : decode cX2_addUp 98 = .ok (.invokevirtual 110, 3) := by decide +kernel
theorem dX2_addUp_101 : decode cX2_addUp 101 = .ok (.goto 28, 3) := by decide +kernel
theorem dX2_addUp_104 : decode cX2_addUp 104 = .ok (.aload_n 0, 1) := by decide +kernel
theorem dX2_addUp_105 : decode cX2_addUp 105 = .ok (.getfield 37, 3) := by decide +kernel
theorem dX2_addUp_108 : decode cX2_addUp 108 = .ok (.aload_n 0, 1) := by decide +kernel
theorem dX2_addUp_109 : decode cX2_addUp 109 = .ok (.getfield 34, 3) := by decide +kernel
theorem dX2_addUp_112 : decode cX2_addUp 112 = .ok (.invokevirtual 169, 3) := by decide +kernel
theorem dX2_addUp_115 : decode cX2_addUp 115 = .ok (.aload_n 0, 1) := by decide +kernel
theorem dX2_addUp_116 : decode cX2_addUp 116 = .ok (.getfield 16, 3) := by decide +kernel
theorem dX2_addUp_119 : decode cX2_addUp 119 = .ok (.aload_n 0, 1) := by decide +kernel
theorem dX2_addUp_120 : decode cX2_addUp 120 = .ok (.getfield 37, 3) := by decide +kernel
theorem dX2_addUp_123 : decode cX2_addUp 123 = .ok (.iload_n 3, 1) := by decide +kernel
theorem dX2_addUp_124 : decode cX2_addUp 124 = .ok (.iload 4, 2) := by decide +kernel
theorem dX2_addUp_126 : decode cX2_addUp 126 = .ok (.invokevirtual 110, 3) := by decide +kernel
theorem dX2_addUp_129 : decode cX2_addUp 129 = .ok (.return_, 1) := by decide +kernel
set_option maxRecDepth 20000 in
theorem ggX2_multiply_X1_becomeProduct : GoodIn wsX2_multiply wsX1_becomeProduct := goodIn_r _ [10, 11, 12, 13, 14, 15, 16, 9, 17, 18, 19, 20, 21, 52, 53] (by decide +kernel) (by decide +kernel)
set_option maxRecDepth 20000 in
theorem gX2_multiply_X1_becomeProduct : GoodIn wsX2_multiply (wsV RX2 172 RX1 yX1_becomeProduct wsX1_becomeProduct) := goodIn_app (goodIn_of _ (by decide +kernel)) ggX2_multiply_X1_becomeProduct
set_option maxRecDepth 20000 in
theorem ggX2_multiply_X0_take : GoodIn wsX2_multiply wsX0_take := goodIn_r _ [26, 27, 28, 29, 30, 31, 32, 9, 33, 12, 34, 35, 36, 37, 11, 38, 39, 40, 41, 49, 50, 51, 52, 53] (by decide +kernel) (by decide +kernel)
set_option maxRecDepth 20000 in
theorem gX2_multiply_X0_take : GoodIn wsX2_multiply (wsV RX2 110 RX0 yX0_take wsX0_take) := goodIn_app (goodIn_of _ (by decide +kernel)) ggX2_multiply_X0_take
theorem dX2_multiply_0 : decode cX2_multiply 0 = .ok (.aload_n 0, 1) := by decide +kernel
theorem dX2_multiply_1 : decode cX2_multiply 1 = .ok (.getfield 34, 3) := by decide +kernel
theorem dX2_multiply_4 : decode cX2_multiply 4 = .ok (.aload_n 1, 1) := by decide +kernel
theorem dX2_multiply_5 : decode cX2_multiply 5 = .ok (.getfield 23, 3) := by decide +kernel
theorem dX2_multiply_8 : decode cX2_multiply 8 = .ok (.aload_n 2, 1) := by decide +kernel
theorem dX2_multiply_9 : decode cX2_multiply 9 = .ok (.getfield 23, 3) := by decide +kernel
theorem dX2_multiply_12 : decode cX2_multiply 12 = .ok (.invokevirtual 172, 3) := by decide +kernel
theorem dX2_multiply_15 : decode cX2_multiply 15 = .ok (.aload_n 0, 1) := by decide +kernel
theorem dX2_multiply_16 : decode cX2_multiply 16 = .ok (.getfield 16, 3) := by decide +kernel
theorem dX2_multiply_19 : decode cX2_multiply 19 = .ok (.aload_n 0, 1) := by decide +kernel
theorem dX2_multiply_20 : decode cX2_multiply 20 = .ok (.getfield 34, 3) := by decide +kernel
theorem dX2_multiply_23 : decode cX2_multiply 23 = .ok (.aload_n 1, 1) := by decide +kernel
theorem dX2_multiply_24 : decode cX2_multiply 24 = .ok (.getfield 52, 3) := by decide +kernel
theorem dX2_multiply_27 : decode cX2_multiply 27 = .ok (.aload_n 2, 1) := by decide +kernel
theorem dX2_multiply_28 : decode cX2_multiply 28 = .ok (.getfield 52, 3) := by decide +kernel
theorem dX2_multiply_31 : decode cX2_multiply 31 = .ok (.if_icmp .eq 7, 3) := by decide +kernel
theorem dX2_multiply_34 : decode cX2_multiply 34 = .ok (.iconst 1, 1) := by decide +kernel
theorem dX2_multiply_35 : decode cX2_multiply 35 = .ok (.goto 4, 3) := by decide +kernel
theorem dX2_multiply_38 : decode cX2_multiply 38 = .ok (.iconst 0, 1) := by decide +kernel
theorem dX2_multiply_39 : decode cX2_multiply 39 = .ok (.aload_n 1, 1) := by decide +kernel
theorem dX2_multiply_40 : decode cX2_multiply 40 = .ok (.getfield 56, 3) := by decide +kernel
theorem dX2_multiply_43 : decode cX2_multiply 43 = .ok (.aload_n 2, 1) := by decide +kernel
theorem dX2_multiply_44 : decode cX2_multiply 44 = .ok (.getfield 56, 3) := by decide +kernel
theorem dX2_multiply_47 : decode cX2_multiply 47 = .ok (.iadd, 1) := by decide +kernel
theorem dX2_multiply_48 : decode cX2_multiply 48 = .ok (.invokevirtual 110, 3) := by decide +kernel
theorem dX2_multiply_51 : decode cX2_multiply 51 = .ok (.return_, 1) := by decide +kernel
set_option maxRecDepth 20000 in
theorem ggX2_order_X0_sign : GoodIn wsX2_order wsX0_sign := goodIn_r _ [8, 9, 10, 11, 12, 13, 14, 15, 16, 51, 52, 53, 61, 62] (by decide +kernel) (by decide +kernel)
set_option maxRecDepth 20000 in
theorem gX2_order_X0_sign : GoodIn wsX2_order (wsV RX2 130 RX0 yX0_sign wsX0_sign) := goodIn_app (goodIn_of _ (by decide +kernel)) ggX2_order_X0_sign
set_option maxRecDepth 20000 in
theorem ggX2_order_X2_align : GoodIn wsX2_order wsX2_align := goodIn_r _ [21, 22, 3, 23, 2, 24, 25, 26, 14, 27, 28, 29, 30, 31, 32, 16, 33, 34, 35, 36, 37, 38, 39, 40, 41, 42, 43, 44, 45, 46, 51, 52, 53, 54, 55, 56, 57, 58, 59, 60, 61, 62] (by decide +kernel) (by decide +kernel)
set_option maxRecDepth 20000 in
theorem gX2_order_X2_align : GoodIn wsX2_order (wsV RX2 155 RX2 yX2_align wsX2_align) := goodIn_app (goodIn_of _ (by decide +kernel)) ggX2_order_X2_align
set_option maxRecDepth 20000 in
theorem ggX2_order_X1_order : GoodIn wsX2_order wsX1_order := goodIn_r _ [50, 16, 28, 61, 62] (by decide +kernel) (by decide +kernel)
set_option maxRecDepth 20000 in
theorem gX2_order_X1_order : GoodIn wsX2_order (wsV RX2 127 RX1 yX1_order wsX1_order) := goodIn_app (goodIn_of _ (by decide +kernel)) ggX2_order_X1_order
theorem dX2_order_0 : decode cX2_order 0 = .ok (.aload_n 1, 1) := by decide +kernel
theorem dX2_order_1 : decode cX2_order 1 = .ok (.invokevirtual 130, 3) := by decide +kernel
theorem dX2_order_4 : decode cX2_order 4 = .ok (.aload_n 2, 1) := by decide +kernel
theorem dX2_order_5 : decode cX2_order 5 = .ok (.invokevirtual 130, 3) := by decide +kernel
theorem dX2_order_8 : decode cX2_order 8 = .ok (.if_icmp .eq 20, 3) := by decide +kernel
theorem dX2_order_11 : decode cX2_order 11 = .ok (.aload_n 1, 1) := by decide +kernel
theorem dX2_order_12 : decode cX2_order 12 = .ok (.invokevirtual 130, 3) := by decide +kernel
theorem dX2_order_15 : decode cX2_order 15 = .ok (.aload_n 2, 1) := by decide +kernel
theorem dX2_order_16 : decode cX2_order 16 = .ok (.invokevirtual 130, 3) := by decide +kernel
theorem dX2_order_19 : decode cX2_order 19 = .ok (.if_icmp .ge 7, 3) := by decide +kernel
theorem dX2_order_22 : decode cX2_order 22 = .ok (.iconst (-1), 1) := by decide +kernel
theorem dX2_order_23 : decode cX2_order 23 = .ok (.goto 4, 3) := by decide +kernel
theorem dX2_order_26 : decode cX2_order 26 = .ok (.iconst 1, 1) := by decide +kernel
theorem dX2_order_27 : decode cX2_order 27 = .ok (.ireturn, 1) := by decide +kernel
theorem dX2_order_28 : decode cX2_order 28 = .ok (.aload_n 0, 1) := by decide +kernel
theorem dX2_order_29 : decode cX2_order 29 = .ok (.aload_n 1, 1) := by decide +kernel
theorem dX2_order_30 : decode cX2_order 30 = .ok (.aload_n 2, 1) := by decide +kernel
theorem dX2_order_31 : decode cX2_order 31 = .ok (.iconst 0, 1) := by decide +kernel
theorem dX2_order_32 : decode cX2_order 32 = .ok (.invokevirtual 155, 3) := by decide +kernel
theorem dX2_order_35 : decode cX2_order 35 = .ok (.aload_n 1, 1) := by decide +kernel
theorem dX2_order_36 : decode cX2_order 36 = .ok (.getfield 52, 3) := by decide +kernel
theorem dX2_order_39 : decode cX2_order 39 = .ok (.ifCond .eq 17, 3) := by decide +kernel
theorem dX2_order_42 : decode cX2_order 42 = .ok (.aload_n 0, 1) := by decide +kernel
theorem dX2_order_43 : decode cX2_order 43 = .ok (.getfield 37, 3) := by decide +kernel
theorem dX2_order_46 : decode cX2_order 46 = .ok (.aload_n 0, 1) := by decide +kernel
theorem dX2_order_47 : decode cX2_order 47 = .ok (.getfield 34, 3) := by decide +kernel
theorem dX2_order_50 : decode cX2_order 50 = .ok (.invokevirtual 127, 3) := by decide +kernel
theorem dX2_order_53 : decode cX2_order 53 = .ok (.goto 14, 3) := by decide +kernel
theorem dX2_order_56 : decode cX2_order 56 = .ok (.aload_n 0, 1) := by decide +kernel
theorem dX2_order_57 : decode cX2_order 57 = .ok (.getfield 34, 3) := by decide +kernel
theorem dX2_order_60 : decode cX2_order 60 = .ok (.aload_n 0, 1) := by decide +kernel
theorem dX2_order_61 : decode cX2_order 61 = .ok (.getfield 37, 3) := by decide +kernel
theorem dX2_order_64 : decode cX2_order 64 = .ok (.invokevirtual 127, 3) := by decide +kernel
theorem dX2_order_67 : decode cX2_order 67 = .ok (.ireturn, 1) := by decide +kernel
set_option maxRecDepth 20000 in
theorem ggX2_appendFigures_X1_precision : GoodIn wsX2_appendFigures wsX1_precision := goodIn_r _ [11, 12, 13, 4, 5, 6, 14, 15, 16, 10, 17, 18, 19, 20, 32, 33] (by decide +kernel) (by decide +kernel)
set_option maxRecDepth 20000 in
theorem gX2_appendFigures_X1_precision : GoodIn wsX2_appendFigures (wsV RX2 114 RX1 yX1_precision wsX1_precision) := goodIn_app (goodIn_of _ (by decide +kernel)) ggX2_appendFigures_X1_precision
set_option maxRecDepth 20000 in
theorem ggX2_appendFigures_X1_figure : GoodIn wsX2_appendFigures wsX1_figure := goodIn_r _ [17, 12, 18, 19, 20, 32, 33] (by decide +kernel) (by decide +kernel)
set_option maxRecDepth 20000 in
theorem gX2_appendFigures_X1_figure : GoodIn wsX2_appendFigures (wsV RX2 133 RX1 yX1_figure wsX1_figure) := goodIn_app (goodIn_of _ (by decide +kernel)) ggX2_appendFigures_X1_figure
set_option maxRecDepth 20000 in
theorem ggX2_appendFigures_X2_append : GoodIn wsX2_appendFigures wsX2_append := goodIn_r _ [26, 27, 28, 34, 35, 36, 37, 38, 39, 40] (by decide +kernel) (by decide +kernel)
set_option maxRecDepth 20000 in
theorem gX2_appendFigures_X2_append : GoodIn wsX2_appendFigures (wsV RX2 140 RX2 yX2_append wsX2_append) := goodIn_app (goodIn_of _ (by decide +kernel)) ggX2_appendFigures_X2_append
theorem dX2_appendFigures_0 : decode cX2_appendFigures 0 = .ok (.aload_n 1, 1) := by decide +kernel
theorem dX2_appendFigures_1 : decode cX2_appendFigures 1 = .ok (.getfield 23, 3) := by decide +kernel
theorem dX2_appendFigures_4 : decode cX2_appendFigures 4 = .ok (.invokevirtual 114, 3) := by decide +kernel
theorem dX2_appendFigures_7 : decode cX2_appendFigures 7 = .ok (.iconst 1, 1) := by decide +kernel
theorem dX2_appendFigures_8 : decode cX2_appendFigures 8 = .ok (.isub, 1) := by decide +kernel
theorem dX2_appendFigures_9 : decode cX2_appendFigures 9 = .ok (.aload_n 1, 1) := by decide +kernel
theorem dX2_appendFigures_10 : decode cX2_appendFigures 10 = .ok (.getfield 56, 3) := by decide +kernel
theorem dX2_appendFigures_13 : decode cX2_appendFigures 13 = .ok (.invokestatic 100, 3) := by decide +kernel
theorem dX2_appendFigures_16 : decode cX2_appendFigures 16 = .ok (.istore_n 2, 1) := by decide +kernel
theorem dX2_appendFigures_17 : decode cX2_appendFigures 17 = .ok (.iload_n 2, 1) := by decide +kernel
theorem dX2_appendFigures_18 : decode cX2_appendFigures 18 = .ok (.ifCond .lt 43, 3) := by decide +kernel
theorem dX2_appendFigures_21 : decode cX2_appendFigures 21 = .ok (.aload_n 0, 1) := by decide +kernel
theorem dX2_appendFigures_22 : decode cX2_appendFigures 22 = .ok (.bipush 48, 2) := by decide +kernel
theorem dX2_appendFigures_24 : decode cX2_appendFigures 24 = .ok (.aload_n 1, 1) := by decide +kernel
theorem dX2_appendFigures_25 : decode cX2_appendFigures 25 = .ok (.getfield 23, 3) := by decide +kernel
theorem dX2_appendFigures_28 : decode cX2_appendFigures 28 = .ok (.iload_n 2, 1) := by decide +kernel
theorem dX2_appendFigures_29 : decode cX2_appendFigures 29 = .ok (.invokevirtual 133, 3) := by decide +kernel
theorem dX2_appendFigures_32 : decode cX2_appendFigures 32 = .ok (.iadd, 1) := by decide +kernel
theorem dX2_appendFigures_33 : decode cX2_appendFigures 33 = .ok (.i2c, 1) := by decide +kernel
theorem dX2_appendFigures_34 : decode cX2_appendFigures 34 = .ok (.invokevirtual 140, 3) := by decide +kernel
theorem dX2_appendFigures_37 : decode cX2_appendFigures 37 = .ok (.iload_n 2, 1) := by decide +kernel
theorem dX2_appendFigures_38 : decode cX2_appendFigures 38 = .ok (.ifCond .le 17, 3) := by decide +kernel
theorem dX2_appendFigures_41 : decode cX2_appendFigures 41 = .ok (.iload_n 2, 1) := by decide +kernel
theorem dX2_appendFigures_42 : decode cX2_appendFigures 42 = .ok (.aload_n 1, 1) := by decide +kernel
theorem dX2_appendFigures_43 : decode cX2_appendFigures 43 = .ok (.getfield 56, 3) := by decide +kernel
theorem dX2_appendFigures_46 : decode cX2_appendFigures 46 = .ok (.if_icmp .ne 9, 3) := by decide +kernel
theorem dX2_appendFigures_49 : decode cX2_appendFigures 49 = .ok (.aload_n 0, 1) := by decide +kernel
theorem dX2_appendFigures_50 : decode cX2_appendFigures 50 = .ok (.bipush 46, 2) := by decide +kernel
theorem dX2_appendFigures_52 : decode cX2_appendFigures 52 = .ok (.invokevirtual 140, 3) := by decide +kernel
theorem dX2_appendFigures_55 : decode cX2_appendFigures 55 = .ok (.iinc 2 (-1), 3) := by decide +kernel
theorem dX2_appendFigures_58 : decode cX2_appendFigures 58 = .ok (.goto (-41), 3) := by decide +kernel
theorem dX2_appendFigures_61 : decode cX2_appendFigures 61 = .ok (.return_, 1) := by decide +kernel
set_option maxRecDepth 20000 in
theorem ggX2_appendZeros_X2_append : GoodIn wsX2_appendZeros wsX2_append := goodIn_r _ [5, 6, 7, 8, 9, 10, 11, 12, 13, 14] (by decide +kernel) (by decide +kernel)
set_option maxRecDepth 20000 in
theorem gX2_appendZeros_X2_append : GoodIn wsX2_appendZeros (wsV RX2 140 RX2 yX2_append wsX2_append) := goodIn_app (goodIn_of _ (by decide +kernel)) ggX2_appendZeros_X2_append
theorem dX2_appendZeros_0 : decode cX2_appendZeros 0 = .ok (.iconst 0, 1) := by decide +kernel
theorem dX2_appendZeros_1 : decode cX2_appendZeros 1 = .ok (.istore_n 2, 1) := by decide +kernel
theorem dX2_appendZeros_2 : decode cX2_appendZeros 2 = .ok (.iload_n 2, 1) := by decide +kernel
theorem dX2_appendZeros_3 : decode cX2_appendZeros 3 = .ok (.iload_n 1, 1) := by decide +kernel
theorem dX2_appendZeros_4 : decode cX2_appendZeros 4 = .ok (.if_icmp .ge 15, 3) := by decide +kernel
theorem dX2_appendZeros_7 : decode cX2_appendZeros 7 = .ok (.aload_n 0, 1) := by decide +kernel
theorem dX2_appendZeros_8 : decode cX2_appendZeros 8 = .ok (.bipush 48, 2) := by decide +kernel
theorem dX2_appendZeros_10 : decode cX2_appendZeros 10 = .ok (.invokevirtual 140, 3) := by decide +kernel
theorem dX2_appendZeros_13 : decode cX2_appendZeros 13 = .ok (.iinc 2 1, 3) := by decide +kernel
theorem dX2_appendZeros_16 : decode cX2_appendZeros 16 = .ok (.goto (-14), 3) := by decide +kernel
theorem dX2_appendZeros_19 : decode cX2_appendZeros 19 = .ok (.return_, 1) := by decide +kernel
theorem dX2_append_0 : decode cX2_append 0 = .ok (.aload_n 0, 1) := by decide +kernel
theorem dX2_append_1 : decode cX2_append 1 = .ok (.getfield 44, 3) := by decide +kernel
theorem dX2_append_4 : decode cX2_append 4 = .ok (.sipush 200, 3) := by decide +kernel
theorem dX2_append_7 : decode cX2_append 7 = .ok (.if_icmp .ge 23, 3) := by decide +kernel
theorem dX2_append_10 : decode cX2_append 10 = .ok (.aload_n 0, 1) := by decide +kernel
theorem dX2_append_11 : decode cX2_append 11 = .ok (.getfield 40, 3) := by decide +kernel
theorem dX2_append_14 : decode cX2_append 14 = .ok (.aload_n 0, 1) := by decide +kernel
theorem dX2_append_15 : decode cX2_append 15 = .ok (.getfield 44, 3) := by decide +kernel
theorem dX2_append_18 : decode cX2_append 18 = .ok (.iload_n 1, 1) := by decide +kernel
theorem dX2_append_19 : decode cX2_append 19 = .ok (.castore, 1) := by decide +kernel
theorem dX2_append_20 : decode cX2_append 20 = .ok (.aload_n 0, 1) := by decide +kernel
theorem dX2_append_21 : decode cX2_append 21 = .ok (.dup, 1) := by decide +kernel
theorem dX2_append_22 : decode cX2_append 22 = .ok (.getfield 44, 3) := by decide +kernel
theorem dX2_append_25 : decode cX2_append 25 = .ok (.iconst 1, 1) := by decide +kernel
theorem dX2_append_26 : decode cX2_append 26 = .ok (.iadd, 1) := by decide +kernel
theorem dX2_append_27 : decode cX2_append 27 = .ok (.putfield 44, 3) := by decide +kernel
theorem dX2_append_30 : decode cX2_append 30 = .ok (.return_, 1) := by decide +kernel
