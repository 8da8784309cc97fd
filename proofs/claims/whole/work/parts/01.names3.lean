theorem dX7_doesPart_43 : decode cX7_doesPart 43 = .ok (.aaload, 1) := by decide +kernel
theorem dX7_doesPart_44 : decode cX7_doesPart 44 = .ok (.iload 6, 2) := by decide +kernel
theorem dX7_doesPart_46 : decode cX7_doesPart 46 = .ok (.laload, 1) := by decide +kernel
theorem dX7_doesPart_47 : decode cX7_doesPart 47 = .ok (.lxor, 1) := by decide +kernel
theorem dX7_doesPart_48 : decode cX7_doesPart 48 = .ok (.l2i, 1) := by decide +kernel
theorem dX7_doesPart_49 : decode cX7_doesPart 49 = .ok (.iload 4, 2) := by decide +kernel
theorem dX7_doesPart_51 : decode cX7_doesPart 51 = .ok (.iand, 1) := by decide +kernel
theorem dX7_doesPart_52 : decode cX7_doesPart 52 = .ok (.istore 7, 2) := by decide +kernel
theorem dX7_doesPart_54 : decode cX7_doesPart 54 = .ok (.iload 7, 2) := by decide +kernel
theorem dX7_doesPart_56 : decode cX7_doesPart 56 = .ok (.ifCond .eq 12, 3) := by decide +kernel
theorem dX7_doesPart_59 : decode cX7_doesPart 59 = .ok (.iload 7, 2) := by decide +kernel
theorem dX7_doesPart_61 : decode cX7_doesPart 61 = .ok (.iload_n 3, 1) := by decide +kernel
theorem dX7_doesPart_62 : decode cX7_doesPart 62 = .ok (.iand, 1) := by decide +kernel
theorem dX7_doesPart_63 : decode cX7_doesPart 63 = .ok (.ifCond .ne 5, 3) := by decide +kernel
theorem dX7_doesPart_66 : decode cX7_doesPart 66 = .ok (.iconst 0, 1) := by decide +kernel
theorem dX7_doesPart_67 : decode cX7_doesPart 67 = .ok (.ireturn, 1) := by decide +kernel
theorem dX7_doesPart_68 : decode cX7_doesPart 68 = .ok (.iinc 6 1, 3) := by decide +kernel
theorem dX7_doesPart_71 : decode cX7_doesPart 71 = .ok (.goto (-49), 3) := by decide +kernel
theorem dX7_doesPart_74 : decode cX7_doesPart 74 = .ok (.iinc 5 1, 3) := by decide +kernel
theorem dX7_doesPart_77 : decode cX7_doesPart 77 = .ok (.goto (-64), 3) := by decide +kernel
theorem dX7_doesPart_80 : decode cX7_doesPart 80 = .ok (.iconst 1, 1) := by decide +kernel
theorem dX7_doesPart_81 : decode cX7_doesPart 81 = .ok (.ireturn, 1) := by decide +kernel
set_option maxRecDepth 20000 in
theorem ggX7_whom_X7_noSets : GoodIn wsX7_whom wsX7_noSets := goodIn_r _ [6, 7, 8, 9, 10, 11, 5, 12, 13, 14, 15, 16, 17, 18, 19, 20, 21, 22, 31, 32, 33, 34, 35, 36, 37, 38, 39, 40, 41, 42, 43, 44, 45, 46, 47, 48, 49, 50, 51, 52, 53, 54, 55, 56, 57, 58, 59, 60, 61, 62, 63] (by decide +kernel) (by decide +kernel)
set_option maxRecDepth 20000 in
theorem gX7_whom_X7_noSets : GoodIn wsX7_whom (wsV RX7 298 RX7 yX7_noSets wsX7_noSets) := goodIn_app (goodIn_of _ (by decide +kernel)) ggX7_whom_X7_noSets
set_option maxRecDepth 20000 in
theorem ggX7_whom_X7_bits : GoodIn wsX7_whom wsX7_bits := goodIn_r _ [25] (by decide +kernel) (by decide +kernel)
set_option maxRecDepth 20000 in
theorem gX7_whom_X7_bits : GoodIn wsX7_whom (va_wsS RX7 117 yX7_bits wsX7_bits) := goodIn_app (goodIn_of _ (by decide +kernel)) ggX7_whom_X7_bits
set_option maxRecDepth 20000 in
theorem ggX7_whom_X7_doesPart : GoodIn wsX7_whom wsX7_doesPart := goodIn_r _ [29, 1, 30, 31, 32, 33, 34, 35, 36, 37, 38, 39, 40, 41, 42, 43, 44, 45, 46, 47, 48, 49, 50, 51, 52, 53, 54, 55, 56, 57, 58, 59, 60, 61, 62, 63] (by decide +kernel) (by decide +kernel)
set_option maxRecDepth 20000 in
theorem gX7_whom_X7_doesPart : GoodIn wsX7_whom (wsV RX7 301 RX7 yX7_doesPart wsX7_doesPart) := goodIn_app (goodIn_of _ (by decide +kernel)) ggX7_whom_X7_doesPart
theorem dX7_whom_0 : decode cX7_whom 0 = .ok (.aload_n 0, 1) := by decide +kernel
theorem dX7_whom_1 : decode cX7_whom 1 = .ok (.iload_n 1, 1) := by decide +kernel
theorem dX7_whom_2 : decode cX7_whom 2 = .ok (.iload_n 2, 1) := by decide +kernel
theorem dX7_whom_3 : decode cX7_whom 3 = .ok (.invokevirtual 298, 3) := by decide +kernel
theorem dX7_whom_6 : decode cX7_whom 6 = .ok (.istore_n 3, 1) := by decide +kernel
theorem dX7_whom_7 : decode cX7_whom 7 = .ok (.iload_n 3, 1) := by decide +kernel
theorem dX7_whom_8 : decode cX7_whom 8 = .ok (.ifCond .eq 5, 3) := by decide +kernel
theorem dX7_whom_11 : decode cX7_whom 11 = .ok (.iload_n 3, 1) := by decide +kernel
theorem dX7_whom_12 : decode cX7_whom 12 = .ok (.ireturn, 1) := by decide +kernel
theorem dX7_whom_13 : decode cX7_whom 13 = .ok (.iconst 1, 1) := by decide +kernel
theorem dX7_whom_14 : decode cX7_whom 14 = .ok (.aload_n 0, 1) := by decide +kernel
theorem dX7_whom_15 : decode cX7_whom 15 = .ok (.getfield 77, 3) := by decide +kernel
theorem dX7_whom_18 : decode cX7_whom 18 = .ok (.ishl, 1) := by decide +kernel
theorem dX7_whom_19 : decode cX7_whom 19 = .ok (.iconst 1, 1) := by decide +kernel
theorem dX7_whom_20 : decode cX7_whom 20 = .ok (.isub, 1) := by decide +kernel
theorem dX7_whom_21 : decode cX7_whom 21 = .ok (.istore 4, 2) := by decide +kernel
theorem dX7_whom_23 : decode cX7_whom 23 = .ok (.iload 4, 2) := by decide +kernel
theorem dX7_whom_25 : decode cX7_whom 25 = .ok (.istore 5, 2) := by decide +kernel
theorem dX7_whom_27 : decode cX7_whom 27 = .ok (.iload 5, 2) := by decide +kernel
theorem dX7_whom_29 : decode cX7_whom 29 = .ok (.ifCond .lt 37, 3) := by decide +kernel
theorem dX7_whom_32 : decode cX7_whom 32 = .ok (.iload 5, 2) := by decide +kernel
theorem dX7_whom_34 : decode cX7_whom 34 = .ok (.invokestatic 117, 3) := by decide +kernel
theorem dX7_whom_37 : decode cX7_whom 37 = .ok (.iload 4, 2) := by decide +kernel
theorem dX7_whom_39 : decode cX7_whom 39 = .ok (.invokestatic 117, 3) := by decide +kernel
theorem dX7_whom_42 : decode cX7_whom 42 = .ok (.if_icmp .gt 18, 3) := by decide +kernel
theorem dX7_whom_45 : decode cX7_whom 45 = .ok (.aload_n 0, 1) := by decide +kernel
theorem dX7_whom_46 : decode cX7_whom 46 = .ok (.iload_n 1, 1) := by decide +kernel
theorem dX7_whom_47 : decode cX7_whom 47 = .ok (.iload_n 2, 1) := by decide +kernel
theorem dX7_whom_48 : decode cX7_whom 48 = .ok (.iload 5, 2) := by decide +kernel
theorem dX7_whom_50 : decode cX7_whom 50 = .ok (.invokevirtual 301, 3) := by decide +kernel
theorem dX7_whom_53 : decode cX7_whom 53 = .ok (.ifCond .eq 7, 3) := by decide +kernel
theorem dX7_whom_56 : decode cX7_whom 56 = .ok (.iload 5, 2) := by decide +kernel
theorem dX7_whom_58 : decode cX7_whom 58 = .ok (.istore 4, 2) := by decide +kernel
theorem dX7_whom_60 : decode cX7_whom 60 = .ok (.iinc 5 (-1), 3) := by decide +kernel
theorem dX7_whom_63 : decode cX7_whom 63 = .ok (.goto (-36), 3) := by decide +kernel
theorem dX7_whom_66 : decode cX7_whom 66 = .ok (.iload 4, 2) := by decide +kernel
theorem dX7_whom_68 : decode cX7_whom 68 = .ok (.ireturn, 1) := by decide +kernel
set_option maxRecDepth 20000 in
theorem ggX7_parts_X7_in : GoodIn wsX7_parts wsX7_in := goodIn_r _ [7] (by decide +kernel) (by decide +kernel)
set_option maxRecDepth 20000 in
theorem gX7_parts_X7_in : GoodIn wsX7_parts (va_wsS RX7 80 yX7_in wsX7_in) := goodIn_app (goodIn_of _ (by decide +kernel)) ggX7_parts_X7_in
set_option maxRecDepth 20000 in
theorem ggX7_parts_X7_refuse : GoodIn wsX7_parts wsX7_refuse := goodIn_r _ [11, 12, 28, 29, 30, 31, 32, 33, 34, 35, 36, 37, 38, 39, 40, 41, 42, 43, 44, 45, 46, 47, 48, 49, 50, 51, 52, 53, 54, 55, 56, 57, 58, 59, 60] (by decide +kernel) (by decide +kernel)
set_option maxRecDepth 20000 in
theorem gX7_parts_X7_refuse : GoodIn wsX7_parts (wsV RX7 94 RX7 yX7_refuse wsX7_refuse) := goodIn_app (goodIn_of _ (by decide +kernel)) ggX7_parts_X7_refuse
set_option maxRecDepth 20000 in
theorem ggX7_parts_X7_noSets : GoodIn wsX7_parts wsX7_noSets := goodIn_r _ [16, 1, 2, 17, 4, 5, 6, 7, 8, 9, 10, 11, 12, 18, 19, 20, 21, 22, 28, 29, 30, 31, 32, 33, 34, 35, 36, 37, 38, 39, 40, 41, 42, 43, 44, 45, 46, 47, 48, 49, 50, 51, 52, 53, 54, 55, 56, 57, 58, 59, 60] (by decide +kernel) (by decide +kernel)
set_option maxRecDepth 20000 in
theorem gX7_parts_X7_noSets : GoodIn wsX7_parts (wsV RX7 298 RX7 yX7_noSets wsX7_noSets) := goodIn_app (goodIn_of _ (by decide +kernel)) ggX7_parts_X7_noSets
set_option maxRecDepth 20000 in
theorem ggX7_parts_X7_doesPart : GoodIn wsX7_parts wsX7_doesPart := goodIn_r _ [26, 3, 27, 28, 29, 30, 31, 32, 33, 34, 35, 36, 37, 38, 39, 40, 41, 42, 43, 44, 45, 46, 47, 48, 49, 50, 51, 52, 53, 54, 55, 56, 57, 58, 59, 60] (by decide +kernel) (by decide +kernel)
set_option maxRecDepth 20000 in
theorem gX7_parts_X7_doesPart : GoodIn wsX7_parts (wsV RX7 301 RX7 yX7_doesPart wsX7_doesPart) := goodIn_app (goodIn_of _ (by decide +kernel)) ggX7_parts_X7_doesPart
theorem dX7_parts_0 : decode cX7_parts 0 = .ok (.iload_n 1, 1) := by decide +kernel
theorem dX7_parts_1 : decode cX7_parts 1 = .ok (.i2l, 1) := by decide +kernel
theorem dX7_parts_2 : decode cX7_parts 2 = .ok (.lconst 0, 1) := by decide +kernel
theorem dX7_parts_3 : decode cX7_parts 3 = .ok (.ldc2_w 88, 3) := by decide +kernel
theorem dX7_parts_6 : decode cX7_parts 6 = .ok (.invokestatic 80, 3) := by decide +kernel
theorem dX7_parts_9 : decode cX7_parts 9 = .ok (.ifCond .eq 33, 3) := by decide +kernel
theorem dX7_parts_12 : decode cX7_parts 12 = .ok (.iload_n 2, 1) := by decide +kernel
theorem dX7_parts_13 : decode cX7_parts 13 = .ok (.i2l, 1) := by decide +kernel
theorem dX7_parts_14 : decode cX7_parts 14 = .ok (.lconst 1, 1) := by decide +kernel
theorem dX7_parts_15 : decode cX7_parts 15 = .ok (.ldc2_w 296, 3) := by decide +kernel
theorem dX7_parts_18 : decode cX7_parts 18 = .ok (.invokestatic 80, 3) := by decide +kernel
theorem dX7_parts_21 : decode cX7_parts 21 = .ok (.ifCond .eq 21, 3) := by decide +kernel
theorem dX7_parts_24 : decode cX7_parts 24 = .ok (.iload_n 3, 1) := by decide +kernel
theorem dX7_parts_25 : decode cX7_parts 25 = .ok (.i2l, 1) := by decide +kernel
theorem dX7_parts_26 : decode cX7_parts 26 = .ok (.lconst 0, 1) := by decide +kernel
theorem dX7_parts_27 : decode cX7_parts 27 = .ok (.iconst 1, 1) := by decide +kernel
theorem dX7_parts_28 : decode cX7_parts 28 = .ok (.aload_n 0, 1) := by decide +kernel
theorem dX7_parts_29 : decode cX7_parts 29 = .ok (.getfield 77, 3) := by decide +kernel
theorem dX7_parts_32 : decode cX7_parts 32 = .ok (.ishl, 1) := by decide +kernel
theorem dX7_parts_33 : decode cX7_parts 33 = .ok (.iconst 1, 1) := by decide +kernel
theorem dX7_parts_34 : decode cX7_parts 34 = .ok (.isub, 1) := by decide +kernel
theorem dX7_parts_35 : decode cX7_parts 35 = .ok (.i2l, 1) := by decide +kernel
theorem dX7_parts_36 : decode cX7_parts 36 = .ok (.invokestatic 80, 3) := by decide +kernel
theorem dX7_parts_39 : decode cX7_parts 39 = .ok (.ifCond .ne 10, 3) := by decide +kernel
theorem dX7_parts_42 : decode cX7_parts 42 = .ok (.aload_n 0, 1) := by decide +kernel
theorem dX7_parts_43 : decode cX7_parts 43 = .ok (.bipush (-2), 2) := by decide +kernel
theorem dX7_parts_45 : decode cX7_parts 45 = .ok (.invokevirtual 94, 3) := by decide +kernel
theorem dX7_parts_48 : decode cX7_parts 48 = .ok (.ireturn, 1) := by decide +kernel
theorem dX7_parts_49 : decode cX7_parts 49 = .ok (.aload_n 0, 1) := by decide +kernel
theorem dX7_parts_50 : decode cX7_parts 50 = .ok (.iload_n 1, 1) := by decide +kernel
theorem dX7_parts_51 : decode cX7_parts 51 = .ok (.iload_n 2, 1) := by decide +kernel
theorem dX7_parts_52 : decode cX7_parts 52 = .ok (.invokevirtual 298, 3) := by decide +kernel
theorem dX7_parts_55 : decode cX7_parts 55 = .ok (.istore 4, 2) := by decide +kernel
theorem dX7_parts_57 : decode cX7_parts 57 = .ok (.iload 4, 2) := by decide +kernel
theorem dX7_parts_59 : decode cX7_parts 59 = .ok (.ifCond .eq 8, 3) := by decide +kernel
theorem dX7_parts_62 : decode cX7_parts 62 = .ok (.iload 4, 2) := by decide +kernel
theorem dX7_parts_64 : decode cX7_parts 64 = .ok (.goto 18, 3) := by decide +kernel
theorem dX7_parts_67 : decode cX7_parts 67 = .ok (.aload_n 0, 1) := by decide +kernel
theorem dX7_parts_68 : decode cX7_parts 68 = .ok (.iload_n 1, 1) := by decide +kernel
theorem dX7_parts_69 : decode cX7_parts 69 = .ok (.iload_n 2, 1) := by decide +kernel
theorem dX7_parts_70 : decode cX7_parts 70 = .ok (.iload_n 3, 1) := by decide +kernel
theorem dX7_parts_71 : decode cX7_parts 71 = .ok (.invokevirtual 301, 3) := by decide +kernel
theorem dX7_parts_74 : decode cX7_parts 74 = .ok (.ifCond .eq 7, 3) := by decide +kernel
theorem dX7_parts_77 : decode cX7_parts 77 = .ok (.iconst 1, 1) := by decide +kernel
theorem dX7_parts_78 : decode cX7_parts 78 = .ok (.goto 4, 3) := by decide +kernel
theorem dX7_parts_81 : decode cX7_parts 81 = .ok (.iconst 0, 1) := by decide +kernel
theorem dX7_parts_82 : decode cX7_parts 82 = .ok (.ireturn, 1) := by decide +kernel
set_option maxRecDepth 20000 in
theorem ggX7_noEvening_X7_in : GoodIn wsX7_noEvening wsX7_in := goodIn_r _ [7] (by decide +kernel) (by decide +kernel)
set_option maxRecDepth 20000 in
theorem gX7_noEvening_X7_in : GoodIn wsX7_noEvening (va_wsS RX7 80 yX7_in wsX7_in) := goodIn_app (goodIn_of _ (by decide +kernel)) ggX7_noEvening_X7_in
set_option maxRecDepth 20000 in
theorem ggX7_noEvening_X7_refuse : GoodIn wsX7_noEvening wsX7_refuse := goodIn_r _ [11, 12, 18, 19, 20, 21, 22, 23, 24, 25, 26, 27, 28, 29, 30, 31, 32, 33, 34, 35, 36, 37, 38, 39, 40, 41, 42, 43, 44, 45, 46, 47, 48, 49, 50] (by decide +kernel) (by decide +kernel)
set_option maxRecDepth 20000 in
theorem gX7_noEvening_X7_refuse : GoodIn wsX7_noEvening (wsV RX7 94 RX7 yX7_refuse wsX7_refuse) := goodIn_app (goodIn_of _ (by decide +kernel)) ggX7_noEvening_X7_refuse
set_option maxRecDepth 20000 in
theorem ggX7_noEvening_X7_noRow : GoodIn wsX7_noEvening wsX7_noRow := goodIn_r _ [16, 1, 17, 4, 5, 6, 7, 8, 9, 10, 11, 12, 18, 19, 20, 21, 22, 23, 24, 25, 26, 27, 28, 29, 30, 31, 32, 33, 34, 35, 36, 37, 38, 39, 40, 41, 42, 43, 44, 45, 46, 47, 48, 49, 50] (by decide +kernel) (by decide +kernel)
set_option maxRecDepth 20000 in
theorem gX7_noEvening_X7_noRow : GoodIn wsX7_noEvening (wsV RX7 98 RX7 yX7_noRow wsX7_noRow) := goodIn_app (goodIn_of _ (by decide +kernel)) ggX7_noEvening_X7_noRow
theorem dX7_noEvening_0 : decode cX7_noEvening 0 = .ok (.iload_n 1, 1) := by decide +kernel
theorem dX7_noEvening_1 : decode cX7_noEvening 1 = .ok (.i2l, 1) := by decide +kernel
theorem dX7_noEvening_2 : decode cX7_noEvening 2 = .ok (.lconst 0, 1) := by decide +kernel
theorem dX7_noEvening_3 : decode cX7_noEvening 3 = .ok (.ldc2_w 88, 3) := by decide +kernel
theorem dX7_noEvening_6 : decode cX7_noEvening 6 = .ok (.invokestatic 80, 3) := by decide +kernel
theorem dX7_noEvening_9 : decode cX7_noEvening 9 = .ok (.ifCond .eq 15, 3) := by decide +kernel
theorem dX7_noEvening_12 : decode cX7_noEvening 12 = .ok (.iload_n 2, 1) := by decide +kernel
theorem dX7_noEvening_13 : decode cX7_noEvening 13 = .ok (.i2l, 1) := by decide +kernel
theorem dX7_noEvening_14 : decode cX7_noEvening 14 = .ok (.lconst 0, 1) := by decide +kernel
theorem dX7_noEvening_15 : decode cX7_noEvening 15 = .ok (.ldc2_w 92, 3) := by decide +kernel
theorem dX7_noEvening_18 : decode cX7_noEvening 18 = .ok (.invokestatic 80, 3) := by decide +kernel
theorem dX7_noEvening_21 : decode cX7_noEvening 21 = .ok (.ifCond .ne 10, 3) := by decide +kernel
theorem dX7_noEvening_24 : decode cX7_noEvening 24 = .ok (.aload_n 0, 1) := by decide +kernel
theorem dX7_noEvening_25 : decode cX7_noEvening 25 = .ok (.bipush (-2), 2) := by decide +kernel
theorem dX7_noEvening_27 : decode cX7_noEvening 27 = .ok (.invokevirtual 94, 3) := by decide +kernel
theorem dX7_noEvening_30 : decode cX7_noEvening 30 = .ok (.ireturn, 1) := by decide +kernel
theorem dX7_noEvening_31 : decode cX7_noEvening 31 = .ok (.aload_n 0, 1) := by decide +kernel
theorem dX7_noEvening_32 : decode cX7_noEvening 32 = .ok (.iload_n 1, 1) := by decide +kernel
theorem dX7_noEvening_33 : decode cX7_noEvening 33 = .ok (.invokevirtual 98, 3) := by decide +kernel
theorem dX7_noEvening_36 : decode cX7_noEvening 36 = .ok (.istore_n 3, 1) := by decide +kernel
theorem dX7_noEvening_37 : decode cX7_noEvening 37 = .ok (.iload_n 3, 1) := by decide +kernel
theorem dX7_noEvening_38 : decode cX7_noEvening 38 = .ok (.ifCond .eq 5, 3) := by decide +kernel
theorem dX7_noEvening_41 : decode cX7_noEvening 41 = .ok (.iload_n 3, 1) := by decide +kernel
theorem dX7_noEvening_42 : decode cX7_noEvening 42 = .ok (.ireturn, 1) := by decide +kernel
theorem dX7_noEvening_43 : decode cX7_noEvening 43 = .ok (.aload_n 0, 1) := by decide +kernel
theorem dX7_noEvening_44 : decode cX7_noEvening 44 = .ok (.getfield 16, 3) := by decide +kernel
theorem dX7_noEvening_47 : decode cX7_noEvening 47 = .ok (.iload_n 1, 1) := by decide +kernel
theorem dX7_noEvening_48 : decode cX7_noEvening 48 = .ok (.iaload, 1) := by decide +kernel
theorem dX7_noEvening_49 : decode cX7_noEvening 49 = .ok (.iload_n 2, 1) := by decide +kernel
theorem dX7_noEvening_50 : decode cX7_noEvening 50 = .ok (.if_icmp .ge 12, 3) := by decide +kernel
theorem dX7_noEvening_53 : decode cX7_noEvening 53 = .ok (.aload_n 0, 1) := by decide +kernel
theorem dX7_noEvening_54 : decode cX7_noEvening 54 = .ok (.bipush (-2), 2) := by decide +kernel
theorem dX7_noEvening_56 : decode cX7_noEvening 56 = .ok (.invokevirtual 94, 3) := by decide +kernel
theorem dX7_noEvening_59 : decode cX7_noEvening 59 = .ok (.goto 4, 3) := by decide +kernel
theorem dX7_noEvening_62 : decode cX7_noEvening 62 = .ok (.iconst 0, 1) := by decide +kernel
theorem dX7_noEvening_63 : decode cX7_noEvening 63 = .ok (.ireturn, 1) := by decide +kernel
theorem dX7_isSaying_0 : decode cX7_isSaying 0 = .ok (.lload_n 1, 1) := by decide +kernel
theorem dX7_isSaying_1 : decode cX7_isSaying 1 = .ok (.lconst 0, 1) := by decide +kernel
theorem dX7_isSaying_2 : decode cX7_isSaying 2 = .ok (.lcmp, 1) := by decide +kernel
theorem dX7_isSaying_3 : decode cX7_isSaying 3 = .ok (.ifCond .lt 35, 3) := by decide +kernel
theorem dX7_isSaying_6 : decode cX7_isSaying 6 = .ok (.lload_n 1, 1) := by decide +kernel
theorem dX7_isSaying_7 : decode cX7_isSaying 7 = .ok (.ldc2_w 296, 3) := by decide +kernel
theorem dX7_isSaying_10 : decode cX7_isSaying 10 = .ok (.ldiv, 1) := by decide +kernel
theorem dX7_isSaying_11 : decode cX7_isSaying 11 = .ok (.aload_n 0, 1) := by decide +kernel
theorem dX7_isSaying_12 : decode cX7_isSaying 12 = .ok (.getfield 77, 3) := by decide +kernel
theorem dX7_isSaying_15 : decode cX7_isSaying 15 = .ok (.i2l, 1) := by decide +kernel
theorem dX7_isSaying_16 : decode cX7_isSaying 16 = .ok (.lcmp, 1) := by decide +kernel
theorem dX7_isSaying_17 : decode cX7_isSaying 17 = .ok (.ifCond .ge 21, 3) := by decide +kernel
theorem dX7_isSaying_20 : decode cX7_isSaying 20 = .ok (.lload_n 1, 1) := by decide +kernel
theorem dX7_isSaying_21 : decode cX7_isSaying 21 = .ok (.ldc2_w 296, 3) := by decide +kernel
theorem dX7_isSaying_24 : decode cX7_isSaying 24 = .ok (.lrem, 1) := by decide +kernel
theorem dX7_isSaying_25 : decode cX7_isSaying 25 = .ok (.aload_n 0, 1) := by decide +kernel
theorem dX7_isSaying_26 : decode cX7_isSaying 26 = .ok (.getfield 37, 3) := by decide +kernel
theorem dX7_isSaying_29 : decode cX7_isSaying 29 = .ok (.i2l, 1) := by decide +kernel
theorem dX7_isSaying_30 : decode cX7_isSaying 30 = .ok (.lcmp, 1) := by decide +kernel
theorem dX7_isSaying_31 : decode cX7_isSaying 31 = .ok (.ifCond .ge 7, 3) := by decide +kernel
theorem dX7_isSaying_34 : decode cX7_isSaying 34 = .ok (.iconst 1, 1) := by decide +kernel
theorem dX7_isSaying_35 : decode cX7_isSaying 35 = .ok (.goto 4, 3) := by decide +kernel
theorem dX7_isSaying_38 : decode cX7_isSaying 38 = .ok (.iconst 0, 1) := by decide +kernel
theorem dX7_isSaying_39 : decode cX7_isSaying 39 = .ok (.ireturn, 1) := by decide +kernel
set_option maxRecDepth 20000 in
theorem ggX7_goesBy_X7_isSaying : GoodIn wsX7_goesBy wsX7_isSaying := goodIn_r _ [6, 1, 7, 8, 37, 38, 39, 40, 41, 42, 43, 44, 45, 46, 47, 48, 49, 50, 51, 52, 53, 54, 55, 56, 57, 58, 59, 60, 61, 62, 63, 64, 65, 66, 67, 68, 69] (by decide +kernel) (by decide +kernel)
set_option maxRecDepth 20000 in
theorem gX7_goesBy_X7_isSaying : GoodIn wsX7_goesBy (wsV RX7 304 RX7 yX7_isSaying wsX7_isSaying) := goodIn_app (goodIn_of _ (by decide +kernel)) ggX7_goesBy_X7_isSaying
set_option maxRecDepth 20000 in
theorem ggX7_goesBy_X7_mayOf : GoodIn wsX7_goesBy wsX7_mayOf := goodIn_r _ [12, 13, 14, 7, 15, 16, 17, 8, 18, 19, 20, 5, 21, 22, 23, 24, 25, 26, 27, 28, 29, 37, 38, 39, 40, 41, 42, 43, 44, 45, 46, 47, 48, 49, 50, 51, 52, 53, 54, 55, 56, 57, 58, 59, 60, 61, 62, 63, 64, 65, 66, 67, 68, 69] (by decide +kernel) (by decide +kernel)
set_option maxRecDepth 20000 in
theorem gX7_goesBy_X7_mayOf : GoodIn wsX7_goesBy (wsV RX7 114 RX7 yX7_mayOf wsX7_mayOf) := goodIn_app (goodIn_of _ (by decide +kernel)) ggX7_goesBy_X7_mayOf
set_option maxRecDepth 20000 in
theorem ggX7_goesBy_X7_has : GoodIn wsX7_goesBy wsX7_has := goodIn_r _ [29] (by decide +kernel) (by decide +kernel)
set_option maxRecDepth 20000 in
theorem gX7_goesBy_X7_has : GoodIn wsX7_goesBy (va_wsS RX7 84 yX7_has wsX7_has) := goodIn_app (goodIn_of _ (by decide +kernel)) ggX7_goesBy_X7_has
set_option maxRecDepth 20000 in
theorem ggX7_goesBy_X7_isSaid : GoodIn wsX7_goesBy wsX7_isSaid := goodIn_r _ [33, 7, 15, 14, 27, 28, 5, 29, 34, 35, 36, 37, 38, 39, 40, 41, 42, 43, 44, 45, 46, 47, 48, 49, 50, 51, 52, 53, 54, 55, 56, 57, 58, 59, 60, 61, 62, 63, 64, 65, 66, 67, 68, 69] (by decide +kernel) (by decide +kernel)
set_option maxRecDepth 20000 in
theorem gX7_goesBy_X7_isSaid : GoodIn wsX7_goesBy (wsV RX7 253 RX7 yX7_isSaid wsX7_isSaid) := goodIn_app (goodIn_of _ (by decide +kernel)) ggX7_goesBy_X7_isSaid
theorem dX7_goesBy_0 : decode cX7_goesBy 0 = .ok (.iconst 0, 1) := by decide +kernel
theorem dX7_goesBy_1 : decode cX7_goesBy 1 = .ok (.istore_n 3, 1) := by decide +kernel
theorem dX7_goesBy_2 : decode cX7_goesBy 2 = .ok (.iload_n 3, 1) := by decide +kernel
theorem dX7_goesBy_3 : decode cX7_goesBy 3 = .ok (.iload_n 2, 1) := by decide +kernel
theorem dX7_goesBy_4 : decode cX7_goesBy 4 = .ok (.if_icmp .ge 70, 3) := by decide +kernel
theorem dX7_goesBy_7 : decode cX7_goesBy 7 = .ok (.aload_n 0, 1) := by decide +kernel
theorem dX7_goesBy_8 : decode cX7_goesBy 8 = .ok (.aload_n 1, 1) := by decide +kernel
theorem dX7_goesBy_9 : decode cX7_goesBy 9 = .ok (.iload_n 3, 1) := by decide +kernel
theorem dX7_goesBy_10 : decode cX7_goesBy 10 = .ok (.laload, 1) := by decide +kernel
theorem dX7_goesBy_11 : decode cX7_goesBy 11 = .ok (.invokevirtual 304, 3) := by decide +kernel
theorem dX7_goesBy_14 : decode cX7_goesBy 14 = .ok (.ifCond .eq 29, 3) := by decide +kernel
theorem dX7_goesBy_17 : decode cX7_goesBy 17 = .ok (.aload_n 0, 1) := by decide +kernel
theorem dX7_goesBy_18 : decode cX7_goesBy 18 = .ok (.aload_n 1, 1) := by decide +kernel
theorem dX7_goesBy_19 : decode cX7_goesBy 19 = .ok (.iload_n 3, 1) := by decide +kernel
theorem dX7_goesBy_20 : decode cX7_goesBy 20 = .ok (.laload, 1) := by decide +kernel
theorem dX7_goesBy_21 : decode cX7_goesBy 21 = .ok (.ldc2_w 296, 3) := by decide +kernel
theorem dX7_goesBy_24 : decode cX7_goesBy 24 = .ok (.ldiv, 1) := by decide +kernel
theorem dX7_goesBy_25 : decode cX7_goesBy 25 = .ok (.l2i, 1) := by decide +kernel
theorem dX7_goesBy_26 : decode cX7_goesBy 26 = .ok (.invokevirtual 114, 3) := by decide +kernel
theorem dX7_goesBy_29 : decode cX7_goesBy 29 = .ok (.aload_n 1, 1) := by decide +kernel
theorem dX7_goesBy_30 : decode cX7_goesBy 30 = .ok (.iload_n 3, 1) := by decide +kernel
theorem dX7_goesBy_31 : decode cX7_goesBy 31 = .ok (.laload, 1) := by decide +kernel
theorem dX7_goesBy_32 : decode cX7_goesBy 32 = .ok (.ldc2_w 296, 3) := by decide +kernel
theorem dX7_goesBy_35 : decode cX7_goesBy 35 = .ok (.lrem, 1) := by decide +kernel
theorem dX7_goesBy_36 : decode cX7_goesBy 36 = .ok (.l2i, 1) := by decide +kernel
theorem dX7_goesBy_37 : decode cX7_goesBy 37 = .ok (.invokestatic 84, 3) := by decide +kernel
theorem dX7_goesBy_40 : decode cX7_goesBy 40 = .ok (.ifCond .ne 5, 3) := by decide +kernel
theorem dX7_goesBy_43 : decode cX7_goesBy 43 = .ok (.iload_n 3, 1) := by decide +kernel
theorem dX7_goesBy_44 : decode cX7_goesBy 44 = .ok (.ireturn, 1) := by decide +kernel
theorem dX7_goesBy_45 : decode cX7_goesBy 45 = .ok (.aload_n 0, 1) := by decide +kernel
theorem dX7_goesBy_46 : decode cX7_goesBy 46 = .ok (.aload_n 1, 1) := by decide +kernel
theorem dX7_goesBy_47 : decode cX7_goesBy 47 = .ok (.iload_n 3, 1) := by decide +kernel
theorem dX7_goesBy_48 : decode cX7_goesBy 48 = .ok (.laload, 1) := by decide +kernel
theorem dX7_goesBy_49 : decode cX7_goesBy 49 = .ok (.ldc2_w 296, 3) := by decide +kernel
theorem dX7_goesBy_52 : decode cX7_goesBy 52 = .ok (.ldiv, 1) := by decide +kernel
theorem dX7_goesBy_53 : decode cX7_goesBy 53 = .ok (.l2i, 1) := by decide +kernel
theorem dX7_goesBy_54 : decode cX7_goesBy 54 = .ok (.iconst 1, 1) := by decide +kernel
theorem dX7_goesBy_55 : decode cX7_goesBy 55 = .ok (.aload_n 1, 1) := by decide +kernel
theorem dX7_goesBy_56 : decode cX7_goesBy 56 = .ok (.iload_n 3, 1) := by decide +kernel
theorem dX7_goesBy_57 : decode cX7_goesBy 57 = .ok (.laload, 1) := by decide +kernel
theorem dX7_goesBy_58 : decode cX7_goesBy 58 = .ok (.ldc2_w 296, 3) := by decide +kernel
theorem dX7_goesBy_61 : decode cX7_goesBy 61 = .ok (.lrem, 1) := by decide +kernel
theorem dX7_goesBy_62 : decode cX7_goesBy 62 = .ok (.l2i, 1) := by decide +kernel
theorem dX7_goesBy_63 : decode cX7_goesBy 63 = .ok (.ishl, 1) := by decide +kernel
theorem dX7_goesBy_64 : decode cX7_goesBy 64 = .ok (.invokevirtual 253, 3) := by decide +kernel
theorem dX7_goesBy_67 : decode cX7_goesBy 67 = .ok (.pop, 1) := by decide +kernel
theorem dX7_goesBy_68 : decode cX7_goesBy 68 = .ok (.iinc 3 1, 3) := by decide +kernel
theorem dX7_goesBy_71 : decode cX7_goesBy 71 = .ok (.goto (-69), 3) := by decide +kernel
theorem dX7_goesBy_74 : decode cX7_goesBy 74 = .ok (.iconst (-1), 1) := by decide +kernel
theorem dX7_goesBy_75 : decode cX7_goesBy 75 = .ok (.ireturn, 1) := by decide +kernel
set_option maxRecDepth 20000 in
theorem ggX7_judge_X7_noEvening : GoodIn wsX7_judge wsX7_noEvening := goodIn_r _ [6, 7, 8, 9, 10, 11, 5, 12, 13, 14, 15, 16, 17, 18, 19, 20, 21, 22, 96, 97, 98, 99, 100, 101, 102, 103, 104, 105, 106, 107, 108, 109, 110, 111, 112, 113, 114, 115, 116, 117, 118, 119, 120, 121, 122, 123, 124, 125, 126, 127, 128] (by decide +kernel) (by decide +kernel)
set_option maxRecDepth 20000 in
theorem gX7_judge_X7_noEvening : GoodIn wsX7_judge (wsV RX7 308 RX7 yX7_noEvening wsX7_noEvening) := goodIn_app (goodIn_of _ (by decide +kernel)) ggX7_judge_X7_noEvening
set_option maxRecDepth 20000 in
theorem ggX7_judge_X7_fresh : GoodIn wsX7_judge wsX7_fresh := goodIn_r _ [26, 27, 28, 29, 5, 30, 31, 32, 33, 34, 35, 36, 22, 37, 9, 38, 39, 1, 40, 41, 42, 17, 43, 44, 45, 46, 47, 48, 49, 50, 51, 52, 53, 54, 55, 56, 57, 58, 59, 60, 61, 62, 63, 64, 96, 97, 98, 99, 100, 101, 102, 103, 104, 105, 106, 107, 108, 109, 110, 111, 112, 113, 114, 115, 116, 117, 118, 119, 120, 121, 122, 123, 124, 125, 126, 127, 128] (by decide +kernel) (by decide +kernel)
set_option maxRecDepth 20000 in
theorem gX7_judge_X7_fresh : GoodIn wsX7_judge (wsV RX7 236 RX7 yX7_fresh wsX7_fresh) := goodIn_app (goodIn_of _ (by decide +kernel)) ggX7_judge_X7_fresh
set_option maxRecDepth 20000 in
theorem ggX7_judge_X7_goesBy : GoodIn wsX7_judge wsX7_goesBy := goodIn_r _ [68, 69, 70, 71, 72, 5, 73, 60, 43, 74, 75, 76, 77, 44, 48, 49, 46, 50, 78, 79, 80, 81, 47, 82, 83, 84, 85, 86, 87, 88, 89, 90, 91, 92, 93, 94, 95, 96, 97, 98, 99, 100, 101, 102, 103, 104, 105, 106, 107, 108, 109, 110, 111, 112, 113, 114, 115, 116, 117, 118, 119, 120, 121, 122, 123, 124, 125, 126, 127, 128] (by decide +kernel) (by decide +kernel)
set_option maxRecDepth 20000 in
theorem gX7_judge_X7_goesBy : GoodIn wsX7_judge (wsV RX7 311 RX7 yX7_goesBy wsX7_goesBy) := goodIn_app (goodIn_of _ (by decide +kernel)) ggX7_judge_X7_goesBy
theorem dX7_judge_0 : decode cX7_judge 0 = .ok (.aload_n 0, 1) := by decide +kernel
theorem dX7_judge_1 : decode cX7_judge 1 = .ok (.iload_n 1, 1) := by decide +kernel
theorem dX7_judge_2 : decode cX7_judge 2 = .ok (.iload_n 2, 1) := by decide +kernel
theorem dX7_judge_3 : decode cX7_judge 3 = .ok (.invokevirtual 308, 3) := by decide +kernel
theorem dX7_judge_6 : decode cX7_judge 6 = .ok (.istore_n 3, 1) := by decide +kernel
theorem dX7_judge_7 : decode cX7_judge 7 = .ok (.iload_n 3, 1) := by decide +kernel
theorem dX7_judge_8 : decode cX7_judge 8 = .ok (.ifCond .eq 7, 3) := by decide +kernel
theorem dX7_judge_11 : decode cX7_judge 11 = .ok (.iload_n 3, 1) := by decide +kernel
theorem dX7_judge_12 : decode cX7_judge 12 = .ok (.goto 17, 3) := by decide +kernel
theorem dX7_judge_15 : decode cX7_judge 15 = .ok (.aload_n 0, 1) := by decide +kernel
theorem dX7_judge_16 : decode cX7_judge 16 = .ok (.invokevirtual 236, 3) := by decide +kernel
theorem dX7_judge_19 : decode cX7_judge 19 = .ok (.aload_n 0, 1) := by decide +kernel
theorem dX7_judge_20 : decode cX7_judge 20 = .ok (.getfield 21, 3) := by decide +kernel
theorem dX7_judge_23 : decode cX7_judge 23 = .ok (.iload_n 1, 1) := by decide +kernel
theorem dX7_judge_24 : decode cX7_judge 24 = .ok (.aaload, 1) := by decide +kernel
theorem dX7_judge_25 : decode cX7_judge 25 = .ok (.iload_n 2, 1) := by decide +kernel
theorem dX7_judge_26 : decode cX7_judge 26 = .ok (.invokevirtual 311, 3) := by decide +kernel
theorem dX7_judge_29 : decode cX7_judge 29 = .ok (.ireturn, 1) := by decide +kernel
set_option maxRecDepth 20000 in
theorem ggX7_heard_X7_isOne : GoodIn wsX7_heard wsX7_isOne := goodIn_r _ [7, 8, 9, 10, 6, 11, 100, 101, 102, 103, 104, 105, 106, 107, 108, 109, 110, 111, 112, 113, 114, 115, 116, 117, 118, 119, 120, 121, 122, 123, 124, 125, 126, 127, 128, 129, 130, 131, 132] (by decide +kernel) (by decide +kernel)
set_option maxRecDepth 20000 in
theorem gX7_heard_X7_isOne : GoodIn wsX7_heard (wsV RX7 105 RX7 yX7_isOne wsX7_isOne) := goodIn_app (goodIn_of _ (by decide +kernel)) ggX7_heard_X7_isOne
set_option maxRecDepth 20000 in
theorem ggX7_heard_X7_refuse : GoodIn wsX7_heard wsX7_refuse := goodIn_r _ [15, 16, 100, 101, 102, 103, 104, 105, 106, 107, 108, 109, 110, 111, 112, 113, 114, 115, 116, 117, 118, 119, 120, 121, 122, 123, 124, 125, 126, 127, 128, 129, 130, 131, 132] (by decide +kernel) (by decide +kernel)
set_option maxRecDepth 20000 in
theorem gX7_heard_X7_refuse : GoodIn wsX7_heard (wsV RX7 94 RX7 yX7_refuse wsX7_refuse) := goodIn_app (goodIn_of _ (by decide +kernel)) ggX7_heard_X7_refuse
set_option maxRecDepth 20000 in
theorem ggX7_heard_X7_noEvening : GoodIn wsX7_heard wsX7_noEvening := goodIn_r _ [20, 21, 22, 23, 9, 10, 6, 11, 12, 13, 14, 15, 16, 24, 25, 26, 27, 28, 100, 101, 102, 103, 104, 105, 106, 107, 108, 109, 110, 111, 112, 113, 114, 115, 116, 117, 118, 119, 120, 121, 122, 123, 124, 125, 126, 127, 128, 129, 130, 131, 132] (by decide +kernel) (by decide +kernel)
set_option maxRecDepth 20000 in
theorem gX7_heard_X7_noEvening : GoodIn wsX7_heard (wsV RX7 308 RX7 yX7_noEvening wsX7_noEvening) := goodIn_app (goodIn_of _ (by decide +kernel)) ggX7_heard_X7_noEvening
set_option maxRecDepth 20000 in
theorem ggX7_heard_X7_fresh : GoodIn wsX7_heard wsX7_fresh := goodIn_r _ [32, 33, 34, 35, 6, 36, 37, 38, 39, 40, 41, 42, 28, 43, 23, 44, 45, 1, 46, 47, 48, 16, 49, 50, 51, 52, 53, 2, 54, 55, 56, 57, 58, 59, 60, 61, 62, 63, 64, 8, 65, 66, 67, 68, 100, 101, 102, 103, 104, 105, 106, 107, 108, 109, 110, 111, 112, 113, 114, 115, 116, 117, 118, 119, 120, 121, 122, 123, 124, 125, 126, 127, 128, 129, 130, 131, 132] (by decide +kernel) (by decide +kernel)
set_option maxRecDepth 20000 in
theorem gX7_heard_X7_fresh : GoodIn wsX7_heard (wsV RX7 236 RX7 yX7_fresh wsX7_fresh) := goodIn_app (goodIn_of _ (by decide +kernel)) ggX7_heard_X7_fresh
set_option maxRecDepth 20000 in
theorem ggX7_heard_X7_goesBy : GoodIn wsX7_heard wsX7_goesBy := goodIn_r _ [72, 73, 74, 75, 76, 6, 77, 8, 49, 78, 79, 80, 81, 50, 2, 54, 52, 55, 82, 83, 84, 85, 53, 86, 87, 88, 89, 90, 91, 92, 93, 94, 95, 96, 97, 98, 99, 100, 101, 102, 103, 104, 105, 106, 107, 108, 109, 110, 111, 112, 113, 114, 115, 116, 117, 118, 119, 120, 121, 122, 123, 124, 125, 126, 127, 128, 129, 130, 131, 132] (by decide +kernel) (by decide +kernel)
set_option maxRecDepth 20000 in
theorem gX7_heard_X7_goesBy : GoodIn wsX7_heard (wsV RX7 311 RX7 yX7_goesBy wsX7_goesBy) := goodIn_app (goodIn_of _ (by decide +kernel)) ggX7_heard_X7_goesBy
theorem dX7_heard_0 : decode cX7_heard 0 = .ok (.aload_n 0, 1) := by decide +kernel
theorem dX7_heard_1 : decode cX7_heard 1 = .ok (.iload_n 3, 1) := by decide +kernel
theorem dX7_heard_2 : decode cX7_heard 2 = .ok (.invokevirtual 105, 3) := by decide +kernel
theorem dX7_heard_5 : decode cX7_heard 5 = .ok (.ifCond .ne 10, 3) := by decide +kernel
theorem dX7_heard_8 : decode cX7_heard 8 = .ok (.aload_n 0, 1) := by decide +kernel
theorem dX7_heard_9 : decode cX7_heard 9 = .ok (.bipush (-2), 2) := by decide +kernel
theorem dX7_heard_11 : decode cX7_heard 11 = .ok (.invokevirtual 94, 3) := by decide +kernel
theorem dX7_heard_14 : decode cX7_heard 14 = .ok (.ireturn, 1) := by decide +kernel
theorem dX7_heard_15 : decode cX7_heard 15 = .ok (.aload_n 0, 1) := by decide +kernel
theorem dX7_heard_16 : decode cX7_heard 16 = .ok (.iload_n 1, 1) := by decide +kernel
theorem dX7_heard_17 : decode cX7_heard 17 = .ok (.iload_n 2, 1) := by decide +kernel
theorem dX7_heard_18 : decode cX7_heard 18 = .ok (.invokevirtual 308, 3) := by decide +kernel
theorem dX7_heard_21 : decode cX7_heard 21 = .ok (.istore 4, 2) := by decide +kernel
theorem dX7_heard_23 : decode cX7_heard 23 = .ok (.iload 4, 2) := by decide +kernel
theorem dX7_heard_25 : decode cX7_heard 25 = .ok (.ifCond .eq 6, 3) := by decide +kernel
theorem dX7_heard_28 : decode cX7_heard 28 = .ok (.iload 4, 2) := by decide +kernel
theorem dX7_heard_30 : decode cX7_heard 30 = .ok (.ireturn, 1) := by decide +kernel
theorem dX7_heard_31 : decode cX7_heard 31 = .ok (.aload_n 0, 1) := by decide +kernel
theorem dX7_heard_32 : decode cX7_heard 32 = .ok (.invokevirtual 236, 3) := by decide +kernel
theorem dX7_heard_35 : decode cX7_heard 35 = .ok (.astore 5, 2) := by decide +kernel
theorem dX7_heard_37 : decode cX7_heard 37 = .ok (.aload 5, 2) := by decide +kernel
theorem dX7_heard_39 : decode cX7_heard 39 = .ok (.aload_n 0, 1) := by decide +kernel
theorem dX7_heard_40 : decode cX7_heard 40 = .ok (.getfield 21, 3) := by decide +kernel
theorem dX7_heard_43 : decode cX7_heard 43 = .ok (.iload_n 1, 1) := by decide +kernel
theorem dX7_heard_44 : decode cX7_heard 44 = .ok (.aaload, 1) := by decide +kernel
theorem dX7_heard_45 : decode cX7_heard 45 = .ok (.iload_n 2, 1) := by decide +kernel
theorem dX7_heard_46 : decode cX7_heard 46 = .ok (.invokevirtual 311, 3) := by decide +kernel
theorem dX7_heard_49 : decode cX7_heard 49 = .ok (.iconst (-1), 1) := by decide +kernel
theorem dX7_heard_50 : decode cX7_heard 50 = .ok (.if_icmp .eq 12, 3) := by decide +kernel
theorem dX7_heard_53 : decode cX7_heard 53 = .ok (.aload_n 0, 1) := by decide +kernel
theorem dX7_heard_54 : decode cX7_heard 54 = .ok (.bipush (-5), 2) := by decide +kernel
theorem dX7_heard_56 : decode cX7_heard 56 = .ok (.invokevirtual 94, 3) := by decide +kernel
theorem dX7_heard_59 : decode cX7_heard 59 = .ok (.goto 10, 3) := by decide +kernel
theorem dX7_heard_62 : decode cX7_heard 62 = .ok (.aload 5, 2) := by decide +kernel
theorem dX7_heard_64 : decode cX7_heard 64 = .ok (.getfield 53, 3) := by decide +kernel
theorem dX7_heard_67 : decode cX7_heard 67 = .ok (.iload_n 3, 1) := by decide +kernel
theorem dX7_heard_68 : decode cX7_heard 68 = .ok (.iaload, 1) := by decide +kernel
theorem dX7_heard_69 : decode cX7_heard 69 = .ok (.ireturn, 1) := by decide +kernel
set_option maxRecDepth 20000 in
theorem ggX7_noSayings_X7_noEvening : GoodIn wsX7_noSayings wsX7_noEvening := goodIn_r _ [6, 7, 8, 9, 10, 11, 5, 12, 13, 14, 15, 16, 17, 18, 19, 20, 21, 22, 30, 31, 32, 33, 34, 35, 36, 37, 38, 39, 40, 41, 42, 43, 44, 45, 46, 47, 48, 49, 50, 51, 52, 53, 54, 55, 56, 57, 58, 59, 60, 61, 62] (by decide +kernel) (by decide +kernel)
set_option maxRecDepth 20000 in
theorem gX7_noSayings_X7_noEvening : GoodIn wsX7_noSayings (wsV RX7 308 RX7 yX7_noEvening wsX7_noEvening) := goodIn_app (goodIn_of _ (by decide +kernel)) ggX7_noSayings_X7_noEvening
set_option maxRecDepth 20000 in
theorem ggX7_noSayings_X7_isSaying : GoodIn wsX7_noSayings wsX7_isSaying := goodIn_r _ [26, 27, 28, 29, 30, 31, 32, 33, 34, 35, 36, 37, 38, 39, 40, 41, 42, 43, 44, 45, 46, 47, 48, 49, 50, 51, 52, 53, 54, 55, 56, 57, 58, 59, 60, 61, 62] (by decide +kernel) (by decide +kernel)
set_option maxRecDepth 20000 in
theorem gX7_noSayings_X7_isSaying : GoodIn wsX7_noSayings (wsV RX7 304 RX7 yX7_isSaying wsX7_isSaying) := goodIn_app (goodIn_of _ (by decide +kernel)) ggX7_noSayings_X7_isSaying
set_option maxRecDepth 20000 in
theorem ggX7_noSayings_X7_refuse : GoodIn wsX7_noSayings wsX7_refuse := goodIn_r _ [16, 17, 30, 31, 32, 33, 34, 35, 36, 37, 38, 39, 40, 41, 42, 43, 44, 45, 46, 47, 48, 49, 50, 51, 52, 53, 54, 55, 56, 57, 58, 59, 60, 61, 62] (by decide +kernel) (by decide +kernel)
set_option maxRecDepth 20000 in
theorem gX7_noSayings_X7_refuse : GoodIn wsX7_noSayings (wsV RX7 94 RX7 yX7_refuse wsX7_refuse) := goodIn_app (goodIn_of _ (by decide +kernel)) ggX7_noSayings_X7_refuse
theorem dX7_noSayings_0 : decode cX7_noSayings 0 = .ok (.aload_n 0, 1) := by decide +kernel
theorem dX7_noSayings_1 : decode cX7_noSayings 1 = .ok (.iload_n 1, 1) := by decide +kernel
theorem dX7_noSayings_2 : decode cX7_noSayings 2 = .ok (.iload_n 2, 1) := by decide +kernel
theorem dX7_noSayings_3 : decode cX7_noSayings 3 = .ok (.invokevirtual 308, 3) := by decide +kernel
theorem dX7_noSayings_6 : decode cX7_noSayings 6 = .ok (.istore_n 3, 1) := by decide +kernel
theorem dX7_noSayings_7 : decode cX7_noSayings 7 = .ok (.iload_n 3, 1) := by decide +kernel
theorem dX7_noSayings_8 : decode cX7_noSayings 8 = .ok (.ifCond .eq 5, 3) := by decide +kernel
theorem dX7_noSayings_11 : decode cX7_noSayings 11 = .ok (.iload_n 3, 1) := by decide +kernel
theorem dX7_noSayings_12 : decode cX7_noSayings 12 = .ok (.ireturn, 1) := by decide +kernel
theorem dX7_noSayings_13 : decode cX7_noSayings 13 = .ok (.iconst 0, 1) := by decide +kernel
theorem dX7_noSayings_14 : decode cX7_noSayings 14 = .ok (.istore 4, 2) := by decide +kernel
theorem dX7_noSayings_16 : decode cX7_noSayings 16 = .ok (.iload 4, 2) := by decide +kernel
theorem dX7_noSayings_18 : decode cX7_noSayings 18 = .ok (.iload_n 2, 1) := by decide +kernel
theorem dX7_noSayings_19 : decode cX7_noSayings 19 = .ok (.if_icmp .ge 32, 3) := by decide +kernel
theorem dX7_noSayings_22 : decode cX7_noSayings 22 = .ok (.aload_n 0, 1) := by decide +kernel
theorem dX7_noSayings_23 : decode cX7_noSayings 23 = .ok (.aload_n 0, 1) := by decide +kernel
theorem dX7_noSayings_24 : decode cX7_noSayings 24 = .ok (.getfield 21, 3) := by decide +kernel
theorem dX7_noSayings_27 : decode cX7_noSayings 27 = .ok (.iload_n 1, 1) := by decide +kernel
theorem dX7_noSayings_28 : decode cX7_noSayings 28 = .ok (.aaload, 1) := by decide +kernel
theorem dX7_noSayings_29 : decode cX7_noSayings 29 = .ok (.iload 4, 2) := by decide +kernel
theorem dX7_noSayings_31 : decode cX7_noSayings 31 = .ok (.laload, 1) := by decide +kernel
theorem dX7_noSayings_32 : decode cX7_noSayings 32 = .ok (.invokevirtual 304, 3) := by decide +kernel
theorem dX7_noSayings_35 : decode cX7_noSayings 35 = .ok (.ifCond .ne 10, 3) := by decide +kernel
theorem dX7_noSayings_38 : decode cX7_noSayings 38 = .ok (.aload_n 0, 1) := by decide +kernel
theorem dX7_noSayings_39 : decode cX7_noSayings 39 = .ok (.bipush (-2), 2) := by decide +kernel
theorem dX7_noSayings_41 : decode cX7_noSayings 41 = .ok (.invokevirtual 94, 3) := by decide +kernel
theorem dX7_noSayings_44 : decode cX7_noSayings 44 = .ok (.ireturn, 1) := by decide +kernel
theorem dX7_noSayings_45 : decode cX7_noSayings 45 = .ok (.iinc 4 1, 3) := by decide +kernel
theorem dX7_noSayings_48 : decode cX7_noSayings 48 = .ok (.goto (-32), 3) := by decide +kernel
theorem dX7_noSayings_51 : decode cX7_noSayings 51 = .ok (.iconst 0, 1) := by decide +kernel
theorem dX7_noSayings_52 : decode cX7_noSayings 52 = .ok (.ireturn, 1) := by decide +kernel
set_option maxRecDepth 20000 in
theorem ggX7_falsely_X7_noSayings : GoodIn wsX7_falsely wsX7_noSayings := goodIn_r _ [6, 1, 7, 8, 9, 5, 10, 11, 12, 13, 14, 15, 16, 17, 18, 19, 20, 21, 22, 23, 24, 25, 26, 27, 28, 29, 30, 31, 32, 33, 44, 45, 46, 47, 48, 49, 50, 51, 52, 53, 54, 55, 56, 57, 58, 59, 60, 61, 62, 63, 64, 65, 66, 67, 68, 69, 70, 71, 72, 73, 74, 75, 76] (by decide +kernel) (by decide +kernel)
set_option maxRecDepth 20000 in
theorem gX7_falsely_X7_noSayings : GoodIn wsX7_falsely (wsV RX7 315 RX7 yX7_noSayings wsX7_noSayings) := goodIn_app (goodIn_of _ (by decide +kernel)) ggX7_falsely_X7_noSayings
set_option maxRecDepth 20000 in
theorem ggX7_falsely_X7_barredBy : GoodIn wsX7_falsely wsX7_barredBy := goodIn_r _ [37, 38, 39, 40, 44, 45, 46, 47, 48, 49, 50, 51, 52, 53, 54, 55, 56, 57, 58, 59, 60, 61, 62, 63, 64, 65, 66, 67, 68, 69, 70, 71, 72, 73, 74, 75, 76] (by decide +kernel) (by decide +kernel)
set_option maxRecDepth 20000 in
theorem gX7_falsely_X7_barredBy : GoodIn wsX7_falsely (wsV RX7 124 RX7 yX7_barredBy wsX7_barredBy) := goodIn_app (goodIn_of _ (by decide +kernel)) ggX7_falsely_X7_barredBy
set_option maxRecDepth 20000 in
theorem ggX7_falsely_X7_has : GoodIn wsX7_falsely wsX7_has := goodIn_r _ [43] (by decide +kernel) (by decide +kernel)
set_option maxRecDepth 20000 in
theorem gX7_falsely_X7_has : GoodIn wsX7_falsely (va_wsS RX7 84 yX7_has wsX7_has) := goodIn_app (goodIn_of _ (by decide +kernel)) ggX7_falsely_X7_has
theorem dX7_falsely_0 : decode cX7_falsely 0 = .ok (.aload_n 0, 1) := by decide +kernel
theorem dX7_falsely_1 : decode cX7_falsely 1 = .ok (.iload_n 1, 1) := by decide +kernel
theorem dX7_falsely_2 : decode cX7_falsely 2 = .ok (.iload_n 2, 1) := by decide +kernel
theorem dX7_falsely_3 : decode cX7_falsely 3 = .ok (.invokevirtual 315, 3) := by decide +kernel
theorem dX7_falsely_6 : decode cX7_falsely 6 = .ok (.istore_n 3, 1) := by decide +kernel
theorem dX7_falsely_7 : decode cX7_falsely 7 = .ok (.iload_n 3, 1) := by decide +kernel
theorem dX7_falsely_8 : decode cX7_falsely 8 = .ok (.ifCond .eq 5, 3) := by decide +kernel
theorem dX7_falsely_11 : decode cX7_falsely 11 = .ok (.iload_n 3, 1) := by decide +kernel
theorem dX7_falsely_12 : decode cX7_falsely 12 = .ok (.ireturn, 1) := by decide +kernel
theorem dX7_falsely_13 : decode cX7_falsely 13 = .ok (.iconst 0, 1) := by decide +kernel
theorem dX7_falsely_14 : decode cX7_falsely 14 = .ok (.istore 4, 2) := by decide +kernel
theorem dX7_falsely_16 : decode cX7_falsely 16 = .ok (.iconst 0, 1) := by decide +kernel
theorem dX7_falsely_17 : decode cX7_falsely 17 = .ok (.istore 5, 2) := by decide +kernel
theorem dX7_falsely_19 : decode cX7_falsely 19 = .ok (.iload 5, 2) := by decide +kernel
theorem dX7_falsely_21 : decode cX7_falsely 21 = .ok (.iload_n 2, 1) := by decide +kernel
theorem dX7_falsely_22 : decode cX7_falsely 22 = .ok (.if_icmp .ge 51, 3) := by decide +kernel
theorem dX7_falsely_25 : decode cX7_falsely 25 = .ok (.aload_n 0, 1) := by decide +kernel
theorem dX7_falsely_26 : decode cX7_falsely 26 = .ok (.getfield 21, 3) := by decide +kernel
theorem dX7_falsely_29 : decode cX7_falsely 29 = .ok (.iload_n 1, 1) := by decide +kernel
theorem dX7_falsely_30 : decode cX7_falsely 30 = .ok (.aaload, 1) := by decide +kernel
theorem dX7_falsely_31 : decode cX7_falsely 31 = .ok (.iload 5, 2) := by decide +kernel
theorem dX7_falsely_33 : decode cX7_falsely 33 = .ok (.laload, 1) := by decide +kernel
theorem dX7_falsely_34 : decode cX7_falsely 34 = .ok (.l2i, 1) := by decide +kernel
theorem dX7_falsely_35 : decode cX7_falsely 35 = .ok (.istore 6, 2) := by decide +kernel
theorem dX7_falsely_37 : decode cX7_falsely 37 = .ok (.iload 4, 2) := by decide +kernel
theorem dX7_falsely_39 : decode cX7_falsely 39 = .ok (.aload_n 0, 1) := by decide +kernel
theorem dX7_falsely_40 : decode cX7_falsely 40 = .ok (.iload 6, 2) := by decide +kernel
theorem dX7_falsely_42 : decode cX7_falsely 42 = .ok (.bipush 10, 2) := by decide +kernel
theorem dX7_falsely_44 : decode cX7_falsely 44 = .ok (.idiv, 1) := by decide +kernel
theorem dX7_falsely_45 : decode cX7_falsely 45 = .ok (.invokevirtual 124, 3) := by decide +kernel
theorem dX7_falsely_48 : decode cX7_falsely 48 = .ok (.iload 6, 2) := by decide +kernel
theorem dX7_falsely_50 : decode cX7_falsely 50 = .ok (.bipush 10, 2) := by decide +kernel
theorem dX7_falsely_52 : decode cX7_falsely 52 = .ok (.irem, 1) := by decide +kernel
theorem dX7_falsely_53 : decode cX7_falsely 53 = .ok (.invokestatic 84, 3) := by decide +kernel
theorem dX7_falsely_56 : decode cX7_falsely 56 = .ok (.ifCond .eq 7, 3) := by decide +kernel
theorem dX7_falsely_59 : decode cX7_falsely 59 = .ok (.iconst 1, 1) := by decide +kernel
theorem dX7_falsely_60 : decode cX7_falsely 60 = .ok (.goto 4, 3) := by decide +kernel
theorem dX7_falsely_63 : decode cX7_falsely 63 = .ok (.iconst 0, 1) := by decide +kernel
theorem dX7_falsely_64 : decode cX7_falsely 64 = .ok (.iadd, 1) := by decide +kernel
theorem dX7_falsely_65 : decode cX7_falsely 65 = .ok (.istore 4, 2) := by decide +kernel
theorem dX7_falsely_67 : decode cX7_falsely 67 = .ok (.iinc 5 1, 3) := by decide +kernel
theorem dX7_falsely_70 : decode cX7_falsely 70 = .ok (.goto (-51), 3) := by decide +kernel
theorem dX7_falsely_73 : decode cX7_falsely 73 = .ok (.iload 4, 2) := by decide +kernel
theorem dX7_falsely_75 : decode cX7_falsely 75 = .ok (.ireturn, 1) := by decide +kernel
set_option maxRecDepth 20000 in
theorem ggX7_silent_X7_has : GoodIn wsX7_silent wsX7_has := goodIn_r _ [7] (by decide +kernel) (by decide +kernel)
set_option maxRecDepth 20000 in
theorem gX7_silent_X7_has : GoodIn wsX7_silent (va_wsS RX7 84 yX7_has wsX7_has) := goodIn_app (goodIn_of _ (by decide +kernel)) ggX7_silent_X7_has
theorem dX7_silent_0 : decode cX7_silent 0 = .ok (.iconst 0, 1) := by decide +kernel
theorem dX7_silent_1 : decode cX7_silent 1 = .ok (.istore 4, 2) := by decide +kernel
theorem dX7_silent_3 : decode cX7_silent 3 = .ok (.iconst 0, 1) := by decide +kernel
theorem dX7_silent_4 : decode cX7_silent 4 = .ok (.istore 5, 2) := by decide +kernel
theorem dX7_silent_6 : decode cX7_silent 6 = .ok (.iload 5, 2) := by decide +kernel
theorem dX7_silent_8 : decode cX7_silent 8 = .ok (.aload_n 0, 1) := by decide +kernel
theorem dX7_silent_9 : decode cX7_silent 9 = .ok (.getfield 77, 3) := by decide +kernel
theorem dX7_silent_12 : decode cX7_silent 12 = .ok (.if_icmp .ge 119, 3) := by decide +kernel
theorem dX7_silent_15 : decode cX7_silent 15 = .ok (.iconst 0, 1) := by decide +kernel
theorem dX7_silent_16 : decode cX7_silent 16 = .ok (.istore 6, 2) := by decide +kernel
theorem dX7_silent_18 : decode cX7_silent 18 = .ok (.iconst 0, 1) := by decide +kernel
theorem dX7_silent_19 : decode cX7_silent 19 = .ok (.istore 7, 2) := by decide +kernel
theorem dX7_silent_21 : decode cX7_silent 21 = .ok (.iconst 0, 1) := by decide +kernel
theorem dX7_silent_22 : decode cX7_silent 22 = .ok (.istore 8, 2) := by decide +kernel
theorem dX7_silent_24 : decode cX7_silent 24 = .ok (.iload 8, 2) := by decide +kernel
theorem dX7_silent_26 : decode cX7_silent 26 = .ok (.iload_n 2, 1) := by decide +kernel
theorem dX7_silent_27 : decode cX7_silent 27 = .ok (.if_icmp .ge 75, 3) := by decide +kernel
theorem dX7_silent_30 : decode cX7_silent 30 = .ok (.aload_n 0, 1) := by decide +kernel
theorem dX7_silent_31 : decode cX7_silent 31 = .ok (.getfield 21, 3) := by decide +kernel
theorem dX7_silent_34 : decode cX7_silent 34 = .ok (.iload_n 1, 1) := by decide +kernel
theorem dX7_silent_35 : decode cX7_silent 35 = .ok (.aaload, 1) := by decide +kernel
theorem dX7_silent_36 : decode cX7_silent 36 = .ok (.iload 8, 2) := by decide +kernel
theorem dX7_silent_38 : decode cX7_silent 38 = .ok (.laload, 1) := by decide +kernel
theorem dX7_silent_39 : decode cX7_silent 39 = .ok (.l2i, 1) := by decide +kernel
theorem dX7_silent_40 : decode cX7_silent 40 = .ok (.istore 9, 2) := by decide +kernel
theorem dX7_silent_42 : decode cX7_silent 42 = .ok (.iload 9, 2) := by decide +kernel
theorem dX7_silent_44 : decode cX7_silent 44 = .ok (.bipush 10, 2) := by decide +kernel
theorem dX7_silent_46 : decode cX7_silent 46 = .ok (.irem, 1) := by decide +kernel
theorem dX7_silent_47 : decode cX7_silent 47 = .ok (.iload_n 3, 1) := by decide +kernel
theorem dX7_silent_48 : decode cX7_silent 48 = .ok (.if_icmp .ne 48, 3) := by decide +kernel
theorem dX7_silent_51 : decode cX7_silent 51 = .ok (.iload 7, 2) := by decide +kernel
theorem dX7_silent_53 : decode cX7_silent 53 = .ok (.iload 6, 2) := by decide +kernel
theorem dX7_silent_55 : decode cX7_silent 55 = .ok (.ifCond .eq 17, 3) := by decide +kernel
theorem dX7_silent_58 : decode cX7_silent 58 = .ok (.iload 9, 2) := by decide +kernel
theorem dX7_silent_60 : decode cX7_silent 60 = .ok (.bipush 10, 2) := by decide +kernel
theorem dX7_silent_62 : decode cX7_silent 62 = .ok (.idiv, 1) := by decide +kernel
theorem dX7_silent_63 : decode cX7_silent 63 = .ok (.iload 5, 2) := by decide +kernel
theorem dX7_silent_65 : decode cX7_silent 65 = .ok (.if_icmp .ne 7, 3) := by decide +kernel
theorem dX7_silent_68 : decode cX7_silent 68 = .ok (.iconst 1, 1) := by decide +kernel
theorem dX7_silent_69 : decode cX7_silent 69 = .ok (.goto 4, 3) := by decide +kernel
theorem dX7_silent_72 : decode cX7_silent 72 = .ok (.iconst 0, 1) := by decide +kernel
theorem dX7_silent_73 : decode cX7_silent 73 = .ok (.ior, 1) := by decide +kernel
theorem dX7_silent_74 : decode cX7_silent 74 = .ok (.istore 7, 2) := by decide +kernel
theorem dX7_silent_76 : decode cX7_silent 76 = .ok (.iload 6, 2) := by decide +kernel
theorem dX7_silent_78 : decode cX7_silent 78 = .ok (.aload_n 0, 1) := by decide +kernel
theorem dX7_silent_79 : decode cX7_silent 79 = .ok (.getfield 56, 3) := by decide +kernel
theorem dX7_silent_82 : decode cX7_silent 82 = .ok (.iload 5, 2) := by decide +kernel
theorem dX7_silent_84 : decode cX7_silent 84 = .ok (.iaload, 1) := by decide +kernel
theorem dX7_silent_85 : decode cX7_silent 85 = .ok (.iload 9, 2) := by decide +kernel
theorem dX7_silent_87 : decode cX7_silent 87 = .ok (.bipush 10, 2) := by decide +kernel
theorem dX7_silent_89 : decode cX7_silent 89 = .ok (.idiv, 1) := by decide +kernel
theorem dX7_silent_90 : decode cX7_silent 90 = .ok (.invokestatic 84, 3) := by decide +kernel
theorem dX7_silent_93 : decode cX7_silent 93 = .ok (.ior, 1) := by decide +kernel
theorem dX7_silent_94 : decode cX7_silent 94 = .ok (.istore 6, 2) := by decide +kernel
theorem dX7_silent_96 : decode cX7_silent 96 = .ok (.iinc 8 1, 3) := by decide +kernel
theorem dX7_silent_99 : decode cX7_silent 99 = .ok (.goto (-75), 3) := by decide +kernel
theorem dX7_silent_102 : decode cX7_silent 102 = .ok (.iload 4, 2) := by decide +kernel
theorem dX7_silent_104 : decode cX7_silent 104 = .ok (.iload 6, 2) := by decide +kernel
theorem dX7_silent_106 : decode cX7_silent 106 = .ok (.ifCond .eq 15, 3) := by decide +kernel
theorem dX7_silent_109 : decode cX7_silent 109 = .ok (.iload 7, 2) := by decide +kernel
theorem dX7_silent_111 : decode cX7_silent 111 = .ok (.ifCond .ne 10, 3) := by decide +kernel
theorem dX7_silent_114 : decode cX7_silent 114 = .ok (.iconst 1, 1) := by decide +kernel
theorem dX7_silent_115 : decode cX7_silent 115 = .ok (.iload 5, 2) := by decide +kernel
theorem dX7_silent_117 : decode cX7_silent 117 = .ok (.ishl, 1) := by decide +kernel
theorem dX7_silent_118 : decode cX7_silent 118 = .ok (.goto 4, 3) := by decide +kernel
theorem dX7_silent_121 : decode cX7_silent 121 = .ok (.iconst 0, 1) := by decide +kernel
theorem dX7_silent_122 : decode cX7_silent 122 = .ok (.ior, 1) := by decide +kernel
theorem dX7_silent_123 : decode cX7_silent 123 = .ok (.istore 4, 2) := by decide +kernel
theorem dX7_silent_125 : decode cX7_silent 125 = .ok (.iinc 5 1, 3) := by decide +kernel
theorem dX7_silent_128 : decode cX7_silent 128 = .ok (.goto (-122), 3) := by decide +kernel
theorem dX7_silent_131 : decode cX7_silent 131 = .ok (.iload 4, 2) := by decide +kernel
theorem dX7_silent_133 : decode cX7_silent 133 = .ok (.ireturn, 1) := by decide +kernel
set_option maxRecDepth 20000 in
theorem ggX7_barredOf_X7_barredBy : GoodIn wsX7_barredOf wsX7_barredBy := goodIn_r _ [6, 7, 8, 9, 13, 14, 15, 16, 17, 18, 19, 20, 21, 22, 23, 24, 25, 26, 27, 28, 29, 30, 31, 32, 33, 34, 35, 36, 37, 38, 39, 40, 41, 42, 43, 44, 45] (by decide +kernel) (by decide +kernel)
set_option maxRecDepth 20000 in
theorem gX7_barredOf_X7_barredBy : GoodIn wsX7_barredOf (wsV RX7 124 RX7 yX7_barredBy wsX7_barredBy) := goodIn_app (goodIn_of _ (by decide +kernel)) ggX7_barredOf_X7_barredBy
set_option maxRecDepth 20000 in
theorem ggX7_barredOf_X7_has : GoodIn wsX7_barredOf wsX7_has := goodIn_r _ [12] (by decide +kernel) (by decide +kernel)
set_option maxRecDepth 20000 in
theorem gX7_barredOf_X7_has : GoodIn wsX7_barredOf (va_wsS RX7 84 yX7_has wsX7_has) := goodIn_app (goodIn_of _ (by decide +kernel)) ggX7_barredOf_X7_has
theorem dX7_barredOf_0 : decode cX7_barredOf 0 = .ok (.iconst 0, 1) := by decide +kernel
theorem dX7_barredOf_1 : decode cX7_barredOf 1 = .ok (.istore_n 2, 1) := by decide +kernel
theorem dX7_barredOf_2 : decode cX7_barredOf 2 = .ok (.iconst 0, 1) := by decide +kernel
theorem dX7_barredOf_3 : decode cX7_barredOf 3 = .ok (.istore_n 3, 1) := by decide +kernel
theorem dX7_barredOf_4 : decode cX7_barredOf 4 = .ok (.iload_n 3, 1) := by decide +kernel
theorem dX7_barredOf_5 : decode cX7_barredOf 5 = .ok (.aload_n 0, 1) := by decide +kernel
theorem dX7_barredOf_6 : decode cX7_barredOf 6 = .ok (.getfield 77, 3) := by decide +kernel
theorem dX7_barredOf_9 : decode cX7_barredOf 9 = .ok (.if_icmp .ge 31, 3) := by decide +kernel
theorem dX7_barredOf_12 : decode cX7_barredOf 12 = .ok (.iload_n 2, 1) := by decide +kernel
theorem dX7_barredOf_13 : decode cX7_barredOf 13 = .ok (.aload_n 0, 1) := by decide +kernel
theorem dX7_barredOf_14 : decode cX7_barredOf 14 = .ok (.iload_n 3, 1) := by decide +kernel
theorem dX7_barredOf_15 : decode cX7_barredOf 15 = .ok (.invokevirtual 124, 3) := by decide +kernel
theorem dX7_barredOf_18 : decode cX7_barredOf 18 = .ok (.iload_n 1, 1) := by decide +kernel
theorem dX7_barredOf_19 : decode cX7_barredOf 19 = .ok (.invokestatic 84, 3) := by decide +kernel
theorem dX7_barredOf_22 : decode cX7_barredOf 22 = .ok (.ifCond .eq 9, 3) := by decide +kernel
theorem dX7_barredOf_25 : decode cX7_barredOf 25 = .ok (.iconst 1, 1) := by decide +kernel
theorem dX7_barredOf_26 : decode cX7_barredOf 26 = .ok (.iload_n 3, 1) := by decide +kernel
theorem dX7_barredOf_27 : decode cX7_barredOf 27 = .ok (.ishl, 1) := by decide +kernel
theorem dX7_barredOf_28 : decode cX7_barredOf 28 = .ok (.goto 4, 3) := by decide +kernel
theorem dX7_barredOf_31 : decode cX7_barredOf 31 = .ok (.iconst 0, 1) := by decide +kernel
theorem dX7_barredOf_32 : decode cX7_barredOf 32 = .ok (.ior, 1) := by decide +kernel
theorem dX7_barredOf_33 : decode cX7_barredOf 33 = .ok (.istore_n 2, 1) := by decide +kernel
theorem dX7_barredOf_34 : decode cX7_barredOf 34 = .ok (.iinc 3 1, 3) := by decide +kernel
theorem dX7_barredOf_37 : decode cX7_barredOf 37 = .ok (.goto (-33), 3) := by decide +kernel
theorem dX7_barredOf_40 : decode cX7_barredOf 40 = .ok (.iload_n 2, 1) := by decide +kernel
theorem dX7_barredOf_41 : decode cX7_barredOf 41 = .ok (.ireturn, 1) := by decide +kernel
set_option maxRecDepth 20000 in
theorem ggX7_barred_X7_isSight : GoodIn wsX7_barred wsX7_isSight := goodIn_r _ [5, 6, 7, 8, 4, 9, 30, 31, 32, 33, 34, 35, 36, 37, 38, 39, 40, 41, 42, 43, 44, 45, 46, 47, 48, 49, 50, 51, 52, 53, 54, 55, 56, 57, 58, 59, 60, 61, 62] (by decide +kernel) (by decide +kernel)
set_option maxRecDepth 20000 in
theorem gX7_barred_X7_isSight : GoodIn wsX7_barred (wsV RX7 138 RX7 yX7_isSight wsX7_isSight) := goodIn_app (goodIn_of _ (by decide +kernel)) ggX7_barred_X7_isSight
set_option maxRecDepth 20000 in
theorem ggX7_barred_X7_barredOf : GoodIn wsX7_barred wsX7_barredOf := goodIn_r _ [13, 14, 15, 16, 17, 4, 18, 19, 20, 21, 22, 23, 24, 30, 31, 32, 33, 34, 35, 36, 37, 38, 39, 40, 41, 42, 43, 44, 45, 46, 47, 48, 49, 50, 51, 52, 53, 54, 55, 56, 57, 58, 59, 60, 61, 62] (by decide +kernel) (by decide +kernel)
set_option maxRecDepth 20000 in
theorem gX7_barred_X7_barredOf : GoodIn wsX7_barred (wsV RX7 286 RX7 yX7_barredOf wsX7_barredOf) := goodIn_app (goodIn_of _ (by decide +kernel)) ggX7_barred_X7_barredOf
set_option maxRecDepth 20000 in
theorem ggX7_barred_X7_refuse : GoodIn wsX7_barred wsX7_refuse := goodIn_r _ [28, 29, 30, 31, 32, 33, 34, 35, 36, 37, 38, 39, 40, 41, 42, 43, 44, 45, 46, 47, 48, 49, 50, 51, 52, 53, 54, 55, 56, 57, 58, 59, 60, 61, 62] (by decide +kernel) (by decide +kernel)
set_option maxRecDepth 20000 in
theorem gX7_barred_X7_refuse : GoodIn wsX7_barred (wsV RX7 94 RX7 yX7_refuse wsX7_refuse) := goodIn_app (goodIn_of _ (by decide +kernel)) ggX7_barred_X7_refuse
theorem dX7_barred_0 : decode cX7_barred 0 = .ok (.aload_n 0, 1) := by decide +kernel
theorem dX7_barred_1 : decode cX7_barred 1 = .ok (.iload_n 1, 1) := by decide +kernel
theorem dX7_barred_2 : decode cX7_barred 2 = .ok (.invokevirtual 138, 3) := by decide +kernel
theorem dX7_barred_5 : decode cX7_barred 5 = .ok (.ifCond .eq 11, 3) := by decide +kernel
theorem dX7_barred_8 : decode cX7_barred 8 = .ok (.aload_n 0, 1) := by decide +kernel
theorem dX7_barred_9 : decode cX7_barred 9 = .ok (.iload_n 1, 1) := by decide +kernel
theorem dX7_barred_10 : decode cX7_barred 10 = .ok (.invokevirtual 286, 3) := by decide +kernel
theorem dX7_barred_13 : decode cX7_barred 13 = .ok (.goto 9, 3) := by decide +kernel
theorem dX7_barred_16 : decode cX7_barred 16 = .ok (.aload_n 0, 1) := by decide +kernel
theorem dX7_barred_17 : decode cX7_barred 17 = .ok (.bipush (-2), 2) := by decide +kernel
theorem dX7_barred_19 : decode cX7_barred 19 = .ok (.invokevirtual 94, 3) := by decide +kernel
theorem dX7_barred_22 : decode cX7_barred 22 = .ok (.ireturn, 1) := by decide +kernel
set_option maxRecDepth 20000 in
theorem ggX7_surely_X7_isSight : GoodIn wsX7_surely wsX7_isSight := goodIn_r _ [5, 6, 7, 8, 4, 9, 57, 58, 59, 60, 61, 62, 63, 64, 65, 66, 67, 68, 69, 70, 71, 72, 73, 74, 75, 76, 77, 78, 79, 80, 81, 82, 83, 84, 85, 86, 87, 88, 89] (by decide +kernel) (by decide +kernel)
set_option maxRecDepth 20000 in
theorem gX7_surely_X7_isSight : GoodIn wsX7_surely (wsV RX7 138 RX7 yX7_isSight wsX7_isSight) := goodIn_app (goodIn_of _ (by decide +kernel)) ggX7_surely_X7_isSight
set_option maxRecDepth 20000 in
theorem ggX7_surely_X7_refuse : GoodIn wsX7_surely wsX7_refuse := goodIn_r _ [13, 14, 57, 58, 59, 60, 61, 62, 63, 64, 65, 66, 67, 68, 69, 70, 71, 72, 73, 74, 75, 76, 77, 78, 79, 80, 81, 82, 83, 84, 85, 86, 87, 88, 89] (by decide +kernel) (by decide +kernel)
set_option maxRecDepth 20000 in
theorem gX7_surely_X7_refuse : GoodIn wsX7_surely (wsV RX7 94 RX7 yX7_refuse wsX7_refuse) := goodIn_app (goodIn_of _ (by decide +kernel)) ggX7_surely_X7_refuse
set_option maxRecDepth 20000 in
theorem ggX7_surely_X7_noSayings : GoodIn wsX7_surely wsX7_noSayings := goodIn_r _ [18, 19, 20, 21, 22, 4, 23, 24, 25, 26, 7, 8, 9, 10, 11, 12, 13, 14, 27, 28, 29, 30, 31, 32, 33, 34, 35, 36, 37, 6, 57, 58, 59, 60, 61, 62, 63, 64, 65, 66, 67, 68, 69, 70, 71, 72, 73, 74, 75, 76, 77, 78, 79, 80, 81, 82, 83, 84, 85, 86, 87, 88, 89] (by decide +kernel) (by decide +kernel)
set_option maxRecDepth 20000 in
theorem gX7_surely_X7_noSayings : GoodIn wsX7_surely (wsV RX7 315 RX7 yX7_noSayings wsX7_noSayings) := goodIn_app (goodIn_of _ (by decide +kernel)) ggX7_surely_X7_noSayings
set_option maxRecDepth 20000 in
theorem ggX7_surely_X7_silent : GoodIn wsX7_surely wsX7_silent := goodIn_r _ [41, 37, 19, 42, 43, 44, 4, 45, 57, 58, 59, 60, 61, 62, 63, 64, 65, 66, 67, 68, 69, 70, 71, 72, 73, 74, 75, 76, 77, 78, 79, 80, 81, 82, 83, 84, 85, 86, 87, 88, 89] (by decide +kernel) (by decide +kernel)
set_option maxRecDepth 20000 in
theorem gX7_surely_X7_silent : GoodIn wsX7_surely (wsV RX7 318 RX7 yX7_silent wsX7_silent) := goodIn_app (goodIn_of _ (by decide +kernel)) ggX7_surely_X7_silent
set_option maxRecDepth 20000 in
theorem ggX7_surely_X7_barredOf : GoodIn wsX7_surely wsX7_barredOf := goodIn_r _ [49, 37, 50, 51, 52, 4, 53, 54, 55, 56, 43, 44, 45, 57, 58, 59, 60, 61, 62, 63, 64, 65, 66, 67, 68, 69, 70, 71, 72, 73, 74, 75, 76, 77, 78, 79, 80, 81, 82, 83, 84, 85, 86, 87, 88, 89] (by decide +kernel) (by decide +kernel)
set_option maxRecDepth 20000 in
theorem gX7_surely_X7_barredOf : GoodIn wsX7_surely (wsV RX7 286 RX7 yX7_barredOf wsX7_barredOf) := goodIn_app (goodIn_of _ (by decide +kernel)) ggX7_surely_X7_barredOf
theorem dX7_surely_0 : decode cX7_surely 0 = .ok (.aload_n 0, 1) := by decide +kernel
theorem dX7_surely_1 : decode cX7_surely 1 = .ok (.iload_n 3, 1) := by decide +kernel
theorem dX7_surely_2 : decode cX7_surely 2 = .ok (.invokevirtual 138, 3) := by decide +kernel
theorem dX7_surely_5 : decode cX7_surely 5 = .ok (.ifCond .ne 10, 3) := by decide +kernel
theorem dX7_surely_8 : decode cX7_surely 8 = .ok (.aload_n 0, 1) := by decide +kernel
theorem dX7_surely_9 : decode cX7_surely 9 = .ok (.bipush (-2), 2) := by decide +kernel
theorem dX7_surely_11 : decode cX7_surely 11 = .ok (.invokevirtual 94, 3) := by decide +kernel
theorem dX7_surely_14 : decode cX7_surely 14 = .ok (.ireturn, 1) := by decide +kernel
theorem dX7_surely_15 : decode cX7_surely 15 = .ok (.aload_n 0, 1) := by decide +kernel
theorem dX7_surely_16 : decode cX7_surely 16 = .ok (.iload_n 1, 1) := by decide +kernel
theorem dX7_surely_17 : decode cX7_surely 17 = .ok (.iload_n 2, 1) := by decide +kernel
theorem dX7_surely_18 : decode cX7_surely 18 = .ok (.invokevirtual 315, 3) := by decide +kernel
theorem dX7_surely_21 : decode cX7_surely 21 = .ok (.istore 4, 2) := by decide +kernel
theorem dX7_surely_23 : decode cX7_surely 23 = .ok (.iload 4, 2) := by decide +kernel
theorem dX7_surely_25 : decode cX7_surely 25 = .ok (.ifCond .eq 8, 3) := by decide +kernel
theorem dX7_surely_28 : decode cX7_surely 28 = .ok (.iload 4, 2) := by decide +kernel
theorem dX7_surely_30 : decode cX7_surely 30 = .ok (.goto 16, 3) := by decide +kernel
theorem dX7_surely_33 : decode cX7_surely 33 = .ok (.aload_n 0, 1) := by decide +kernel
theorem dX7_surely_34 : decode cX7_surely 34 = .ok (.iload_n 1, 1) := by decide +kernel
theorem dX7_surely_35 : decode cX7_surely 35 = .ok (.iload_n 2, 1) := by decide +kernel
theorem dX7_surely_36 : decode cX7_surely 36 = .ok (.iload_n 3, 1) := by decide +kernel
theorem dX7_surely_37 : decode cX7_surely 37 = .ok (.invokevirtual 318, 3) := by decide +kernel
theorem dX7_surely_40 : decode cX7_surely 40 = .ok (.aload_n 0, 1) := by decide +kernel
theorem dX7_surely_41 : decode cX7_surely 41 = .ok (.iload_n 3, 1) := by decide +kernel
theorem dX7_surely_42 : decode cX7_surely 42 = .ok (.invokevirtual 286, 3) := by decide +kernel
theorem dX7_surely_45 : decode cX7_surely 45 = .ok (.iand, 1) := by decide +kernel
theorem dX7_surely_46 : decode cX7_surely 46 = .ok (.ireturn, 1) := by decide +kernel
set_option maxRecDepth 20000 in
theorem ggX7_free_X7_isSight : GoodIn wsX7_free wsX7_isSight := goodIn_r _ [6, 7, 8, 9, 5, 10, 112, 113, 114, 115, 116, 117, 118, 119, 120, 121, 122, 123, 124, 125, 126, 127, 128, 129, 130, 131, 132, 133, 134, 135, 136, 137, 138, 139, 140, 141, 142, 143, 144] (by decide +kernel) (by decide +kernel)
set_option maxRecDepth 20000 in
theorem gX7_free_X7_isSight : GoodIn wsX7_free (wsV RX7 138 RX7 yX7_isSight wsX7_isSight) := goodIn_app (goodIn_of _ (by decide +kernel)) ggX7_free_X7_isSight
set_option maxRecDepth 20000 in
theorem ggX7_free_X7_refuse : GoodIn wsX7_free wsX7_refuse := goodIn_r _ [14, 15, 112, 113, 114, 115, 116, 117, 118, 119, 120, 121, 122, 123, 124, 125, 126, 127, 128, 129, 130, 131, 132, 133, 134, 135, 136, 137, 138, 139, 140, 141, 142, 143, 144] (by decide +kernel) (by decide +kernel)
set_option maxRecDepth 20000 in
theorem gX7_free_X7_refuse : GoodIn wsX7_free (wsV RX7 94 RX7 yX7_refuse wsX7_refuse) := goodIn_app (goodIn_of _ (by decide +kernel)) ggX7_free_X7_refuse
set_option maxRecDepth 20000 in
theorem ggX7_free_X7_noSayings : GoodIn wsX7_free wsX7_noSayings := goodIn_r _ [19, 1, 20, 21, 22, 5, 23, 24, 25, 26, 8, 9, 10, 11, 12, 13, 14, 15, 27, 28, 29, 30, 31, 32, 33, 34, 35, 36, 37, 7, 112, 113, 114, 115, 116, 117, 118, 119, 120, 121, 122, 123, 124, 125, 126, 127, 128, 129, 130, 131, 132, 133, 134, 135, 136, 137, 138, 139, 140, 141, 142, 143, 144] (by decide +kernel) (by decide +kernel)
set_option maxRecDepth 20000 in
theorem gX7_free_X7_noSayings : GoodIn wsX7_free (wsV RX7 315 RX7 yX7_noSayings wsX7_noSayings) := goodIn_app (goodIn_of _ (by decide +kernel)) ggX7_free_X7_noSayings
set_option maxRecDepth 20000 in
theorem ggX7_free_X7_fresh : GoodIn wsX7_free wsX7_fresh := goodIn_r _ [41, 42, 43, 44, 5, 45, 46, 47, 48, 49, 50, 51, 31, 52, 26, 53, 54, 1, 55, 56, 57, 15, 7, 58, 59, 60, 61, 62, 63, 64, 65, 66, 67, 68, 69, 70, 71, 72, 73, 37, 74, 75, 76, 77, 112, 113, 114, 115, 116, 117, 118, 119, 120, 121, 122, 123, 124, 125, 126, 127, 128, 129, 130, 131, 132, 133, 134, 135, 136, 137, 138, 139, 140, 141, 142, 143, 144] (by decide +kernel) (by decide +kernel)
set_option maxRecDepth 20000 in
theorem gX7_free_X7_fresh : GoodIn wsX7_free (wsV RX7 236 RX7 yX7_fresh wsX7_fresh) := goodIn_app (goodIn_of _ (by decide +kernel)) ggX7_free_X7_fresh
set_option maxRecDepth 20000 in
theorem ggX7_free_X7_isSaid : GoodIn wsX7_free wsX7_isSaid := goodIn_r _ [81, 37, 63, 62, 82, 83, 5, 84, 85, 86, 87, 112, 113, 114, 115, 116, 117, 118, 119, 120, 121, 122, 123, 124, 125, 126, 127, 128, 129, 130, 131, 132, 133, 134, 135, 136, 137, 138, 139, 140, 141, 142, 143, 144] (by decide +kernel) (by decide +kernel)
set_option maxRecDepth 20000 in
theorem gX7_free_X7_isSaid : GoodIn wsX7_free (wsV RX7 253 RX7 yX7_isSaid wsX7_isSaid) := goodIn_app (goodIn_of _ (by decide +kernel)) ggX7_free_X7_isSaid
set_option maxRecDepth 20000 in
theorem ggX7_free_X7_silent : GoodIn wsX7_free wsX7_silent := goodIn_r _ [91, 37, 1, 63, 82, 83, 5, 84, 112, 113, 114, 115, 116, 117, 118, 119, 120, 121, 122, 123, 124, 125, 126, 127, 128, 129, 130, 131, 132, 133, 134, 135, 136, 137, 138, 139, 140, 141, 142, 143, 144] (by decide +kernel) (by decide +kernel)
set_option maxRecDepth 20000 in
theorem gX7_free_X7_silent : GoodIn wsX7_free (wsV RX7 318 RX7 yX7_silent wsX7_silent) := goodIn_app (goodIn_of _ (by decide +kernel)) ggX7_free_X7_silent
set_option maxRecDepth 20000 in
theorem ggX7_free_X7_barredOf : GoodIn wsX7_free wsX7_barredOf := goodIn_r _ [95, 37, 96, 97, 98, 5, 99, 64, 60, 61, 82, 83, 84, 112, 113, 114, 115, 116, 117, 118, 119, 120, 121, 122, 123, 124, 125, 126, 127, 128, 129, 130, 131, 132, 133, 134, 135, 136, 137, 138, 139, 140, 141, 142, 143, 144] (by decide +kernel) (by decide +kernel)
set_option maxRecDepth 20000 in
theorem gX7_free_X7_barredOf : GoodIn wsX7_free (wsV RX7 286 RX7 yX7_barredOf wsX7_barredOf) := goodIn_app (goodIn_of _ (by decide +kernel)) ggX7_free_X7_barredOf
set_option maxRecDepth 20000 in
theorem ggX7_free_X7_mouthsOf : GoodIn wsX7_free wsX7_mouthsOf := goodIn_r _ [103, 37, 104, 105, 106, 5, 107, 58, 62, 63, 60, 64, 7, 96, 97, 98, 99, 61, 108, 109, 110, 111, 82, 83, 84, 112, 113, 114, 115, 116, 117, 118, 119, 120, 121, 122, 123, 124, 125, 126, 127, 128, 129, 130, 131, 132, 133, 134, 135, 136, 137, 138, 139, 140, 141, 142, 143, 144] (by decide +kernel) (by decide +kernel)
set_option maxRecDepth 20000 in
theorem gX7_free_X7_mouthsOf : GoodIn wsX7_free (wsV RX7 250 RX7 yX7_mouthsOf wsX7_mouthsOf) := goodIn_app (goodIn_of _ (by decide +kernel)) ggX7_free_X7_mouthsOf
theorem dX7_free_0 : decode cX7_free 0 = .ok (.aload_n 0, 1) := by decide +kernel
theorem dX7_free_1 : decode cX7_free 1 = .ok (.iload_n 3, 1) := by decide +kernel
theorem dX7_free_2 : decode cX7_free 2 = .ok (.invokevirtual 138, 3) := by decide +kernel
theorem dX7_free_5 : decode cX7_free 5 = .ok (.ifCond .ne 10, 3) := by decide +kernel
theorem dX7_free_8 : decode cX7_free 8 = .ok (.aload_n 0, 1) := by decide +kernel
theorem dX7_free_9 : decode cX7_free 9 = .ok (.bipush (-2), 2) := by decide +kernel
theorem dX7_free_11 : decode cX7_free 11 = .ok (.invokevirtual 94, 3) := by decide +kernel
theorem dX7_free_14 : decode cX7_free 14 = .ok (.ireturn, 1) := by decide +kernel
theorem dX7_free_15 : decode cX7_free 15 = .ok (.aload_n 0, 1) := by decide +kernel
theorem dX7_free_16 : decode cX7_free 16 = .ok (.iload_n 1, 1) := by decide +kernel
theorem dX7_free_17 : decode cX7_free 17 = .ok (.iload_n 2, 1) := by decide +kernel
theorem dX7_free_18 : decode cX7_free 18 = .ok (.invokevirtual 315, 3) := by decide +kernel
theorem dX7_free_21 : decode cX7_free 21 = .ok (.istore 4, 2) := by decide +kernel
theorem dX7_free_23 : decode cX7_free 23 = .ok (.iload 4, 2) := by decide +kernel
theorem dX7_free_25 : decode cX7_free 25 = .ok (.ifCond .eq 6, 3) := by decide +kernel
theorem dX7_free_28 : decode cX7_free 28 = .ok (.iload 4, 2) := by decide +kernel
theorem dX7_free_30 : decode cX7_free 30 = .ok (.ireturn, 1) := by decide +kernel
theorem dX7_free_31 : decode cX7_free 31 = .ok (.aload_n 0, 1) := by decide +kernel
theorem dX7_free_32 : decode cX7_free 32 = .ok (.invokevirtual 236, 3) := by decide +kernel
theorem dX7_free_35 : decode cX7_free 35 = .ok (.astore 5, 2) := by decide +kernel
theorem dX7_free_37 : decode cX7_free 37 = .ok (.iconst 0, 1) := by decide +kernel
theorem dX7_free_38 : decode cX7_free 38 = .ok (.istore 6, 2) := by decide +kernel
theorem dX7_free_40 : decode cX7_free 40 = .ok (.iload 6, 2) := by decide +kernel
theorem dX7_free_42 : decode cX7_free 42 = .ok (.iload_n 2, 1) := by decide +kernel
theorem dX7_free_43 : decode cX7_free 43 = .ok (.if_icmp .ge 39, 3) := by decide +kernel
theorem dX7_free_46 : decode cX7_free 46 = .ok (.aload_n 0, 1) := by decide +kernel
theorem dX7_free_47 : decode cX7_free 47 = .ok (.getfield 21, 3) := by decide +kernel
theorem dX7_free_50 : decode cX7_free 50 = .ok (.iload_n 1, 1) := by decide +kernel
theorem dX7_free_51 : decode cX7_free 51 = .ok (.aaload, 1) := by decide +kernel
theorem dX7_free_52 : decode cX7_free 52 = .ok (.iload 6, 2) := by decide +kernel
theorem dX7_free_54 : decode cX7_free 54 = .ok (.laload, 1) := by decide +kernel
theorem dX7_free_55 : decode cX7_free 55 = .ok (.l2i, 1) := by decide +kernel
theorem dX7_free_56 : decode cX7_free 56 = .ok (.istore 7, 2) := by decide +kernel
theorem dX7_free_58 : decode cX7_free 58 = .ok (.aload 5, 2) := by decide +kernel
theorem dX7_free_60 : decode cX7_free 60 = .ok (.iload 7, 2) := by decide +kernel
theorem dX7_free_62 : decode cX7_free 62 = .ok (.bipush 10, 2) := by decide +kernel
theorem dX7_free_64 : decode cX7_free 64 = .ok (.idiv, 1) := by decide +kernel
theorem dX7_free_65 : decode cX7_free 65 = .ok (.iconst 1, 1) := by decide +kernel
theorem dX7_free_66 : decode cX7_free 66 = .ok (.iload 7, 2) := by decide +kernel
theorem dX7_free_68 : decode cX7_free 68 = .ok (.bipush 10, 2) := by decide +kernel
theorem dX7_free_70 : decode cX7_free 70 = .ok (.irem, 1) := by decide +kernel
theorem dX7_free_71 : decode cX7_free 71 = .ok (.ishl, 1) := by decide +kernel
theorem dX7_free_72 : decode cX7_free 72 = .ok (.invokevirtual 253, 3) := by decide +kernel
theorem dX7_free_75 : decode cX7_free 75 = .ok (.pop, 1) := by decide +kernel
theorem dX7_free_76 : decode cX7_free 76 = .ok (.iinc 6 1, 3) := by decide +kernel
theorem dX7_free_79 : decode cX7_free 79 = .ok (.goto (-39), 3) := by decide +kernel
theorem dX7_free_82 : decode cX7_free 82 = .ok (.aload_n 0, 1) := by decide +kernel
theorem dX7_free_83 : decode cX7_free 83 = .ok (.iload_n 1, 1) := by decide +kernel
theorem dX7_free_84 : decode cX7_free 84 = .ok (.iload_n 2, 1) := by decide +kernel
theorem dX7_free_85 : decode cX7_free 85 = .ok (.iload_n 3, 1) := by decide +kernel
theorem dX7_free_86 : decode cX7_free 86 = .ok (.invokevirtual 318, 3) := by decide +kernel
theorem dX7_free_89 : decode cX7_free 89 = .ok (.aload_n 0, 1) := by decide +kernel
theorem dX7_free_90 : decode cX7_free 90 = .ok (.iload_n 3, 1) := by decide +kernel
theorem dX7_free_91 : decode cX7_free 91 = .ok (.invokevirtual 286, 3) := by decide +kernel
theorem dX7_free_94 : decode cX7_free 94 = .ok (.iconst (-1), 1) := by decide +kernel
theorem dX7_free_95 : decode cX7_free 95 = .ok (.ixor, 1) := by decide +kernel
theorem dX7_free_96 : decode cX7_free 96 = .ok (.iand, 1) := by decide +kernel
theorem dX7_free_97 : decode cX7_free 97 = .ok (.aload 5, 2) := by decide +kernel
theorem dX7_free_99 : decode cX7_free 99 = .ok (.iload_n 3, 1) := by decide +kernel
theorem dX7_free_100 : decode cX7_free 100 = .ok (.invokevirtual 250, 3) := by decide +kernel
theorem dX7_free_103 : decode cX7_free 103 = .ok (.iand, 1) := by decide +kernel
theorem dX7_free_104 : decode cX7_free 104 = .ok (.ireturn, 1) := by decide +kernel
set_option maxRecDepth 20000 in
theorem ggX7_evening_X7_noEvening : GoodIn wsX7_evening wsX7_noEvening := goodIn_r _ [6, 7, 8, 9, 10, 11, 5, 12, 13, 14, 15, 16, 17, 18, 19, 20, 21, 22, 104, 105, 106, 107, 108, 109, 110, 111, 112, 113, 114, 115, 116, 117, 118, 119, 120, 121, 122, 123, 124, 125, 126, 127, 128, 129, 130, 131, 132, 133, 134, 135, 136] (by decide +kernel) (by decide +kernel)
set_option maxRecDepth 20000 in
theorem gX7_evening_X7_noEvening : GoodIn wsX7_evening (wsV RX7 308 RX7 yX7_noEvening wsX7_noEvening) := goodIn_app (goodIn_of _ (by decide +kernel)) ggX7_evening_X7_noEvening
set_option maxRecDepth 20000 in
theorem ggX7_evening_X7_fresh : GoodIn wsX7_evening wsX7_fresh := goodIn_r _ [26, 27, 28, 29, 5, 30, 31, 32, 33, 34, 35, 36, 22, 37, 9, 38, 39, 1, 40, 41, 42, 17, 43, 44, 45, 46, 47, 48, 49, 50, 51, 52, 53, 54, 55, 56, 57, 58, 59, 60, 61, 62, 63, 64, 104, 105, 106, 107, 108, 109, 110, 111, 112, 113, 114, 115, 116, 117, 118, 119, 120, 121, 122, 123, 124, 125, 126, 127, 128, 129, 130, 131, 132, 133, 134, 135, 136] (by decide +kernel) (by decide +kernel)
set_option maxRecDepth 20000 in
theorem gX7_evening_X7_fresh : GoodIn wsX7_evening (wsV RX7 236 RX7 yX7_fresh wsX7_fresh) := goodIn_app (goodIn_of _ (by decide +kernel)) ggX7_evening_X7_fresh
set_option maxRecDepth 20000 in
theorem ggX7_evening_X7_goesBy : GoodIn wsX7_evening wsX7_goesBy := goodIn_r _ [68, 69, 70, 71, 72, 5, 73, 60, 43, 74, 75, 76, 77, 44, 48, 49, 46, 50, 78, 79, 80, 81, 47, 82, 83, 84, 85, 86, 87, 88, 89, 90, 91, 92, 93, 94, 95, 104, 105, 106, 107, 108, 109, 110, 111, 112, 113, 114, 115, 116, 117, 118, 119, 120, 121, 122, 123, 124, 125, 126, 127, 128, 129, 130, 131, 132, 133, 134, 135, 136] (by decide +kernel) (by decide +kernel)
set_option maxRecDepth 20000 in
theorem gX7_evening_X7_goesBy : GoodIn wsX7_evening (wsV RX7 311 RX7 yX7_goesBy wsX7_goesBy) := goodIn_app (goodIn_of _ (by decide +kernel)) ggX7_evening_X7_goesBy
set_option maxRecDepth 20000 in
theorem ggX7_evening_X7_refuse : GoodIn wsX7_evening wsX7_refuse := goodIn_r _ [16, 17, 104, 105, 106, 107, 108, 109, 110, 111, 112, 113, 114, 115, 116, 117, 118, 119, 120, 121, 122, 123, 124, 125, 126, 127, 128, 129, 130, 131, 132, 133, 134, 135, 136] (by decide +kernel) (by decide +kernel)
set_option maxRecDepth 20000 in
theorem gX7_evening_X7_refuse : GoodIn wsX7_evening (wsV RX7 94 RX7 yX7_refuse wsX7_refuse) := goodIn_app (goodIn_of _ (by decide +kernel)) ggX7_evening_X7_refuse
set_option maxRecDepth 20000 in
theorem ggX7_evening_X7_knownNow : GoodIn wsX7_evening wsX7_knownNow := goodIn_r _ [99, 60, 100, 101, 102, 5, 103, 46, 47, 48, 93, 94, 95, 104, 105, 106, 107, 108, 109, 110, 111, 112, 113, 114, 115, 116, 117, 118, 119, 120, 121, 122, 123, 124, 125, 126, 127, 128, 129, 130, 131, 132, 133, 134, 135, 136] (by decide +kernel) (by decide +kernel)
set_option maxRecDepth 20000 in
theorem gX7_evening_X7_knownNow : GoodIn wsX7_evening (wsV RX7 257 RX7 yX7_knownNow wsX7_knownNow) := goodIn_app (goodIn_of _ (by decide +kernel)) ggX7_evening_X7_knownNow
theorem dX7_evening_0 : decode cX7_evening 0 = .ok (.aload_n 0, 1) := by decide +kernel
theorem dX7_evening_1 : decode cX7_evening 1 = .ok (.iload_n 1, 1) := by decide +kernel
theorem dX7_evening_2 : decode cX7_evening 2 = .ok (.iload_n 2, 1) := by decide +kernel
theorem dX7_evening_3 : decode cX7_evening 3 = .ok (.invokevirtual 308, 3) := by decide +kernel
theorem dX7_evening_6 : decode cX7_evening 6 = .ok (.istore_n 3, 1) := by decide +kernel
theorem dX7_evening_7 : decode cX7_evening 7 = .ok (.iload_n 3, 1) := by decide +kernel
theorem dX7_evening_8 : decode cX7_evening 8 = .ok (.ifCond .eq 5, 3) := by decide +kernel
theorem dX7_evening_11 : decode cX7_evening 11 = .ok (.iload_n 3, 1) := by decide +kernel
theorem dX7_evening_12 : decode cX7_evening 12 = .ok (.ireturn, 1) := by decide +kernel
theorem dX7_evening_13 : decode cX7_evening 13 = .ok (.aload_n 0, 1) := by decide +kernel
theorem dX7_evening_14 : decode cX7_evening 14 = .ok (.invokevirtual 236, 3) := by decide +kernel
theorem dX7_evening_17 : decode cX7_evening 17 = .ok (.aload_n 0, 1) := by decide +kernel
theorem dX7_evening_18 : decode cX7_evening 18 = .ok (.getfield 21, 3) := by decide +kernel
theorem dX7_evening_21 : decode cX7_evening 21 = .ok (.iload_n 1, 1) := by decide +kernel
theorem dX7_evening_22 : decode cX7_evening 22 = .ok (.aaload, 1) := by decide +kernel
theorem dX7_evening_23 : decode cX7_evening 23 = .ok (.iload_n 2, 1) := by decide +kernel
theorem dX7_evening_24 : decode cX7_evening 24 = .ok (.invokevirtual 311, 3) := by decide +kernel
theorem dX7_evening_27 : decode cX7_evening 27 = .ok (.iconst (-1), 1) := by decide +kernel
theorem dX7_evening_28 : decode cX7_evening 28 = .ok (.if_icmp .eq 10, 3) := by decide +kernel
theorem dX7_evening_31 : decode cX7_evening 31 = .ok (.aload_n 0, 1) := by decide +kernel
theorem dX7_evening_32 : decode cX7_evening 32 = .ok (.bipush (-5), 2) := by decide +kernel
theorem dX7_evening_34 : decode cX7_evening 34 = .ok (.invokevirtual 94, 3) := by decide +kernel
theorem dX7_evening_37 : decode cX7_evening 37 = .ok (.ireturn, 1) := by decide +kernel
theorem dX7_evening_38 : decode cX7_evening 38 = .ok (.aload_n 0, 1) := by decide +kernel
theorem dX7_evening_39 : decode cX7_evening 39 = .ok (.aload_n 0, 1) := by decide +kernel
theorem dX7_evening_40 : decode cX7_evening 40 = .ok (.getfield 21, 3) := by decide +kernel
theorem dX7_evening_43 : decode cX7_evening 43 = .ok (.iload_n 1, 1) := by decide +kernel
theorem dX7_evening_44 : decode cX7_evening 44 = .ok (.aaload, 1) := by decide +kernel
theorem dX7_evening_45 : decode cX7_evening 45 = .ok (.iload_n 2, 1) := by decide +kernel
theorem dX7_evening_46 : decode cX7_evening 46 = .ok (.invokevirtual 311, 3) := by decide +kernel
theorem dX7_evening_49 : decode cX7_evening 49 = .ok (.pop, 1) := by decide +kernel
theorem dX7_evening_50 : decode cX7_evening 50 = .ok (.aload_n 0, 1) := by decide +kernel
theorem dX7_evening_51 : decode cX7_evening 51 = .ok (.invokevirtual 257, 3) := by decide +kernel
theorem dX7_evening_54 : decode cX7_evening 54 = .ok (.ireturn, 1) := by decide +kernel
theorem dX7_below_0 : decode cX7_below 0 = .ok (.aload_n 0, 1) := by decide +kernel
theorem dX7_below_1 : decode cX7_below 1 = .ok (.aload_n 0, 1) := by decide +kernel
theorem dX7_below_2 : decode cX7_below 2 = .ok (.getfield 62, 3) := by decide +kernel
theorem dX7_below_5 : decode cX7_below 5 = .ok (.ldc_w 322, 3) := by decide +kernel
theorem dX7_below_8 : decode cX7_below 8 = .ok (.imul, 1) := by decide +kernel
theorem dX7_below_9 : decode cX7_below 9 = .ok (.sipush 12345, 3) := by decide +kernel
theorem dX7_below_12 : decode cX7_below 12 = .ok (.iadd, 1) := by decide +kernel
theorem dX7_below_13 : decode cX7_below 13 = .ok (.putfield 62, 3) := by decide +kernel
theorem dX7_below_16 : decode cX7_below 16 = .ok (.aload_n 0, 1) := by decide +kernel
theorem dX7_below_17 : decode cX7_below 17 = .ok (.getfield 62, 3) := by decide +kernel
theorem dX7_below_20 : decode cX7_below 20 = .ok (.bipush 16, 2) := by decide +kernel
theorem dX7_below_22 : decode cX7_below 22 = .ok (.iushr, 1) := by decide +kernel
theorem dX7_below_23 : decode cX7_below 23 = .ok (.iload_n 1, 1) := by decide +kernel
theorem dX7_below_24 : decode cX7_below 24 = .ok (.irem, 1) := by decide +kernel
theorem dX7_below_25 : decode cX7_below 25 = .ok (.ireturn, 1) := by decide +kernel
set_option maxRecDepth 20000 in
theorem ggX7_talk_X7_in : GoodIn wsX7_talk wsX7_in := goodIn_r _ [7] (by decide +kernel) (by decide +kernel)
set_option maxRecDepth 20000 in
theorem gX7_talk_X7_in : GoodIn wsX7_talk (va_wsS RX7 80 yX7_in wsX7_in) := goodIn_app (goodIn_of _ (by decide +kernel)) ggX7_talk_X7_in
set_option maxRecDepth 20000 in
theorem ggX7_talk_X7_refuse : GoodIn wsX7_talk wsX7_refuse := goodIn_r _ [11, 12, 47, 48, 49, 50, 51, 52, 53, 54, 55, 56, 57, 58, 59, 60, 61, 62, 63, 64, 65, 66, 67, 68, 69, 70, 71, 72, 73, 74, 75, 76, 77, 78, 79] (by decide +kernel) (by decide +kernel)
set_option maxRecDepth 20000 in
theorem gX7_talk_X7_refuse : GoodIn wsX7_talk (wsV RX7 94 RX7 yX7_refuse wsX7_refuse) := goodIn_app (goodIn_of _ (by decide +kernel)) ggX7_talk_X7_refuse
set_option maxRecDepth 20000 in
theorem ggX7_talk_X7_below : GoodIn wsX7_talk wsX7_below := goodIn_r _ [16, 17, 18, 47, 48, 49, 50, 51, 52, 53, 54, 55, 56, 57, 58, 59, 60, 61, 62, 63, 64, 65, 66, 67, 68, 69, 70, 71, 72, 73, 74, 75, 76, 77, 78, 79] (by decide +kernel) (by decide +kernel)
set_option maxRecDepth 20000 in
theorem gX7_talk_X7_below : GoodIn wsX7_talk (wsV RX7 323 RX7 yX7_below wsX7_below) := goodIn_app (goodIn_of _ (by decide +kernel)) ggX7_talk_X7_below
set_option maxRecDepth 20000 in
theorem ggX7_talk_X7_mayOf : GoodIn wsX7_talk wsX7_mayOf := goodIn_r _ [22, 23, 24, 2, 25, 26, 27, 3, 28, 29, 30, 6, 31, 32, 33, 34, 35, 36, 37, 38, 39, 47, 48, 49, 50, 51, 52, 53, 54, 55, 56, 57, 58, 59, 60, 61, 62, 63, 64, 65, 66, 67, 68, 69, 70, 71, 72, 73, 74, 75, 76, 77, 78, 79] (by decide +kernel) (by decide +kernel)
set_option maxRecDepth 20000 in
theorem gX7_talk_X7_mayOf : GoodIn wsX7_talk (wsV RX7 114 RX7 yX7_mayOf wsX7_mayOf) := goodIn_app (goodIn_of _ (by decide +kernel)) ggX7_talk_X7_mayOf
set_option maxRecDepth 20000 in
theorem ggX7_talk_X7_has : GoodIn wsX7_talk wsX7_has := goodIn_r _ [39] (by decide +kernel) (by decide +kernel)
set_option maxRecDepth 20000 in
theorem gX7_talk_X7_has : GoodIn wsX7_talk (va_wsS RX7 84 yX7_has wsX7_has) := goodIn_app (goodIn_of _ (by decide +kernel)) ggX7_talk_X7_has
set_option maxRecDepth 20000 in
theorem ggX7_talk_X7_isSaid : GoodIn wsX7_talk wsX7_isSaid := goodIn_r _ [43, 2, 25, 24, 37, 38, 6, 39, 44, 45, 46, 47, 48, 49, 50, 51, 52, 53, 54, 55, 56, 57, 58, 59, 60, 61, 62, 63, 64, 65, 66, 67, 68, 69, 70, 71, 72, 73, 74, 75, 76, 77, 78, 79] (by decide +kernel) (by decide +kernel)
set_option maxRecDepth 20000 in
theorem gX7_talk_X7_isSaid : GoodIn wsX7_talk (wsV RX7 253 RX7 yX7_isSaid wsX7_isSaid) := goodIn_app (goodIn_of _ (by decide +kernel)) ggX7_talk_X7_isSaid
theorem dX7_talk_0 : decode cX7_talk 0 = .ok (.iload_n 1, 1) := by decide +kernel
theorem dX7_talk_1 : decode cX7_talk 1 = .ok (.i2l, 1) := by decide +kernel
theorem dX7_talk_2 : decode cX7_talk 2 = .ok (.lconst 1, 1) := by decide +kernel
theorem dX7_talk_3 : decode cX7_talk 3 = .ok (.ldc2_w 92, 3) := by decide +kernel
theorem dX7_talk_6 : decode cX7_talk 6 = .ok (.invokestatic 80, 3) := by decide +kernel
theorem dX7_talk_9 : decode cX7_talk 9 = .ok (.ifCond .ne 10, 3) := by decide +kernel
theorem dX7_talk_12 : decode cX7_talk 12 = .ok (.aload_n 0, 1) := by decide +kernel
theorem dX7_talk_13 : decode cX7_talk 13 = .ok (.bipush (-2), 2) := by decide +kernel
theorem dX7_talk_15 : decode cX7_talk 15 = .ok (.invokevirtual 94, 3) := by decide +kernel
theorem dX7_talk_18 : decode cX7_talk 18 = .ok (.ireturn, 1) := by decide +kernel
theorem dX7_talk_19 : decode cX7_talk 19 = .ok (.aload_n 0, 1) := by decide +kernel
theorem dX7_talk_20 : decode cX7_talk 20 = .ok (.getfield 77, 3) := by decide +kernel
theorem dX7_talk_23 : decode cX7_talk 23 = .ok (.ifCond .ne 10, 3) := by decide +kernel
theorem dX7_talk_26 : decode cX7_talk 26 = .ok (.aload_n 0, 1) := by decide +kernel
theorem dX7_talk_27 : decode cX7_talk 27 = .ok (.bipush (-5), 2) := by decide +kernel
theorem dX7_talk_29 : decode cX7_talk 29 = .ok (.invokevirtual 94, 3) := by decide +kernel
theorem dX7_talk_32 : decode cX7_talk 32 = .ok (.ireturn, 1) := by decide +kernel
theorem dX7_talk_33 : decode cX7_talk 33 = .ok (.iconst 0, 1) := by decide +kernel
theorem dX7_talk_34 : decode cX7_talk 34 = .ok (.istore_n 2, 1) := by decide +kernel
theorem dX7_talk_35 : decode cX7_talk 35 = .ok (.iconst 0, 1) := by decide +kernel
theorem dX7_talk_36 : decode cX7_talk 36 = .ok (.istore_n 3, 1) := by decide +kernel
theorem dX7_talk_37 : decode cX7_talk 37 = .ok (.iload_n 3, 1) := by decide +kernel
theorem dX7_talk_38 : decode cX7_talk 38 = .ok (.iload_n 1, 1) := by decide +kernel
theorem dX7_talk_39 : decode cX7_talk 39 = .ok (.if_icmp .ge 57, 3) := by decide +kernel
theorem dX7_talk_42 : decode cX7_talk 42 = .ok (.aload_n 0, 1) := by decide +kernel
theorem dX7_talk_43 : decode cX7_talk 43 = .ok (.aload_n 0, 1) := by decide +kernel
theorem dX7_talk_44 : decode cX7_talk 44 = .ok (.getfield 77, 3) := by decide +kernel
theorem dX7_talk_47 : decode cX7_talk 47 = .ok (.invokevirtual 323, 3) := by decide +kernel
theorem dX7_talk_50 : decode cX7_talk 50 = .ok (.istore 4, 2) := by decide +kernel
theorem dX7_talk_52 : decode cX7_talk 52 = .ok (.aload_n 0, 1) := by decide +kernel
theorem dX7_talk_53 : decode cX7_talk 53 = .ok (.aload_n 0, 1) := by decide +kernel
theorem dX7_talk_54 : decode cX7_talk 54 = .ok (.getfield 37, 3) := by decide +kernel
theorem dX7_talk_57 : decode cX7_talk 57 = .ok (.invokevirtual 323, 3) := by decide +kernel
theorem dX7_talk_60 : decode cX7_talk 60 = .ok (.istore 5, 2) := by decide +kernel
theorem dX7_talk_62 : decode cX7_talk 62 = .ok (.aload_n 0, 1) := by decide +kernel
theorem dX7_talk_63 : decode cX7_talk 63 = .ok (.iload 4, 2) := by decide +kernel
theorem dX7_talk_65 : decode cX7_talk 65 = .ok (.invokevirtual 114, 3) := by decide +kernel
theorem dX7_talk_68 : decode cX7_talk 68 = .ok (.iload 5, 2) := by decide +kernel
theorem dX7_talk_70 : decode cX7_talk 70 = .ok (.invokestatic 84, 3) := by decide +kernel
theorem dX7_talk_73 : decode cX7_talk 73 = .ok (.ifCond .eq 17, 3) := by decide +kernel
theorem dX7_talk_76 : decode cX7_talk 76 = .ok (.aload_n 0, 1) := by decide +kernel
theorem dX7_talk_77 : decode cX7_talk 77 = .ok (.iload 4, 2) := by decide +kernel
theorem dX7_talk_79 : decode cX7_talk 79 = .ok (.iconst 1, 1) := by decide +kernel
theorem dX7_talk_80 : decode cX7_talk 80 = .ok (.iload 5, 2) := by decide +kernel
theorem dX7_talk_82 : decode cX7_talk 82 = .ok (.ishl, 1) := by decide +kernel
theorem dX7_talk_83 : decode cX7_talk 83 = .ok (.invokevirtual 253, 3) := by decide +kernel
theorem dX7_talk_86 : decode cX7_talk 86 = .ok (.pop, 1) := by decide +kernel
theorem dX7_talk_87 : decode cX7_talk 87 = .ok (.iinc 2 1, 3) := by decide +kernel
theorem dX7_talk_90 : decode cX7_talk 90 = .ok (.iinc 3 1, 3) := by decide +kernel
theorem dX7_talk_93 : decode cX7_talk 93 = .ok (.goto (-56), 3) := by decide +kernel
theorem dX7_talk_96 : decode cX7_talk 96 = .ok (.iload_n 2, 1) := by decide +kernel
theorem dX7_talk_97 : decode cX7_talk 97 = .ok (.ireturn, 1) := by decide +kernel
set_option maxRecDepth 20000 in
theorem ggX7_round_X7_goesRound : GoodIn wsX7_round wsX7_goesRound := goodIn_r _ [5, 6, 7, 8, 9, 10, 11, 12, 13, 14, 15, 4, 16, 17, 18, 19, 20, 21, 22, 23, 24, 25, 26, 27, 28, 29, 30, 31, 32, 33, 34, 35, 36, 45, 46, 47, 48, 49, 50, 51, 52, 53, 54, 55, 56, 57, 58, 59, 60, 61, 62, 63, 64, 65, 66, 67, 68, 69, 70, 71, 72, 73, 74, 75, 76, 77] (by decide +kernel) (by decide +kernel)
set_option maxRecDepth 20000 in
theorem gX7_round_X7_goesRound : GoodIn wsX7_round (wsV RX7 262 RX7 yX7_goesRound wsX7_goesRound) := goodIn_app (goodIn_of _ (by decide +kernel)) ggX7_round_X7_goesRound
set_option maxRecDepth 20000 in
theorem ggX7_round_X7_knownNow : GoodIn wsX7_round wsX7_knownNow := goodIn_r _ [40, 6, 41, 42, 43, 4, 44, 11, 22, 12, 34, 35, 36, 45, 46, 47, 48, 49, 50, 51, 52, 53, 54, 55, 56, 57, 58, 59, 60, 61, 62, 63, 64, 65, 66, 67, 68, 69, 70, 71, 72, 73, 74, 75, 76, 77] (by decide +kernel) (by decide +kernel)
set_option maxRecDepth 20000 in
theorem gX7_round_X7_knownNow : GoodIn wsX7_round (wsV RX7 257 RX7 yX7_knownNow wsX7_knownNow) := goodIn_app (goodIn_of _ (by decide +kernel)) ggX7_round_X7_knownNow
theorem dX7_round_0 : decode cX7_round 0 = .ok (.aload_n 0, 1) := by decide +kernel
theorem dX7_round_1 : decode cX7_round 1 = .ok (.invokevirtual 262, 3) := by decide +kernel
theorem dX7_round_4 : decode cX7_round 4 = .ok (.pop, 1) := by decide +kernel
theorem dX7_round_5 : decode cX7_round 5 = .ok (.aload_n 0, 1) := by decide +kernel
theorem dX7_round_6 : decode cX7_round 6 = .ok (.invokevirtual 257, 3) := by decide +kernel
theorem dX7_round_9 : decode cX7_round 9 = .ok (.ireturn, 1) := by decide +kernel
set_option maxRecDepth 20000 in
theorem ggX7_night_X7_firstOf : GoodIn wsX7_night wsX7_firstOf := goodIn_r _ [9, 10, 11, 8, 12] (by decide +kernel) (by decide +kernel)
set_option maxRecDepth 20000 in
theorem gX7_night_X7_firstOf : GoodIn wsX7_night (va_wsS RX7 127 yX7_firstOf wsX7_firstOf) := goodIn_app (goodIn_of _ (by decide +kernel)) ggX7_night_X7_firstOf
theorem dX7_night_0 : decode cX7_night 0 = .ok (.iconst 0, 1) := by decide +kernel
theorem dX7_night_1 : decode cX7_night 1 = .ok (.istore_n 1, 1) := by decide +kernel
theorem dX7_night_2 : decode cX7_night 2 = .ok (.iload_n 1, 1) := by decide +kernel
theorem dX7_night_3 : decode cX7_night 3 = .ok (.aload_n 0, 1) := by decide +kernel
theorem dX7_night_4 : decode cX7_night 4 = .ok (.getfield 77, 3) := by decide +kernel
theorem dX7_night_7 : decode cX7_night 7 = .ok (.if_icmp .ge 64, 3) := by decide +kernel
theorem dX7_night_10 : decode cX7_night 10 = .ok (.aload_n 0, 1) := by decide +kernel
theorem dX7_night_11 : decode cX7_night 11 = .ok (.getfield 41, 3) := by decide +kernel
theorem dX7_night_14 : decode cX7_night 14 = .ok (.iload_n 1, 1) := by decide +kernel
theorem dX7_night_15 : decode cX7_night 15 = .ok (.iaload, 1) := by decide +kernel
theorem dX7_night_16 : decode cX7_night 16 = .ok (.iconst 5, 1) := by decide +kernel
theorem dX7_night_17 : decode cX7_night 17 = .ok (.if_icmp .ne 15, 3) := by decide +kernel
theorem dX7_night_20 : decode cX7_night 20 = .ok (.aload_n 0, 1) := by decide +kernel
theorem dX7_night_21 : decode cX7_night 21 = .ok (.getfield 47, 3) := by decide +kernel
theorem dX7_night_24 : decode cX7_night 24 = .ok (.iload_n 1, 1) := by decide +kernel
theorem dX7_night_25 : decode cX7_night 25 = .ok (.iaload, 1) := by decide +kernel
theorem dX7_night_26 : decode cX7_night 26 = .ok (.invokestatic 127, 3) := by decide +kernel
theorem dX7_night_29 : decode cX7_night 29 = .ok (.goto 4, 3) := by decide +kernel
theorem dX7_night_32 : decode cX7_night 32 = .ok (.iconst (-1), 1) := by decide +kernel
theorem dX7_night_33 : decode cX7_night 33 = .ok (.istore_n 2, 1) := by decide +kernel
theorem dX7_night_34 : decode cX7_night 34 = .ok (.iload_n 2, 1) := by decide +kernel
theorem dX7_night_35 : decode cX7_night 35 = .ok (.iconst (-1), 1) := by decide +kernel
theorem dX7_night_36 : decode cX7_night 36 = .ok (.if_icmp .eq 29, 3) := by decide +kernel
theorem dX7_night_39 : decode cX7_night 39 = .ok (.aload_n 0, 1) := by decide +kernel
theorem dX7_night_40 : decode cX7_night 40 = .ok (.getfield 47, 3) := by decide +kernel
theorem dX7_night_43 : decode cX7_night 43 = .ok (.iload_n 1, 1) := by decide +kernel
theorem dX7_night_44 : decode cX7_night 44 = .ok (.dup2, 1) := by decide +kernel
theorem dX7_night_45 : decode cX7_night 45 = .ok (.iaload, 1) := by decide +kernel
theorem dX7_night_46 : decode cX7_night 46 = .ok (.iconst 1, 1) := by decide +kernel
theorem dX7_night_47 : decode cX7_night 47 = .ok (.iload_n 2, 1) := by decide +kernel
theorem dX7_night_48 : decode cX7_night 48 = .ok (.ishl, 1) := by decide +kernel
theorem dX7_night_49 : decode cX7_night 49 = .ok (.iconst (-1), 1) := by decide +kernel
theorem dX7_night_50 : decode cX7_night 50 = .ok (.ixor, 1) := by decide +kernel
theorem dX7_night_51 : decode cX7_night 51 = .ok (.iand, 1) := by decide +kernel
theorem dX7_night_52 : decode cX7_night 52 = .ok (.iastore, 1) := by decide +kernel
theorem dX7_night_53 : decode cX7_night 53 = .ok (.aload_n 0, 1) := by decide +kernel
theorem dX7_night_54 : decode cX7_night 54 = .ok (.getfield 53, 3) := by decide +kernel
theorem dX7_night_57 : decode cX7_night 57 = .ok (.iload_n 1, 1) := by decide +kernel
theorem dX7_night_58 : decode cX7_night 58 = .ok (.dup2, 1) := by decide +kernel
theorem dX7_night_59 : decode cX7_night 59 = .ok (.iaload, 1) := by decide +kernel
theorem dX7_night_60 : decode cX7_night 60 = .ok (.iconst 1, 1) := by decide +kernel
theorem dX7_night_61 : decode cX7_night 61 = .ok (.iload_n 2, 1) := by decide +kernel
theorem dX7_night_62 : decode cX7_night 62 = .ok (.ishl, 1) := by decide +kernel
theorem dX7_night_63 : decode cX7_night 63 = .ok (.ior, 1) := by decide +kernel
theorem dX7_night_64 : decode cX7_night 64 = .ok (.iastore, 1) := by decide +kernel
theorem dX7_night_65 : decode cX7_night 65 = .ok (.iinc 1 1, 3) := by decide +kernel
theorem dX7_night_68 : decode cX7_night 68 = .ok (.goto (-66), 3) := by decide +kernel
theorem dX7_night_71 : decode cX7_night 71 = .ok (.aload_n 0, 1) := by decide +kernel
theorem dX7_night_72 : decode cX7_night 72 = .ok (.dup, 1) := by decide +kernel
theorem dX7_night_73 : decode cX7_night 73 = .ok (.getfield 326, 3) := by decide +kernel
theorem dX7_night_76 : decode cX7_night 76 = .ok (.iconst 1, 1) := by decide +kernel
theorem dX7_night_77 : decode cX7_night 77 = .ok (.iadd, 1) := by decide +kernel
theorem dX7_night_78 : decode cX7_night 78 = .ok (.putfield 326, 3) := by decide +kernel
theorem dX7_night_81 : decode cX7_night 81 = .ok (.aload_n 0, 1) := by decide +kernel
theorem dX7_night_82 : decode cX7_night 82 = .ok (.getfield 326, 3) := by decide +kernel
theorem dX7_night_85 : decode cX7_night 85 = .ok (.ireturn, 1) := by decide +kernel
theorem dX7_seed_0 : decode cX7_seed 0 = .ok (.aload_n 0, 1) := by decide +kernel
theorem dX7_seed_1 : decode cX7_seed 1 = .ok (.getfield 62, 3) := by decide +kernel
theorem dX7_seed_4 : decode cX7_seed 4 = .ok (.istore_n 2, 1) := by decide +kernel
theorem dX7_seed_5 : decode cX7_seed 5 = .ok (.aload_n 0, 1) := by decide +kernel
theorem dX7_seed_6 : decode cX7_seed 6 = .ok (.iload_n 1, 1) := by decide +kernel
theorem dX7_seed_7 : decode cX7_seed 7 = .ok (.putfield 62, 3) := by decide +kernel
theorem dX7_seed_10 : decode cX7_seed 10 = .ok (.iload_n 2, 1) := by decide +kernel
theorem dX7_seed_11 : decode cX7_seed 11 = .ok (.ireturn, 1) := by decide +kernel
set_option maxRecDepth 20000 in
theorem ggX7_fresh_X7_init : GoodIn wsX7_fresh wsX7_init := goodIn_r _ [7, 8, 9, 10, 11, 12, 13, 14, 15, 16, 17, 18, 19, 20, 21, 22, 23, 24, 25, 26, 27, 28, 29, 30, 31, 32, 33, 34, 44, 45, 46, 47, 48, 49, 50, 51, 52, 53, 54, 55, 56, 57, 58, 59, 60, 61, 62, 63, 64, 65, 66, 67, 68, 69, 70, 71, 72, 73, 74, 75, 76] (by decide +kernel) (by decide +kernel)
set_option maxRecDepth 20000 in
theorem gX7_fresh_X7_init : GoodIn wsX7_fresh (wsX7_init) := ggX7_fresh_X7_init
set_option maxRecDepth 20000 in
theorem ggX7_fresh_X7_takeFrom : GoodIn wsX7_fresh wsX7_takeFrom := goodIn_r _ [38, 22, 39, 23, 24, 25, 26, 27, 28, 29, 40, 30, 41, 42, 4, 43, 44, 45, 46, 47, 48, 49, 50, 51, 52, 53, 54, 55, 56, 57, 58, 59, 60, 61, 62, 63, 64, 65, 66, 67, 68, 69, 70, 71, 72, 73, 74, 75, 76] (by decide +kernel) (by decide +kernel)
set_option maxRecDepth 20000 in
theorem gX7_fresh_X7_takeFrom : GoodIn wsX7_fresh (wsV RX7 243 RX7 yX7_takeFrom wsX7_takeFrom) := goodIn_app (goodIn_of _ (by decide +kernel)) ggX7_fresh_X7_takeFrom
theorem dX7_fresh_0 : decode cX7_fresh 0 = .ok (.aload_n 0, 1) := by decide +kernel
theorem dX7_fresh_1 : decode cX7_fresh 1 = .ok (.getfield 329, 3) := by decide +kernel
theorem dX7_fresh_4 : decode cX7_fresh 4 = .ok (.ifnonnull 14, 3) := by decide +kernel
theorem dX7_fresh_7 : decode cX7_fresh 7 = .ok (.aload_n 0, 1) := by decide +kernel
theorem dX7_fresh_8 : decode cX7_fresh 8 = .ok (.new 8, 3) := by decide +kernel
theorem dX7_fresh_11 : decode cX7_fresh 11 = .ok (.dup, 1) := by decide +kernel
theorem dX7_fresh_12 : decode cX7_fresh 12 = .ok (.invokespecial 333, 3) := by decide +kernel
theorem dX7_fresh_15 : decode cX7_fresh 15 = .ok (.putfield 329, 3) := by decide +kernel
theorem dX7_fresh_18 : decode cX7_fresh 18 = .ok (.aload_n 0, 1) := by decide +kernel
theorem dX7_fresh_19 : decode cX7_fresh 19 = .ok (.getfield 329, 3) := by decide +kernel
theorem dX7_fresh_22 : decode cX7_fresh 22 = .ok (.aload_n 0, 1) := by decide +kernel
theorem dX7_fresh_23 : decode cX7_fresh 23 = .ok (.invokevirtual 243, 3) := by decide +kernel
theorem dX7_fresh_26 : decode cX7_fresh 26 = .ok (.aload_n 0, 1) := by decide +kernel
theorem dX7_fresh_27 : decode cX7_fresh 27 = .ok (.getfield 329, 3) := by decide +kernel
theorem dX7_fresh_30 : decode cX7_fresh 30 = .ok (.areturn, 1) := by decide +kernel
theorem dX7_over_0 : decode cX7_over 0 = .ok (.iconst 0, 1) := by decide +kernel
theorem dX7_over_1 : decode cX7_over 1 = .ok (.istore_n 2, 1) := by decide +kernel
theorem dX7_over_2 : decode cX7_over 2 = .ok (.iload_n 2, 1) := by decide +kernel
theorem dX7_over_3 : decode cX7_over 3 = .ok (.aload_n 0, 1) := by decide +kernel
theorem dX7_over_4 : decode cX7_over 4 = .ok (.arraylength, 1) := by decide +kernel
theorem dX7_over_5 : decode cX7_over 5 = .ok (.if_icmp .ge 15, 3) := by decide +kernel
theorem dX7_over_8 : decode cX7_over 8 = .ok (.aload_n 1, 1) := by decide +kernel
theorem dX7_over_9 : decode cX7_over 9 = .ok (.iload_n 2, 1) := by decide +kernel
theorem dX7_over_10 : decode cX7_over 10 = .ok (.aload_n 0, 1) := by decide +kernel
theorem dX7_over_11 : decode cX7_over 11 = .ok (.iload_n 2, 1) := by decide +kernel
theorem dX7_over_12 : decode cX7_over 12 = .ok (.iaload, 1) := by decide +kernel
theorem dX7_over_13 : decode cX7_over 13 = .ok (.iastore, 1) := by decide +kernel
theorem dX7_over_14 : decode cX7_over 14 = .ok (.iinc 2 1, 3) := by decide +kernel
theorem dX7_over_17 : decode cX7_over 17 = .ok (.goto (-15), 3) := by decide +kernel
theorem dX7_over_20 : decode cX7_over 20 = .ok (.return_, 1) := by decide +kernel
set_option maxRecDepth 20000 in
theorem ggX7_takeFrom_X7_over : GoodIn wsX7_takeFrom wsX7_over := goodIn_r _ [15] (by decide +kernel) (by decide +kernel)
set_option maxRecDepth 20000 in
theorem gX7_takeFrom_X7_over : GoodIn wsX7_takeFrom (va_wsS RX7 334 yX7_over wsX7_over) := goodIn_app (goodIn_of _ (by decide +kernel)) ggX7_takeFrom_X7_over
theorem dX7_takeFrom_0 : decode cX7_takeFrom 0 = .ok (.aload_n 0, 1) := by decide +kernel
theorem dX7_takeFrom_1 : decode cX7_takeFrom 1 = .ok (.aload_n 1, 1) := by decide +kernel
theorem dX7_takeFrom_2 : decode cX7_takeFrom 2 = .ok (.getfield 37, 3) := by decide +kernel
theorem dX7_takeFrom_5 : decode cX7_takeFrom 5 = .ok (.putfield 37, 3) := by decide +kernel
theorem dX7_takeFrom_8 : decode cX7_takeFrom 8 = .ok (.aload_n 0, 1) := by decide +kernel
theorem dX7_takeFrom_9 : decode cX7_takeFrom 9 = .ok (.aload_n 1, 1) := by decide +kernel
theorem dX7_takeFrom_10 : decode cX7_takeFrom 10 = .ok (.getfield 77, 3) := by decide +kernel
theorem dX7_takeFrom_13 : decode cX7_takeFrom 13 = .ok (.putfield 77, 3) := by decide +kernel
theorem dX7_takeFrom_16 : decode cX7_takeFrom 16 = .ok (.aload_n 1, 1) := by decide +kernel
theorem dX7_takeFrom_17 : decode cX7_takeFrom 17 = .ok (.getfield 41, 3) := by decide +kernel
theorem dX7_takeFrom_20 : decode cX7_takeFrom 20 = .ok (.aload_n 0, 1) := by decide +kernel
theorem dX7_takeFrom_21 : decode cX7_takeFrom 21 = .ok (.getfield 41, 3) := by decide +kernel
theorem dX7_takeFrom_24 : decode cX7_takeFrom 24 = .ok (.invokestatic 334, 3) := by decide +kernel
theorem dX7_takeFrom_27 : decode cX7_takeFrom 27 = .ok (.aload_n 1, 1) := by decide +kernel
theorem dX7_takeFrom_28 : decode cX7_takeFrom 28 = .ok (.getfield 44, 3) := by decide +kernel
theorem dX7_takeFrom_31 : decode cX7_takeFrom 31 = .ok (.aload_n 0, 1) := by decide +kernel
theorem dX7_takeFrom_32 : decode cX7_takeFrom 32 = .ok (.getfield 44, 3) := by decide +kernel
theorem dX7_takeFrom_35 : decode cX7_takeFrom 35 = .ok (.invokestatic 334, 3) := by decide +kernel
theorem dX7_takeFrom_38 : decode cX7_takeFrom 38 = .ok (.aload_n 1, 1) := by decide +kernel
theorem dX7_takeFrom_39 : decode cX7_takeFrom 39 = .ok (.getfield 47, 3) := by decide +kernel
theorem dX7_takeFrom_42 : decode cX7_takeFrom 42 = .ok (.aload_n 0, 1) := by decide +kernel
theorem dX7_takeFrom_43 : decode cX7_takeFrom 43 = .ok (.getfield 47, 3) := by decide +kernel
theorem dX7_takeFrom_46 : decode cX7_takeFrom 46 = .ok (.invokestatic 334, 3) := by decide +kernel
theorem dX7_takeFrom_49 : decode cX7_takeFrom 49 = .ok (.aload_n 1, 1) := by decide +kernel
theorem dX7_takeFrom_50 : decode cX7_takeFrom 50 = .ok (.getfield 50, 3) := by decide +kernel
theorem dX7_takeFrom_53 : decode cX7_takeFrom 53 = .ok (.aload_n 0, 1) := by decide +kernel
theorem dX7_takeFrom_54 : decode cX7_takeFrom 54 = .ok (.getfield 50, 3) := by decide +kernel
theorem dX7_takeFrom_57 : decode cX7_takeFrom 57 = .ok (.invokestatic 334, 3) := by decide +kernel
theorem dX7_takeFrom_60 : decode cX7_takeFrom 60 = .ok (.aload_n 1, 1) := by decide +kernel
theorem dX7_takeFrom_61 : decode cX7_takeFrom 61 = .ok (.getfield 53, 3) := by decide +kernel
theorem dX7_takeFrom_64 : decode cX7_takeFrom 64 = .ok (.aload_n 0, 1) := by decide +kernel
theorem dX7_takeFrom_65 : decode cX7_takeFrom 65 = .ok (.getfield 53, 3) := by decide +kernel
theorem dX7_takeFrom_68 : decode cX7_takeFrom 68 = .ok (.invokestatic 334, 3) := by decide +kernel
theorem dX7_takeFrom_71 : decode cX7_takeFrom 71 = .ok (.aload_n 1, 1) := by decide +kernel
theorem dX7_takeFrom_72 : decode cX7_takeFrom 72 = .ok (.getfield 56, 3) := by decide +kernel
theorem dX7_takeFrom_75 : decode cX7_takeFrom 75 = .ok (.aload_n 0, 1) := by decide +kernel
theorem dX7_takeFrom_76 : decode cX7_takeFrom 76 = .ok (.getfield 56, 3) := by decide +kernel
theorem dX7_takeFrom_79 : decode cX7_takeFrom 79 = .ok (.invokestatic 334, 3) := by decide +kernel
theorem dX7_takeFrom_82 : decode cX7_takeFrom 82 = .ok (.aload_n 1, 1) := by decide +kernel
theorem dX7_takeFrom_83 : decode cX7_takeFrom 83 = .ok (.getfield 59, 3) := by decide +kernel
theorem dX7_takeFrom_86 : decode cX7_takeFrom 86 = .ok (.aload_n 0, 1) := by decide +kernel
theorem dX7_takeFrom_87 : decode cX7_takeFrom 87 = .ok (.getfield 59, 3) := by decide +kernel
theorem dX7_takeFrom_90 : decode cX7_takeFrom 90 = .ok (.invokestatic 334, 3) := by decide +kernel
theorem dX7_takeFrom_93 : decode cX7_takeFrom 93 = .ok (.aload_n 0, 1) := by decide +kernel
theorem dX7_takeFrom_94 : decode cX7_takeFrom 94 = .ok (.aload_n 1, 1) := by decide +kernel
theorem dX7_takeFrom_95 : decode cX7_takeFrom 95 = .ok (.getfield 326, 3) := by decide +kernel
theorem dX7_takeFrom_98 : decode cX7_takeFrom 98 = .ok (.putfield 326, 3) := by decide +kernel
theorem dX7_takeFrom_101 : decode cX7_takeFrom 101 = .ok (.aload_n 0, 1) := by decide +kernel
theorem dX7_takeFrom_102 : decode cX7_takeFrom 102 = .ok (.aload_n 1, 1) := by decide +kernel
theorem dX7_takeFrom_103 : decode cX7_takeFrom 103 = .ok (.getfield 62, 3) := by decide +kernel
theorem dX7_takeFrom_106 : decode cX7_takeFrom 106 = .ok (.putfield 62, 3) := by decide +kernel
theorem dX7_takeFrom_109 : decode cX7_takeFrom 109 = .ok (.return_, 1) := by decide +kernel
set_option maxRecDepth 20000 in
theorem ggX7_image_X7_init : GoodIn wsX7_image wsX7_init := goodIn_r _ [7, 8, 9, 10, 11, 12, 13, 14, 15, 16, 17, 18, 19, 20, 21, 22, 23, 24, 25, 26, 27, 28, 29, 30, 31, 32, 33, 34, 44, 45, 46, 47, 48, 49, 50, 51, 52, 53, 54, 55, 56, 57, 58, 59, 60, 61, 62, 63, 64, 65, 66, 67, 68, 69, 70, 71, 72, 73, 74, 75, 76] (by decide +kernel) (by decide +kernel)
set_option maxRecDepth 20000 in
theorem gX7_image_X7_init : GoodIn wsX7_image (wsX7_init) := ggX7_image_X7_init
set_option maxRecDepth 20000 in
theorem ggX7_image_X7_takeFrom : GoodIn wsX7_image wsX7_takeFrom := goodIn_r _ [38, 22, 39, 23, 24, 25, 26, 27, 28, 29, 40, 30, 41, 42, 4, 43, 44, 45, 46, 47, 48, 49, 50, 51, 52, 53, 54, 55, 56, 57, 58, 59, 60, 61, 62, 63, 64, 65, 66, 67, 68, 69, 70, 71, 72, 73, 74, 75, 76] (by decide +kernel) (by decide +kernel)
set_option maxRecDepth 20000 in
theorem gX7_image_X7_takeFrom : GoodIn wsX7_image (wsV RX7 243 RX7 yX7_takeFrom wsX7_takeFrom) := goodIn_app (goodIn_of _ (by decide +kernel)) ggX7_image_X7_takeFrom
theorem dX7_image_0 : decode cX7_image 0 = .ok (.aload_n 0, 1) := by decide +kernel
theorem dX7_image_1 : decode cX7_image 1 = .ok (.getfield 338, 3) := by decide +kernel
theorem dX7_image_4 : decode cX7_image 4 = .ok (.ifnonnull 14, 3) := by decide +kernel
theorem dX7_image_7 : decode cX7_image 7 = .ok (.aload_n 0, 1) := by decide +kernel
theorem dX7_image_8 : decode cX7_image 8 = .ok (.new 8, 3) := by decide +kernel
theorem dX7_image_11 : decode cX7_image 11 = .ok (.dup, 1) := by decide +kernel
theorem dX7_image_12 : decode cX7_image 12 = .ok (.invokespecial 333, 3) := by decide +kernel
theorem dX7_image_15 : decode cX7_image 15 = .ok (.putfield 338, 3) := by decide +kernel
theorem dX7_image_18 : decode cX7_image 18 = .ok (.aload_n 0, 1) := by decide +kernel
theorem dX7_image_19 : decode cX7_image 19 = .ok (.getfield 338, 3) := by decide +kernel
theorem dX7_image_22 : decode cX7_image 22 = .ok (.aload_n 0, 1) := by decide +kernel
theorem dX7_image_23 : decode cX7_image 23 = .ok (.invokevirtual 243, 3) := by decide +kernel
theorem dX7_image_26 : decode cX7_image 26 = .ok (.iconst 1, 1) := by decide +kernel
theorem dX7_image_27 : decode cX7_image 27 = .ok (.ireturn, 1) := by decide +kernel
set_option maxRecDepth 20000 in
theorem ggX7_back_X7_refuse : GoodIn wsX7_back wsX7_refuse := goodIn_r _ [9, 10, 28, 29, 30, 31, 32, 33, 34, 35, 36, 37, 38, 39, 40, 41, 42, 43, 44, 45, 46, 47, 48, 49, 50, 51, 52, 53, 54, 55, 56, 57, 58, 59, 60] (by decide +kernel) (by decide +kernel)
set_option maxRecDepth 20000 in
theorem gX7_back_X7_refuse : GoodIn wsX7_back (wsV RX7 94 RX7 yX7_refuse wsX7_refuse) := goodIn_app (goodIn_of _ (by decide +kernel)) ggX7_back_X7_refuse
set_option maxRecDepth 20000 in
theorem ggX7_back_X7_takeFrom : GoodIn wsX7_back wsX7_takeFrom := goodIn_r _ [14, 15, 4, 16, 17, 18, 19, 20, 21, 22, 23, 24, 25, 26, 8, 27, 28, 29, 30, 31, 32, 33, 34, 35, 36, 37, 38, 39, 40, 41, 42, 43, 44, 45, 46, 47, 48, 49, 50, 51, 52, 53, 54, 55, 56, 57, 58, 59, 60] (by decide +kernel) (by decide +kernel)
set_option maxRecDepth 20000 in
theorem gX7_back_X7_takeFrom : GoodIn wsX7_back (wsV RX7 243 RX7 yX7_takeFrom wsX7_takeFrom) := goodIn_app (goodIn_of _ (by decide +kernel)) ggX7_back_X7_takeFrom
theorem dX7_back_0 : decode cX7_back 0 = .ok (.aload_n 0, 1) := by decide +kernel
theorem dX7_back_1 : decode cX7_back 1 = .ok (.getfield 338, 3) := by decide +kernel
theorem dX7_back_4 : decode cX7_back 4 = .ok (.ifnonnull 10, 3) := by decide +kernel
theorem dX7_back_7 : decode cX7_back 7 = .ok (.aload_n 0, 1) := by decide +kernel
theorem dX7_back_8 : decode cX7_back 8 = .ok (.bipush (-5), 2) := by decide +kernel
theorem dX7_back_10 : decode cX7_back 10 = .ok (.invokevirtual 94, 3) := by decide +kernel
theorem dX7_back_13 : decode cX7_back 13 = .ok (.ireturn, 1) := by decide +kernel
theorem dX7_back_14 : decode cX7_back 14 = .ok (.aload_n 0, 1) := by decide +kernel
theorem dX7_back_15 : decode cX7_back 15 = .ok (.aload_n 0, 1) := by decide +kernel
theorem dX7_back_16 : decode cX7_back 16 = .ok (.getfield 338, 3) := by decide +kernel
theorem dX7_back_19 : decode cX7_back 19 = .ok (.invokevirtual 243, 3) := by decide +kernel
theorem dX7_back_22 : decode cX7_back 22 = .ok (.iconst 0, 1) := by decide +kernel
theorem dX7_back_23 : decode cX7_back 23 = .ok (.istore_n 1, 1) := by decide +kernel
theorem dX7_back_24 : decode cX7_back 24 = .ok (.iload_n 1, 1) := by decide +kernel
theorem dX7_back_25 : decode cX7_back 25 = .ok (.bipush 8, 2) := by decide +kernel
theorem dX7_back_27 : decode cX7_back 27 = .ok (.if_icmp .ge 39, 3) := by decide +kernel
theorem dX7_back_30 : decode cX7_back 30 = .ok (.aload_n 0, 1) := by decide +kernel
theorem dX7_back_31 : decode cX7_back 31 = .ok (.getfield 7, 3) := by decide +kernel
theorem dX7_back_34 : decode cX7_back 34 = .ok (.iload_n 1, 1) := by decide +kernel
theorem dX7_back_35 : decode cX7_back 35 = .ok (.iaload, 1) := by decide +kernel
theorem dX7_back_36 : decode cX7_back 36 = .ok (.iconst 2, 1) := by decide +kernel
theorem dX7_back_37 : decode cX7_back 37 = .ok (.if_icmp .ne 23, 3) := by decide +kernel
theorem dX7_back_40 : decode cX7_back 40 = .ok (.aload_n 0, 1) := by decide +kernel
theorem dX7_back_41 : decode cX7_back 41 = .ok (.getfield 28, 3) := by decide +kernel
theorem dX7_back_44 : decode cX7_back 44 = .ok (.iload_n 1, 1) := by decide +kernel
theorem dX7_back_45 : decode cX7_back 45 = .ok (.iaload, 1) := by decide +kernel
theorem dX7_back_46 : decode cX7_back 46 = .ok (.aload_n 0, 1) := by decide +kernel
theorem dX7_back_47 : decode cX7_back 47 = .ok (.getfield 77, 3) := by decide +kernel
theorem dX7_back_50 : decode cX7_back 50 = .ok (.if_icmp .lt 10, 3) := by decide +kernel
theorem dX7_back_53 : decode cX7_back 53 = .ok (.aload_n 0, 1) := by decide +kernel
theorem dX7_back_54 : decode cX7_back 54 = .ok (.getfield 7, 3) := by decide +kernel
theorem dX7_back_57 : decode cX7_back 57 = .ok (.iload_n 1, 1) := by decide +kernel
theorem dX7_back_58 : decode cX7_back 58 = .ok (.iconst 0, 1) := by decide +kernel
theorem dX7_back_59 : decode cX7_back 59 = .ok (.iastore, 1) := by decide +kernel
theorem dX7_back_60 : decode cX7_back 60 = .ok (.iinc 1 1, 3) := by decide +kernel
theorem dX7_back_63 : decode cX7_back 63 = .ok (.goto (-39), 3) := by decide +kernel
theorem dX7_back_66 : decode cX7_back 66 = .ok (.iconst 1, 1) := by decide +kernel
theorem dX7_back_67 : decode cX7_back 67 = .ok (.ireturn, 1) := by decide +kernel
set_option maxRecDepth 20000 in
theorem ggX7_status_X7_knownNow : GoodIn wsX7_status wsX7_knownNow := goodIn_r _ [15, 2, 16, 17, 18, 14, 19, 20, 21, 22, 23, 24, 25, 37, 38, 39, 40, 41, 42, 43, 44, 45, 46, 47, 48, 49, 50, 51, 52, 53, 54, 55, 56, 57, 58, 59, 60, 61, 62, 63, 64, 65, 66, 67, 68, 69] (by decide +kernel) (by decide +kernel)
set_option maxRecDepth 20000 in
theorem gX7_status_X7_knownNow : GoodIn wsX7_status (wsV RX7 257 RX7 yX7_knownNow wsX7_knownNow) := goodIn_app (goodIn_of _ (by decide +kernel)) ggX7_status_X7_knownNow
set_option maxRecDepth 20000 in
theorem ggX7_status_X7_pairsNow : GoodIn wsX7_status wsX7_pairsNow := goodIn_r _ [29, 2, 30, 31, 32, 14, 33, 37, 38, 39, 40, 41, 42, 43, 44, 45, 46, 47, 48, 49, 50, 51, 52, 53, 54, 55, 56, 57, 58, 59, 60, 61, 62, 63, 64, 65, 66, 67, 68, 69] (by decide +kernel) (by decide +kernel)
set_option maxRecDepth 20000 in
theorem gX7_status_X7_pairsNow : GoodIn wsX7_status (wsV RX7 293 RX7 yX7_pairsNow wsX7_pairsNow) := goodIn_app (goodIn_of _ (by decide +kernel)) ggX7_status_X7_pairsNow
set_option maxRecDepth 20000 in
theorem ggX7_status_X7_in : GoodIn wsX7_status wsX7_in := goodIn_r _ [36] (by decide +kernel) (by decide +kernel)
set_option maxRecDepth 20000 in
theorem gX7_status_X7_in : GoodIn wsX7_status (va_wsS RX7 80 yX7_in wsX7_in) := goodIn_app (goodIn_of _ (by decide +kernel)) ggX7_status_X7_in
theorem dX7_status_0 : decode cX7_status 0 = .ok (.iconst 0, 1) := by decide +kernel
theorem dX7_status_1 : decode cX7_status 1 = .ok (.istore_n 2, 1) := by decide +kernel
theorem dX7_status_2 : decode cX7_status 2 = .ok (.iload_n 1, 1) := by decide +kernel
theorem dX7_status_3 : decode cX7_status 3 = .ok (.tableswitch 134 0 10 #[57, 62, 67, 67, 67, 76, 81, 86, 91, 124, 129], 57) := by decide +kernel
theorem dX7_status_60 : decode cX7_status 60 = .ok (.aload_n 0, 1) := by decide +kernel
theorem dX7_status_61 : decode cX7_status 61 = .ok (.getfield 37, 3) := by decide +kernel
theorem dX7_status_64 : decode cX7_status 64 = .ok (.ireturn, 1) := by decide +kernel
theorem dX7_status_65 : decode cX7_status 65 = .ok (.aload_n 0, 1) := by decide +kernel
theorem dX7_status_66 : decode cX7_status 66 = .ok (.getfield 77, 3) := by decide +kernel
theorem dX7_status_69 : decode cX7_status 69 = .ok (.ireturn, 1) := by decide +kernel
theorem dX7_status_70 : decode cX7_status 70 = .ok (.aload_n 0, 1) := by decide +kernel
theorem dX7_status_71 : decode cX7_status 71 = .ok (.getfield 59, 3) := by decide +kernel
theorem dX7_status_74 : decode cX7_status 74 = .ok (.iload_n 1, 1) := by decide +kernel
theorem dX7_status_75 : decode cX7_status 75 = .ok (.iconst 2, 1) := by decide +kernel
theorem dX7_status_76 : decode cX7_status 76 = .ok (.isub, 1) := by decide +kernel
theorem dX7_status_77 : decode cX7_status 77 = .ok (.iaload, 1) := by decide +kernel
theorem dX7_status_78 : decode cX7_status 78 = .ok (.ireturn, 1) := by decide +kernel
theorem dX7_status_79 : decode cX7_status 79 = .ok (.aload_n 0, 1) := by decide +kernel
theorem dX7_status_80 : decode cX7_status 80 = .ok (.getfield 326, 3) := by decide +kernel
theorem dX7_status_83 : decode cX7_status 83 = .ok (.ireturn, 1) := by decide +kernel
theorem dX7_status_84 : decode cX7_status 84 = .ok (.aload_n 0, 1) := by decide +kernel
theorem dX7_status_85 : decode cX7_status 85 = .ok (.getfield 152, 3) := by decide +kernel
theorem dX7_status_88 : decode cX7_status 88 = .ok (.ireturn, 1) := by decide +kernel
theorem dX7_status_89 : decode cX7_status 89 = .ok (.aload_n 0, 1) := by decide +kernel
theorem dX7_status_90 : decode cX7_status 90 = .ok (.getfield 62, 3) := by decide +kernel
theorem dX7_status_93 : decode cX7_status 93 = .ok (.ireturn, 1) := by decide +kernel
theorem dX7_status_94 : decode cX7_status 94 = .ok (.iconst 0, 1) := by decide +kernel
theorem dX7_status_95 : decode cX7_status 95 = .ok (.istore_n 3, 1) := by decide +kernel
theorem dX7_status_96 : decode cX7_status 96 = .ok (.iload_n 3, 1) := by decide +kernel
theorem dX7_status_97 : decode cX7_status 97 = .ok (.bipush 8, 2) := by decide +kernel
theorem dX7_status_99 : decode cX7_status 99 = .ok (.if_icmp .ge 26, 3) := by decide +kernel
theorem dX7_status_102 : decode cX7_status 102 = .ok (.iload_n 2, 1) := by decide +kernel
theorem dX7_status_103 : decode cX7_status 103 = .ok (.aload_n 0, 1) := by decide +kernel
theorem dX7_status_104 : decode cX7_status 104 = .ok (.getfield 7, 3) := by decide +kernel
theorem dX7_status_107 : decode cX7_status 107 = .ok (.iload_n 3, 1) := by decide +kernel
theorem dX7_status_108 : decode cX7_status 108 = .ok (.iaload, 1) := by decide +kernel
theorem dX7_status_109 : decode cX7_status 109 = .ok (.ifCond .eq 7, 3) := by decide +kernel
theorem dX7_status_112 : decode cX7_status 112 = .ok (.iconst 1, 1) := by decide +kernel
theorem dX7_status_113 : decode cX7_status 113 = .ok (.goto 4, 3) := by decide +kernel
theorem dX7_status_116 : decode cX7_status 116 = .ok (.iconst 0, 1) := by decide +kernel
theorem dX7_status_117 : decode cX7_status 117 = .ok (.iadd, 1) := by decide +kernel
theorem dX7_status_118 : decode cX7_status 118 = .ok (.istore_n 2, 1) := by decide +kernel
theorem dX7_status_119 : decode cX7_status 119 = .ok (.iinc 3 1, 3) := by decide +kernel
theorem dX7_status_122 : decode cX7_status 122 = .ok (.goto (-26), 3) := by decide +kernel
theorem dX7_status_125 : decode cX7_status 125 = .ok (.iload_n 2, 1) := by decide +kernel
theorem dX7_status_126 : decode cX7_status 126 = .ok (.ireturn, 1) := by decide +kernel
theorem dX7_status_127 : decode cX7_status 127 = .ok (.aload_n 0, 1) := by decide +kernel
theorem dX7_status_128 : decode cX7_status 128 = .ok (.invokevirtual 257, 3) := by decide +kernel
theorem dX7_status_131 : decode cX7_status 131 = .ok (.ireturn, 1) := by decide +kernel
theorem dX7_status_132 : decode cX7_status 132 = .ok (.aload_n 0, 1) := by decide +kernel
theorem dX7_status_133 : decode cX7_status 133 = .ok (.invokevirtual 293, 3) := by decide +kernel
theorem dX7_status_136 : decode cX7_status 136 = .ok (.ireturn, 1) := by decide +kernel
theorem dX7_status_137 : decode cX7_status 137 = .ok (.iload_n 1, 1) := by decide +kernel
theorem dX7_status_138 : decode cX7_status 138 = .ok (.i2l, 1) := by decide +kernel
theorem dX7_status_139 : decode cX7_status 139 = .ok (.ldc2_w 341, 3) := by decide +kernel
theorem dX7_status_142 : decode cX7_status 142 = .ok (.ldc2_w 343, 3) := by decide +kernel
theorem dX7_status_145 : decode cX7_status 145 = .ok (.invokestatic 80, 3) := by decide +kernel
theorem dX7_status_148 : decode cX7_status 148 = .ok (.ifCond .eq 15, 3) := by decide +kernel
theorem dX7_status_151 : decode cX7_status 151 = .ok (.aload_n 0, 1) := by decide +kernel
theorem dX7_status_152 : decode cX7_status 152 = .ok (.getfield 34, 3) := by decide +kernel
theorem dX7_status_155 : decode cX7_status 155 = .ok (.iload_n 1, 1) := by decide +kernel
theorem dX7_status_156 : decode cX7_status 156 = .ok (.bipush 10, 2) := by decide +kernel
theorem dX7_status_158 : decode cX7_status 158 = .ok (.isub, 1) := by decide +kernel
theorem dX7_status_159 : decode cX7_status 159 = .ok (.iaload, 1) := by decide +kernel
theorem dX7_status_160 : decode cX7_status 160 = .ok (.goto 4, 3) := by decide +kernel
theorem dX7_status_163 : decode cX7_status 163 = .ok (.iconst (-1), 1) := by decide +kernel
theorem dX7_status_164 : decode cX7_status 164 = .ok (.ireturn, 1) := by decide +kernel
theorem dJ6_bitCount_0f7a4_0 : decode cJ6_bitCount_0f7a4 0 = .ok (.iload_n 0, 1) := by decide +kernel
theorem dJ6_bitCount_0f7a4_1 : decode cJ6_bitCount_0f7a4 1 = .ok (.iload_n 0, 1) := by decide +kernel
theorem dJ6_bitCount_0f7a4_2 : decode cJ6_bitCount_0f7a4 2 = .ok (.iconst 1, 1) := by decide +kernel
theorem dJ6_bitCount_0f7a4_3 : decode cJ6_bitCount_0f7a4 3 = .ok (.iushr, 1) := by decide +kernel
theorem dJ6_bitCount_0f7a4_4 : decode cJ6_bitCount_0f7a4 4 = .ok (.ldc_w 265, 3) := by decide +kernel
theorem dJ6_bitCount_0f7a4_7 : decode cJ6_bitCount_0f7a4 7 = .ok (.iand, 1) := by decide +kernel
theorem dJ6_bitCount_0f7a4_8 : decode cJ6_bitCount_0f7a4 8 = .ok (.isub, 1) := by decide +kernel
theorem dJ6_bitCount_0f7a4_9 : decode cJ6_bitCount_0f7a4 9 = .ok (.istore_n 0, 1) := by decide +kernel
theorem dJ6_bitCount_0f7a4_10 : decode cJ6_bitCount_0f7a4 10 = .ok (.iload_n 0, 1) := by decide +kernel
theorem dJ6_bitCount_0f7a4_11 : decode cJ6_bitCount_0f7a4 11 = .ok (.ldc_w 266, 3) := by decide +kernel
theorem dJ6_bitCount_0f7a4_14 : decode cJ6_bitCount_0f7a4 14 = .ok (.iand, 1) := by decide +kernel
theorem dJ6_bitCount_0f7a4_15 : decode cJ6_bitCount_0f7a4 15 = .ok (.iload_n 0, 1) := by decide +kernel
theorem dJ6_bitCount_0f7a4_16 : decode cJ6_bitCount_0f7a4 16 = .ok (.iconst 2, 1) := by decide +kernel
theorem dJ6_bitCount_0f7a4_17 : decode cJ6_bitCount_0f7a4 17 = .ok (.iushr, 1) := by decide +kernel
theorem dJ6_bitCount_0f7a4_18 : decode cJ6_bitCount_0f7a4 18 = .ok (.ldc_w 266, 3) := by decide +kernel
theorem dJ6_bitCount_0f7a4_21 : decode cJ6_bitCount_0f7a4 21 = .ok (.iand, 1) := by decide +kernel
theorem dJ6_bitCount_0f7a4_22 : decode cJ6_bitCount_0f7a4 22 = .ok (.iadd, 1) := by decide +kernel
theorem dJ6_bitCount_0f7a4_23 : decode cJ6_bitCount_0f7a4 23 = .ok (.istore_n 0, 1) := by decide +kernel
theorem dJ6_bitCount_0f7a4_24 : decode cJ6_bitCount_0f7a4 24 = .ok (.iload_n 0, 1) := by decide +kernel
theorem dJ6_bitCount_0f7a4_25 : decode cJ6_bitCount_0f7a4 25 = .ok (.iload_n 0, 1) := by decide +kernel
theorem dJ6_bitCount_0f7a4_26 : decode cJ6_bitCount_0f7a4 26 = .ok (.iconst 4, 1) := by decide +kernel
theorem dJ6_bitCount_0f7a4_27 : decode cJ6_bitCount_0f7a4 27 = .ok (.iushr, 1) := by decide +kernel
theorem dJ6_bitCount_0f7a4_28 : decode cJ6_bitCount_0f7a4 28 = .ok (.iadd, 1) := by decide +kernel
theorem dJ6_bitCount_0f7a4_29 : decode cJ6_bitCount_0f7a4 29 = .ok (.ldc_w 267, 3) := by decide +kernel
theorem dJ6_bitCount_0f7a4_32 : decode cJ6_bitCount_0f7a4 32 = .ok (.iand, 1) := by decide +kernel
theorem dJ6_bitCount_0f7a4_33 : decode cJ6_bitCount_0f7a4 33 = .ok (.istore_n 0, 1) := by decide +kernel
theorem dJ6_bitCount_0f7a4_34 : decode cJ6_bitCount_0f7a4 34 = .ok (.iload_n 0, 1) := by decide +kernel
theorem dJ6_bitCount_0f7a4_35 : decode cJ6_bitCount_0f7a4 35 = .ok (.iload_n 0, 1) := by decide +kernel
theorem dJ6_bitCount_0f7a4_36 : decode cJ6_bitCount_0f7a4 36 = .ok (.bipush 8, 2) := by decide +kernel
theorem dJ6_bitCount_0f7a4_38 : decode cJ6_bitCount_0f7a4 38 = .ok (.iushr, 1) := by decide +kernel
theorem dJ6_bitCount_0f7a4_39 : decode cJ6_bitCount_0f7a4 39 = .ok (.iadd, 1) := by decide +kernel
theorem dJ6_bitCount_0f7a4_40 : decode cJ6_bitCount_0f7a4 40 = .ok (.istore_n 0, 1) := by decide +kernel
theorem dJ6_bitCount_0f7a4_41 : decode cJ6_bitCount_0f7a4 41 = .ok (.iload_n 0, 1) := by decide +kernel
theorem dJ6_bitCount_0f7a4_42 : decode cJ6_bitCount_0f7a4 42 = .ok (.iload_n 0, 1) := by decide +kernel
theorem dJ6_bitCount_0f7a4_43 : decode cJ6_bitCount_0f7a4 43 = .ok (.bipush 16, 2) := by decide +kernel
theorem dJ6_bitCount_0f7a4_45 : decode cJ6_bitCount_0f7a4 45 = .ok (.iushr, 1) := by decide +kernel
theorem dJ6_bitCount_0f7a4_46 : decode cJ6_bitCount_0f7a4 46 = .ok (.iadd, 1) := by decide +kernel
theorem dJ6_bitCount_0f7a4_47 : decode cJ6_bitCount_0f7a4 47 = .ok (.istore_n 0, 1) := by decide +kernel
theorem dJ6_bitCount_0f7a4_48 : decode cJ6_bitCount_0f7a4 48 = .ok (.iload_n 0, 1) := by decide +kernel
theorem dJ6_bitCount_0f7a4_49 : decode cJ6_bitCount_0f7a4 49 = .ok (.bipush 63, 2) := by decide +kernel
theorem dJ6_bitCount_0f7a4_51 : decode cJ6_bitCount_0f7a4 51 = .ok (.iand, 1) := by decide +kernel
theorem dJ6_bitCount_0f7a4_52 : decode cJ6_bitCount_0f7a4 52 = .ok (.ireturn, 1) := by decide +kernel
set_option maxRecDepth 20000 in
theorem ggJ0_length_8abf5_J0_coder_7d493 : GoodIn wsJ0_length_8abf5 wsJ0_coder_7d493 := goodIn_r _ [6, 7, 8] (by decide +kernel) (by decide +kernel)
set_option maxRecDepth 20000 in
theorem gJ0_length_8abf5_J0_coder_7d493 : GoodIn wsJ0_length_8abf5 (wsV RJ0 335 RJ0 yJ0_coder_7d493 wsJ0_coder_7d493) := goodIn_app (goodIn_of _ (by decide +kernel)) ggJ0_length_8abf5_J0_coder_7d493
theorem dJ0_length_8abf5_0 : decode cJ0_length_8abf5 0 = .ok (.aload_n 0, 1) := by decide +kernel
theorem dJ0_length_8abf5_1 : decode cJ0_length_8abf5 1 = .ok (.getfield 9, 3) := by decide +kernel
theorem dJ0_length_8abf5_4 : decode cJ0_length_8abf5 4 = .ok (.arraylength, 1) := by decide +kernel
theorem dJ0_length_8abf5_5 : decode cJ0_length_8abf5 5 = .ok (.aload_n 0, 1) := by decide +kernel
theorem dJ0_length_8abf5_6 : decode cJ0_length_8abf5 6 = .ok (.invokevirtual 335, 3) := by decide +kernel
theorem dJ0_length_8abf5_9 : decode cJ0_length_8abf5 9 = .ok (.ishr, 1) := by decide +kernel
theorem dJ0_length_8abf5_10 : decode cJ0_length_8abf5 10 = .ok (.ireturn, 1) := by decide +kernel
set_option maxRecDepth 20000 in
theorem ggJ0_charAt_5068e_J0_isLatin1_aae02 : GoodIn wsJ0_charAt_5068e wsJ0_isLatin1_aae02 := goodIn_r _ [6, 7, 8] (by decide +kernel) (by decide +kernel)
set_option maxRecDepth 20000 in
theorem gJ0_charAt_5068e_J0_isLatin1_aae02 : GoodIn wsJ0_charAt_5068e (wsV RJ0 492 RJ0 yJ0_isLatin1_aae02 wsJ0_isLatin1_aae02) := goodIn_app (goodIn_of _ (by decide +kernel)) ggJ0_charAt_5068e_J0_isLatin1_aae02
set_option maxRecDepth 20000 in
theorem ggJ0_charAt_5068e_J1_charAt_3b067 : GoodIn wsJ0_charAt_5068e wsJ1_charAt_3b067 := goodIn_r _ [12, 13, 14, 5, 15, 16, 17, 18, 19, 20] (by decide +kernel) (by decide +kernel)
set_option maxRecDepth 20000 in
theorem gJ0_charAt_5068e_J1_charAt_3b067 : GoodIn wsJ0_charAt_5068e (va_wsS RJ0 495 yJ1_charAt_3b067 wsJ1_charAt_3b067) := goodIn_app (goodIn_of _ (by decide +kernel)) ggJ0_charAt_5068e_J1_charAt_3b067
set_option maxRecDepth 20000 in
theorem ggJ0_charAt_5068e_J2_charAt_3b067 : GoodIn wsJ0_charAt_5068e wsJ2_charAt_3b067 := goodIn_r _ [24, 25, 26, 23, 27, 28, 29, 30, 31, 14, 5, 15, 16, 17, 18, 19, 20, 32, 33, 34, 35, 36, 37] (by decide +kernel) (by decide +kernel)
set_option maxRecDepth 20000 in
theorem gJ0_charAt_5068e_J2_charAt_3b067 : GoodIn wsJ0_charAt_5068e (va_wsS RJ0 498 yJ2_charAt_3b067 wsJ2_charAt_3b067) := goodIn_app (goodIn_of _ (by decide +kernel)) ggJ0_charAt_5068e_J2_charAt_3b067
theorem dJ0_charAt_5068e_0 : decode cJ0_charAt_5068e 0 = .ok (.aload_n 0, 1) := by decide +kernel
theorem dJ0_charAt_5068e_1 : decode cJ0_charAt_5068e 1 = .ok (.invokevirtual 492, 3) := by decide +kernel
theorem dJ0_charAt_5068e_4 : decode cJ0_charAt_5068e 4 = .ok (.ifCond .eq 12, 3) := by decide +kernel
theorem dJ0_charAt_5068e_7 : decode cJ0_charAt_5068e 7 = .ok (.aload_n 0, 1) := by decide +kernel
theorem dJ0_charAt_5068e_8 : decode cJ0_charAt_5068e 8 = .ok (.getfield 9, 3) := by decide +kernel
theorem dJ0_charAt_5068e_11 : decode cJ0_charAt_5068e 11 = .ok (.iload_n 1, 1) := by decide +kernel
theorem dJ0_charAt_5068e_12 : decode cJ0_charAt_5068e 12 = .ok (.invokestatic 495, 3) := by decide +kernel
theorem dJ0_charAt_5068e_15 : decode cJ0_charAt_5068e 15 = .ok (.ireturn, 1) := by decide +kernel
theorem dJ0_charAt_5068e_16 : decode cJ0_charAt_5068e 16 = .ok (.aload_n 0, 1) := by decide +kernel
theorem dJ0_charAt_5068e_17 : decode cJ0_charAt_5068e 17 = .ok (.getfield 9, 3) := by decide +kernel
theorem dJ0_charAt_5068e_20 : decode cJ0_charAt_5068e 20 = .ok (.iload_n 1, 1) := by decide +kernel
theorem dJ0_charAt_5068e_21 : decode cJ0_charAt_5068e 21 = .ok (.invokestatic 498, 3) := by decide +kernel
theorem dJ0_charAt_5068e_24 : decode cJ0_charAt_5068e 24 = .ok (.ireturn, 1) := by decide +kernel
theorem dJ0_coder_7d493_0 : decode cJ0_coder_7d493 0 = .ok (.getstatic 38, 3) := by decide +kernel
theorem dJ0_coder_7d493_3 : decode cJ0_coder_7d493 3 = .ok (.ifCond .eq 10, 3) := by decide +kernel
theorem dJ0_coder_7d493_6 : decode cJ0_coder_7d493 6 = .ok (.aload_n 0, 1) := by decide +kernel
theorem dJ0_coder_7d493_7 : decode cJ0_coder_7d493 7 = .ok (.getfield 15, 3) := by decide +kernel
theorem dJ0_coder_7d493_10 : decode cJ0_coder_7d493 10 = .ok (.goto 4, 3) := by decide +kernel
theorem dJ0_coder_7d493_13 : decode cJ0_coder_7d493 13 = .ok (.iconst 1, 1) := by decide +kernel
theorem dJ0_coder_7d493_14 : decode cJ0_coder_7d493 14 = .ok (.ireturn, 1) := by decide +kernel
theorem dJ0_isLatin1_aae02_0 : decode cJ0_isLatin1_aae02 0 = .ok (.getstatic 38, 3) := by decide +kernel
theorem dJ0_isLatin1_aae02_3 : decode cJ0_isLatin1_aae02 3 = .ok (.ifCond .eq 14, 3) := by decide +kernel
theorem dJ0_isLatin1_aae02_6 : decode cJ0_isLatin1_aae02 6 = .ok (.aload_n 0, 1) := by decide +kernel
theorem dJ0_isLatin1_aae02_7 : decode cJ0_isLatin1_aae02 7 = .ok (.getfield 15, 3) := by decide +kernel
theorem dJ0_isLatin1_aae02_10 : decode cJ0_isLatin1_aae02 10 = .ok (.ifCond .ne 7, 3) := by decide +kernel
theorem dJ0_isLatin1_aae02_13 : decode cJ0_isLatin1_aae02 13 = .ok (.iconst 1, 1) := by decide +kernel
theorem dJ0_isLatin1_aae02_14 : decode cJ0_isLatin1_aae02 14 = .ok (.goto 4, 3) := by decide +kernel
theorem dJ0_isLatin1_aae02_17 : decode cJ0_isLatin1_aae02 17 = .ok (.iconst 0, 1) := by decide +kernel
theorem dJ0_isLatin1_aae02_18 : decode cJ0_isLatin1_aae02 18 = .ok (.ireturn, 1) := by decide +kernel
set_option maxRecDepth 20000 in
theorem ggJ0_checkIndex_df160_J3_checkIndex_8e157 : GoodIn wsJ0_checkIndex_df160 wsJ3_checkIndex_8e157 := goodIn_r _ [5] (by decide +kernel) (by decide +kernel)
set_option maxRecDepth 20000 in
theorem gJ0_checkIndex_df160_J3_checkIndex_8e157 : GoodIn wsJ0_checkIndex_df160 (va_wsS RJ0 1059 yJ3_checkIndex_8e157 wsJ3_checkIndex_8e157) := goodIn_app (goodIn_of _ (by decide +kernel)) ggJ0_checkIndex_df160_J3_checkIndex_8e157
theorem dJ0_checkIndex_df160_0 : decode cJ0_checkIndex_df160 0 = .ok (.iload_n 0, 1) := by decide +kernel
theorem dJ0_checkIndex_df160_1 : decode cJ0_checkIndex_df160 1 = .ok (.iload_n 1, 1) := by decide +kernel
theorem dJ0_checkIndex_df160_2 : decode cJ0_checkIndex_df160 2 = .ok (.getstatic 1053, 3) := by decide +kernel
theorem dJ0_checkIndex_df160_5 : decode cJ0_checkIndex_df160 5 = .ok (.invokestatic 1059, 3) := by decide +kernel
theorem dJ0_checkIndex_df160_8 : decode cJ0_checkIndex_df160 8 = .ok (.pop, 1) := by decide +kernel
theorem dJ0_checkIndex_df160_9 : decode cJ0_checkIndex_df160 9 = .ok (.return_, 1) := by decide +kernel
set_option maxRecDepth 20000 in
theorem ggJ1_charAt_3b067_J0_checkIndex_df160 : GoodIn wsJ1_charAt_3b067 wsJ0_checkIndex_df160 := goodIn_r _ [4, 5, 6, 7, 8, 9] (by decide +kernel) (by decide +kernel)
set_option maxRecDepth 20000 in
theorem gJ1_charAt_3b067_J0_checkIndex_df160 : GoodIn wsJ1_charAt_3b067 (va_wsS RJ1 9 yJ0_checkIndex_df160 wsJ0_checkIndex_df160) := goodIn_app (goodIn_of _ (by decide +kernel)) ggJ1_charAt_3b067_J0_checkIndex_df160
theorem dJ1_charAt_3b067_0 : decode cJ1_charAt_3b067 0 = .ok (.iload_n 1, 1) := by decide +kernel
theorem dJ1_charAt_3b067_1 : decode cJ1_charAt_3b067 1 = .ok (.aload_n 0, 1) := by decide +kernel
theorem dJ1_charAt_3b067_2 : decode cJ1_charAt_3b067 2 = .ok (.arraylength, 1) := by decide +kernel
theorem dJ1_charAt_3b067_3 : decode cJ1_charAt_3b067 3 = .ok (.invokestatic 9, 3) := by decide +kernel
theorem dJ1_charAt_3b067_6 : decode cJ1_charAt_3b067 6 = .ok (.aload_n 0, 1) := by decide +kernel
theorem dJ1_charAt_3b067_7 : decode cJ1_charAt_3b067 7 = .ok (.iload_n 1, 1) := by decide +kernel
theorem dJ1_charAt_3b067_8 : decode cJ1_charAt_3b067 8 = .ok (.baload, 1) := by decide +kernel
theorem dJ1_charAt_3b067_9 : decode cJ1_charAt_3b067 9 = .ok (.sipush 255, 3) := by decide +kernel
theorem dJ1_charAt_3b067_12 : decode cJ1_charAt_3b067 12 = .ok (.iand, 1) := by decide +kernel
theorem dJ1_charAt_3b067_13 : decode cJ1_charAt_3b067 13 = .ok (.i2c, 1) := by decide +kernel
theorem dJ1_charAt_3b067_14 : decode cJ1_charAt_3b067 14 = .ok (.ireturn, 1) := by decide +kernel
set_option maxRecDepth 20000 in
theorem ggJ2_getChar_3b067_J2_length_9d52b : GoodIn wsJ2_getChar_3b067 wsJ2_length_9d52b := goodIn_r _ [7] (by decide +kernel) (by decide +kernel)
set_option maxRecDepth 20000 in
theorem gJ2_getChar_3b067_J2_length_9d52b : GoodIn wsJ2_getChar_3b067 (va_wsS RJ2 48 yJ2_length_9d52b wsJ2_length_9d52b) := goodIn_app (goodIn_of _ (by decide +kernel)) ggJ2_getChar_3b067_J2_length_9d52b
theorem dJ2_getChar_3b067_0 : decode cJ2_getChar_3b067 0 = .ok (.getstatic 44, 3) := by decide +kernel
theorem dJ2_getChar_3b067_3 : decode cJ2_getChar_3b067 3 = .ok (.ifCond .ne 25, 3) := by decide +kernel
theorem dJ2_getChar_3b067_6 : decode cJ2_getChar_3b067 6 = .ok (.iload_n 1, 1) := by decide +kernel
theorem dJ2_getChar_3b067_7 : decode cJ2_getChar_3b067 7 = .ok (.ifCond .lt 11, 3) := by decide +kernel
theorem dJ2_getChar_3b067_10 : decode cJ2_getChar_3b067 10 = .ok (.iload_n 1, 1) := by decide +kernel
theorem dJ2_getChar_3b067_11 : decode cJ2_getChar_3b067 11 = .ok (.aload_n 0, 1) := by decide +kernel
theorem dJ2_getChar_3b067_12 : decode cJ2_getChar_3b067 12 = .ok (.invokestatic 48, 3) := by decide +kernel
theorem dJ2_getChar_3b067_15 : decode cJ2_getChar_3b067 15 = .ok (.if_icmp .lt 13, 3) := by decide +kernel
theorem dJ2_getChar_3b067_18 : decode cJ2_getChar_3b067 18 = .ok (.new 52, 3) := by decide +kernel
theorem dJ2_getChar_3b067_21 : decode cJ2_getChar_3b067 21 = .ok (.dup, 1) := by decide +kernel
theorem dJ2_getChar_3b067_22 : decode cJ2_getChar_3b067 22 = .ok (.ldc 54, 2) := by decide +kernel
theorem dJ2_getChar_3b067_24 : decode cJ2_getChar_3b067 24 = .ok (.invokespecial 56, 3) := by decide +kernel
theorem dJ2_getChar_3b067_27 : decode cJ2_getChar_3b067 27 = .ok (.athrow, 1) := by decide +kernel
theorem dJ2_getChar_3b067_28 : decode cJ2_getChar_3b067 28 = .ok (.iload_n 1, 1) := by decide +kernel
theorem dJ2_getChar_3b067_29 : decode cJ2_getChar_3b067 29 = .ok (.iconst 1, 1) := by decide +kernel
theorem dJ2_getChar_3b067_30 : decode cJ2_getChar_3b067 30 = .ok (.ishl, 1) := by decide +kernel
theorem dJ2_getChar_3b067_31 : decode cJ2_getChar_3b067 31 = .ok (.istore_n 1, 1) := by decide +kernel
theorem dJ2_getChar_3b067_32 : decode cJ2_getChar_3b067 32 = .ok (.aload_n 0, 1) := by decide +kernel
theorem dJ2_getChar_3b067_33 : decode cJ2_getChar_3b067 33 = .ok (.iload_n 1, 1) := by decide +kernel
theorem dJ2_getChar_3b067_34 : decode cJ2_getChar_3b067 34 = .ok (.iinc 1 1, 3) := by decide +kernel
theorem dJ2_getChar_3b067_37 : decode cJ2_getChar_3b067 37 = .ok (.baload, 1) := by decide +kernel
theorem dJ2_getChar_3b067_38 : decode cJ2_getChar_3b067 38 = .ok (.sipush 255, 3) := by decide +kernel
theorem dJ2_getChar_3b067_41 : decode cJ2_getChar_3b067 41 = .ok (.iand, 1) := by decide +kernel
theorem dJ2_getChar_3b067_42 : decode cJ2_getChar_3b067 42 = .ok (.getstatic 59, 3) := by decide +kernel
theorem dJ2_getChar_3b067_45 : decode cJ2_getChar_3b067 45 = .ok (.ishl, 1) := by decide +kernel
theorem dJ2_getChar_3b067_46 : decode cJ2_getChar_3b067 46 = .ok (.aload_n 0, 1) := by decide +kernel
theorem dJ2_getChar_3b067_47 : decode cJ2_getChar_3b067 47 = .ok (.iload_n 1, 1) := by decide +kernel
theorem dJ2_getChar_3b067_48 : decode cJ2_getChar_3b067 48 = .ok (.baload, 1) := by decide +kernel
theorem dJ2_getChar_3b067_49 : decode cJ2_getChar_3b067 49 = .ok (.sipush 255, 3) := by decide +kernel
theorem dJ2_getChar_3b067_52 : decode cJ2_getChar_3b067 52 = .ok (.iand, 1) := by decide +kernel
theorem dJ2_getChar_3b067_53 : decode cJ2_getChar_3b067 53 = .ok (.getstatic 63, 3) := by decide +kernel
theorem dJ2_getChar_3b067_56 : decode cJ2_getChar_3b067 56 = .ok (.ishl, 1) := by decide +kernel
theorem dJ2_getChar_3b067_57 : decode cJ2_getChar_3b067 57 = .ok (.ior, 1) := by decide +kernel
theorem dJ2_getChar_3b067_58 : decode cJ2_getChar_3b067 58 = .ok (.i2c, 1) := by decide +kernel
theorem dJ2_getChar_3b067_59 : decode cJ2_getChar_3b067 59 = .ok (.ireturn, 1) := by decide +kernel
theorem dJ2_length_9d52b_0 : decode cJ2_length_9d52b 0 = .ok (.aload_n 0, 1) := by decide +kernel
theorem dJ2_length_9d52b_1 : decode cJ2_length_9d52b 1 = .ok (.arraylength, 1) := by decide +kernel
theorem dJ2_length_9d52b_2 : decode cJ2_length_9d52b 2 = .ok (.iconst 1, 1) := by decide +kernel
theorem dJ2_length_9d52b_3 : decode cJ2_length_9d52b 3 = .ok (.ishr, 1) := by decide +kernel
theorem dJ2_length_9d52b_4 : decode cJ2_length_9d52b 4 = .ok (.ireturn, 1) := by decide +kernel
set_option maxRecDepth 20000 in
theorem ggJ2_charAt_3b067_J2_checkIndex_2214a : GoodIn wsJ2_charAt_3b067 wsJ2_checkIndex_2214a := goodIn_r _ [4, 5, 6, 3, 7, 8, 9, 10, 11, 12, 13, 14, 15, 16] (by decide +kernel) (by decide +kernel)
set_option maxRecDepth 20000 in
theorem gJ2_charAt_3b067_J2_checkIndex_2214a : GoodIn wsJ2_charAt_3b067 (va_wsS RJ2 67 yJ2_checkIndex_2214a wsJ2_checkIndex_2214a) := goodIn_app (goodIn_of _ (by decide +kernel)) ggJ2_charAt_3b067_J2_checkIndex_2214a
set_option maxRecDepth 20000 in
theorem ggJ2_charAt_3b067_J2_getChar_3b067 : GoodIn wsJ2_charAt_3b067 wsJ2_getChar_3b067 := goodIn_r _ [19, 20, 21, 22, 5, 6, 3, 7] (by decide +kernel) (by decide +kernel)
set_option maxRecDepth 20000 in
theorem gJ2_charAt_3b067_J2_getChar_3b067 : GoodIn wsJ2_charAt_3b067 (va_wsS RJ2 71 yJ2_getChar_3b067 wsJ2_getChar_3b067) := goodIn_app (goodIn_of _ (by decide +kernel)) ggJ2_charAt_3b067_J2_getChar_3b067
theorem dJ2_charAt_3b067_0 : decode cJ2_charAt_3b067 0 = .ok (.iload_n 1, 1) := by decide +kernel
theorem dJ2_charAt_3b067_1 : decode cJ2_charAt_3b067 1 = .ok (.aload_n 0, 1) := by decide +kernel
theorem dJ2_charAt_3b067_2 : decode cJ2_charAt_3b067 2 = .ok (.invokestatic 67, 3) := by decide +kernel
theorem dJ2_charAt_3b067_5 : decode cJ2_charAt_3b067 5 = .ok (.aload_n 0, 1) := by decide +kernel
theorem dJ2_charAt_3b067_6 : decode cJ2_charAt_3b067 6 = .ok (.iload_n 1, 1) := by decide +kernel
theorem dJ2_charAt_3b067_7 : decode cJ2_charAt_3b067 7 = .ok (.invokestatic 71, 3) := by decide +kernel
theorem dJ2_charAt_3b067_10 : decode cJ2_charAt_3b067 10 = .ok (.ireturn, 1) := by decide +kernel
set_option maxRecDepth 20000 in
theorem ggJ2_checkIndex_2214a_J2_length_9d52b : GoodIn wsJ2_checkIndex_2214a wsJ2_length_9d52b := goodIn_r _ [4] (by decide +kernel) (by decide +kernel)
set_option maxRecDepth 20000 in
theorem gJ2_checkIndex_2214a_J2_length_9d52b : GoodIn wsJ2_checkIndex_2214a (va_wsS RJ2 48 yJ2_length_9d52b wsJ2_length_9d52b) := goodIn_app (goodIn_of _ (by decide +kernel)) ggJ2_checkIndex_2214a_J2_length_9d52b
set_option maxRecDepth 20000 in
theorem ggJ2_checkIndex_2214a_J0_checkIndex_df160 : GoodIn wsJ2_checkIndex_2214a wsJ0_checkIndex_df160 := goodIn_r _ [8, 9, 10, 11, 12, 13] (by decide +kernel) (by decide +kernel)
set_option maxRecDepth 20000 in
theorem gJ2_checkIndex_2214a_J0_checkIndex_df160 : GoodIn wsJ2_checkIndex_2214a (va_wsS RJ2 414 yJ0_checkIndex_df160 wsJ0_checkIndex_df160) := goodIn_app (goodIn_of _ (by decide +kernel)) ggJ2_checkIndex_2214a_J0_checkIndex_df160
theorem dJ2_checkIndex_2214a_0 : decode cJ2_checkIndex_2214a 0 = .ok (.iload_n 0, 1) := by decide +kernel
theorem dJ2_checkIndex_2214a_1 : decode cJ2_checkIndex_2214a 1 = .ok (.aload_n 1, 1) := by decide +kernel
theorem dJ2_checkIndex_2214a_2 : decode cJ2_checkIndex_2214a 2 = .ok (.invokestatic 48, 3) := by decide +kernel
theorem dJ2_checkIndex_2214a_5 : decode cJ2_checkIndex_2214a 5 = .ok (.invokestatic 414, 3) := by decide +kernel
theorem dJ2_checkIndex_2214a_8 : decode cJ2_checkIndex_2214a 8 = .ok (.return_, 1) := by decide +kernel
theorem dJ3_checkIndex_8e157_0 : decode cJ3_checkIndex_8e157 0 = .ok (.iload_n 0, 1) := by decide +kernel
theorem dJ3_checkIndex_8e157_1 : decode cJ3_checkIndex_8e157 1 = .ok (.ifCond .lt 8, 3) := by decide +kernel
theorem dJ3_checkIndex_8e157_4 : decode cJ3_checkIndex_8e157 4 = .ok (.iload_n 0, 1) := by decide +kernel
theorem dJ3_checkIndex_8e157_5 : decode cJ3_checkIndex_8e157 5 = .ok (.iload_n 1, 1) := by decide +kernel
theorem dJ3_checkIndex_8e157_6 : decode cJ3_checkIndex_8e157 6 = .ok (.if_icmp .lt 10, 3) := by decide +kernel
theorem dJ3_checkIndex_8e157_9 : decode cJ3_checkIndex_8e157 9 = .ok (.aload_n 2, 1) := by decide +kernel
theorem dJ3_checkIndex_8e157_10 : decode cJ3_checkIndex_8e157 10 = .ok (.iload_n 0, 1) := by decide +kernel
theorem dJ3_checkIndex_8e157_11 : decode cJ3_checkIndex_8e157 11 = .ok (.iload_n 1, 1) := by decide +kernel
theorem dJ3_checkIndex_8e157_12 : decode cJ3_checkIndex_8e157 12 = .ok (.invokestatic 95, 3) := by decide +kernel
theorem dJ3_checkIndex_8e157_15 : decode cJ3_checkIndex_8e157 15 = .ok (.athrow, 1) := by decide +kernel
theorem dJ3_checkIndex_8e157_16 : decode cJ3_checkIndex_8e157 16 = .ok (.iload_n 0, 1) := by decide +kernel
theorem dJ3_checkIndex_8e157_17 : decode cJ3_checkIndex_8e157 17 = .ok (.ireturn, 1) := by decide +kernel
set_option maxRecDepth 20000 in
theorem ggL_law_X6_init : GoodIn wsL_law wsX6_init := goodIn_r _ [9, 10, 11, 12, 13, 14, 15, 16, 17, 18, 19, 20, 21, 22, 23, 24, 25, 26, 27, 28, 29, 30, 31, 32, 33, 34, 35, 36, 37, 38, 39, 40, 41, 42, 43, 44, 45, 46, 47, 48, 49, 50, 51, 52, 53, 54, 55, 56, 57, 58, 59, 60, 61, 62, 63, 64, 65, 66, 67, 68, 69, 70, 71, 72, 73, 74, 75, 76, 77, 78, 79, 80, 81, 82, 83, 84, 85, 86, 87, 88, 89, 90, 91, 92, 93, 94, 95, 96, 97, 98, 99, 100, 1390, 1391, 1392, 1393, 1394, 1395, 1396, 1397, 1398, 1399, 1400, 1401, 1402, 1403, 1347, 1348, 1349, 1350, 1351, 1352, 1353, 1354, 1355, 1356, 1404, 1405, 1406, 1407, 1408, 1409, 1410, 1411, 1412, 1413, 1414, 1415, 1416, 1417, 1418, 1419, 1420, 1421, 1422, 1423, 1424] (by decide +kernel) (by decide +kernel)
set_option maxRecDepth 20000 in
theorem gL_law_X6_init : GoodIn wsL_law (wsX6_init) := ggL_law_X6_init
set_option maxRecDepth 20000 in
theorem ggL_law_X7_init : GoodIn wsL_law wsX7_init := goodIn_r _ [103, 104, 11, 12, 39, 105, 106, 107, 108, 65, 109, 110, 111, 112, 113, 114, 115, 116, 117, 118, 119, 120, 121, 122, 123, 124, 125, 126, 1357, 1358, 1359, 1360, 1361, 1362, 1363, 1364, 1365, 1366, 1367, 1368, 1369, 1370, 1371, 1372, 1373, 1374, 1375, 1376, 1377, 1378, 1379, 1380, 1381, 1382, 1383, 1384, 1385, 1386, 1387, 1388, 1389] (by decide +kernel) (by decide +kernel)
set_option maxRecDepth 20000 in
theorem gL_law_X7_init : GoodIn wsL_law (wsX7_init) := ggL_law_X7_init
set_option maxRecDepth 20000 in
theorem ggL_law_X6_row : GoodIn wsL_law wsX6_row := goodIn_r _ [130, 22, 131, 132, 2, 133, 134, 135, 136, 137, 138, 139, 140, 40, 141, 142, 143, 21, 144, 62, 63, 66, 1347, 1348, 1349, 1350, 1351, 1352, 1353, 1354, 1355, 1356, 1404, 1405, 1406] (by decide +kernel) (by decide +kernel)
set_option maxRecDepth 20000 in
theorem gL_law_X6_row : GoodIn wsL_law (wsV RL 13 RX6 yX6_row wsX6_row) := goodIn_app (goodIn_of _ (by decide +kernel)) ggL_law_X6_row
set_option maxRecDepth 20000 in
theorem ggL_law_X7_row : GoodIn wsL_law wsX7_row := goodIn_r _ [148, 149, 150, 151, 105, 106, 107, 109, 152, 153, 5, 154, 155, 156, 157, 158, 113, 1357, 1358, 1359, 1360, 1361, 1362, 1363, 1364, 1365, 1366, 1367, 1368, 1369, 1370, 1371, 1372, 1373, 1374, 1375, 1376, 1377, 1378, 1379, 1380, 1381, 1382, 1383, 1384, 1385, 1386, 1387, 1388, 1389] (by decide +kernel) (by decide +kernel)
set_option maxRecDepth 20000 in
theorem gL_law_X7_row : GoodIn wsL_law (wsV RL 17 RX7 yX7_row wsX7_row) := goodIn_app (goodIn_of _ (by decide +kernel)) ggL_law_X7_row
set_option maxRecDepth 20000 in
theorem ggL_law_X6_set : GoodIn wsL_law wsX6_set := goodIn_r _ [162, 22, 163, 164, 165, 21, 166, 62, 63, 132, 2, 133, 134, 135, 136, 137, 138, 139, 140, 40, 167, 168, 169, 170, 171, 172, 173, 174, 66, 175, 176, 177, 1347, 1348, 1349, 1350, 1351, 1352, 1353, 1354, 1355, 1356, 1404, 1405, 1406] (by decide +kernel) (by decide +kernel)
set_option maxRecDepth 20000 in
theorem gL_law_X6_set : GoodIn wsL_law (wsV RL 20 RX6 yX6_set wsX6_set) := goodIn_app (goodIn_of _ (by decide +kernel)) ggL_law_X6_set
set_option maxRecDepth 20000 in
theorem ggL_law_X7_set : GoodIn wsL_law wsX7_set := goodIn_r _ [181, 107, 109, 106, 182, 183, 184, 5, 185, 149, 105, 152, 153, 154, 155, 156, 157, 158, 113, 186, 187, 188, 1357, 1358, 1359, 1360, 1361, 1362, 1363, 1364, 1365, 1366, 1367, 1368, 1369, 1370, 1371, 1372, 1373, 1374, 1375, 1376, 1377, 1378, 1379, 1380, 1381, 1382, 1383, 1384, 1385, 1386, 1387, 1388, 1389] (by decide +kernel) (by decide +kernel)
set_option maxRecDepth 20000 in
theorem gL_law_X7_set : GoodIn wsL_law (wsV RL 24 RX7 yX7_set wsX7_set) := goodIn_app (goodIn_of _ (by decide +kernel)) ggL_law_X7_set
set_option maxRecDepth 20000 in
theorem ggL_law_X6_copy : GoodIn wsL_law wsX6_copy := goodIn_r _ [192, 22, 193, 194, 195, 21, 196, 62, 132, 2, 133, 134, 135, 136, 137, 138, 139, 140, 40, 167, 168, 169, 170, 63, 197, 198, 199, 200, 201, 202, 203, 66, 204, 205, 206, 207, 1347, 1348, 1349, 1350, 1351, 1352, 1353, 1354, 1355, 1356, 1404, 1405, 1406] (by decide +kernel) (by decide +kernel)
set_option maxRecDepth 20000 in
theorem gL_law_X6_copy : GoodIn wsL_law (wsV RL 25 RX6 yX6_copy wsX6_copy) := goodIn_app (goodIn_of _ (by decide +kernel)) ggL_law_X6_copy
set_option maxRecDepth 20000 in
theorem ggL_law_X7_copy : GoodIn wsL_law wsX7_copy := goodIn_r _ [211, 149, 105, 106, 107, 110, 109, 152, 153, 5, 154, 155, 156, 157, 158, 113, 1357, 1358, 1359, 1360, 1361, 1362, 1363, 1364, 1365, 1366, 1367, 1368, 1369, 1370, 1371, 1372, 1373, 1374, 1375, 1376, 1377, 1378, 1379, 1380, 1381, 1382, 1383, 1384, 1385, 1386, 1387, 1388, 1389] (by decide +kernel) (by decide +kernel)
set_option maxRecDepth 20000 in
theorem gL_law_X7_copy : GoodIn wsL_law (wsV RL 29 RX7 yX7_copy wsX7_copy) := goodIn_app (goodIn_of _ (by decide +kernel)) ggL_law_X7_copy
set_option maxRecDepth 20000 in
theorem ggL_law_X6_element : GoodIn wsL_law wsX6_element := goodIn_r _ [215, 22, 216, 217, 218, 21, 219, 63, 66, 132, 2, 133, 134, 135, 136, 1347, 1348, 1349, 1350, 1351, 1352, 1353, 1354, 1355, 1356, 1404, 1405, 1406] (by decide +kernel) (by decide +kernel)
set_option maxRecDepth 20000 in
theorem gL_law_X6_element : GoodIn wsL_law (wsV RL 30 RX6 yX6_element wsX6_element) := goodIn_app (goodIn_of _ (by decide +kernel)) ggL_law_X6_element
set_option maxRecDepth 20000 in
theorem ggL_law_X7_element : GoodIn wsL_law wsX7_element := goodIn_r _ [223, 149, 105, 107, 109, 152, 153, 5, 154, 1357, 1358, 1359, 1360, 1361, 1362, 1363, 1364, 1365, 1366, 1367, 1368, 1369, 1370, 1371, 1372, 1373, 1374, 1375, 1376, 1377, 1378, 1379, 1380, 1381, 1382, 1383, 1384, 1385, 1386, 1387, 1388, 1389] (by decide +kernel) (by decide +kernel)
set_option maxRecDepth 20000 in
theorem gL_law_X7_element : GoodIn wsL_law (wsV RL 34 RX7 yX7_element wsX7_element) := goodIn_app (goodIn_of _ (by decide +kernel)) ggL_law_X7_element
set_option maxRecDepth 20000 in
theorem ggL_law_X6_holds : GoodIn wsL_law wsX6_holds := goodIn_r _ [227, 22, 228, 229, 230, 21, 231, 62, 132, 2, 133, 134, 135, 136, 1347, 1348, 1349, 1350, 1351, 1352, 1353, 1354, 1355, 1356, 1404, 1405, 1406] (by decide +kernel) (by decide +kernel)
set_option maxRecDepth 20000 in
theorem gL_law_X6_holds : GoodIn wsL_law (wsV RL 35 RX6 yX6_holds wsX6_holds) := goodIn_app (goodIn_of _ (by decide +kernel)) ggL_law_X6_holds
set_option maxRecDepth 20000 in
theorem ggL_law_X7_holds : GoodIn wsL_law wsX7_holds := goodIn_r _ [235, 149, 105, 106, 111, 152, 153, 5, 154, 1357, 1358, 1359, 1360, 1361, 1362, 1363, 1364, 1365, 1366, 1367, 1368, 1369, 1370, 1371, 1372, 1373, 1374, 1375, 1376, 1377, 1378, 1379, 1380, 1381, 1382, 1383, 1384, 1385, 1386, 1387, 1388, 1389] (by decide +kernel) (by decide +kernel)
set_option maxRecDepth 20000 in
theorem gL_law_X7_holds : GoodIn wsL_law (wsV RL 39 RX7 yX7_holds wsX7_holds) := goodIn_app (goodIn_of _ (by decide +kernel)) ggL_law_X7_holds
set_option maxRecDepth 20000 in
theorem ggL_law_X6_show : GoodIn wsL_law wsX6_show := goodIn_r _ [239, 16, 22, 131, 132, 2, 133, 134, 135, 136, 240, 241, 242, 15, 243, 46, 137, 138, 139, 140, 40, 244, 245, 246, 21, 247, 62, 63, 1347, 1348, 1349, 1350, 1351, 1352, 1353, 1354, 1355, 1356, 1390, 1391, 1392, 1393, 1394, 1395, 1396, 1397, 1398, 1399, 1400, 1401, 1402, 1403, 1404, 1405, 1406] (by decide +kernel) (by decide +kernel)
set_option maxRecDepth 20000 in
theorem gL_law_X6_show : GoodIn wsL_law (wsV RL 40 RX6 yX6_show wsX6_show) := goodIn_app (goodIn_of _ (by decide +kernel)) ggL_law_X6_show
set_option maxRecDepth 20000 in
theorem ggL_law_X7_show : GoodIn wsL_law wsX7_show := goodIn_r _ [251, 149, 105, 111, 152, 153, 5, 154, 252, 253, 254, 255, 256, 155, 156, 157, 158, 113, 1357, 1358, 1359, 1360, 1361, 1362, 1363, 1364, 1365, 1366, 1367, 1368, 1369, 1370, 1371, 1372, 1373, 1374, 1375, 1376, 1377, 1378, 1379, 1380, 1381, 1382, 1383, 1384, 1385, 1386, 1387, 1388, 1389] (by decide +kernel) (by decide +kernel)
set_option maxRecDepth 20000 in
theorem gL_law_X7_show : GoodIn wsL_law (wsV RL 44 RX7 yX7_show wsX7_show) := goodIn_app (goodIn_of _ (by decide +kernel)) ggL_law_X7_show
set_option maxRecDepth 20000 in
theorem ggL_law_X6_says : GoodIn wsL_law wsX6_says := goodIn_r _ [260, 22, 16, 131, 132, 2, 133, 134, 135, 136, 261, 262, 263, 137, 138, 139, 140, 40, 228, 229, 230, 21, 231, 62, 240, 241, 242, 15, 243, 46, 264, 265, 266, 267, 56, 268, 269, 270, 271, 55, 45, 54, 52, 272, 273, 274, 275, 276, 277, 278, 279, 280, 281, 282, 47, 53, 283, 284, 285, 286, 287, 288, 289, 290, 291, 49, 292, 293, 294, 295, 296, 297, 298, 299, 300, 301, 1347, 1348, 1349, 1350, 1351, 1352, 1353, 1354, 1355, 1356, 1404, 1405, 1406, 1390, 1391, 1392, 1393, 1394, 1395, 1396, 1397, 1398, 1399, 1400, 1401, 1402, 1403] (by decide +kernel) (by decide +kernel)
set_option maxRecDepth 20000 in
theorem gL_law_X6_says : GoodIn wsL_law (wsV RL 45 RX6 yX6_says wsX6_says) := goodIn_app (goodIn_of _ (by decide +kernel)) ggL_law_X6_says
set_option maxRecDepth 20000 in
theorem ggL_law_X7_says : GoodIn wsL_law wsX7_says := goodIn_r _ [305, 149, 306, 105, 115, 111, 120, 119, 117, 152, 153, 5, 154, 155, 156, 157, 158, 113, 307, 308, 309, 310, 311, 312, 313, 256, 121, 114, 314, 315, 316, 317, 118, 318, 319, 320, 321, 322, 323, 324, 325, 326, 327, 328, 329, 330, 1357, 1358, 1359, 1360, 1361, 1362, 1363, 1364, 1365, 1366, 1367, 1368, 1369, 1370, 1371, 1372, 1373, 1374, 1375, 1376, 1377, 1378, 1379, 1380, 1381, 1382, 1383, 1384, 1385, 1386, 1387, 1388, 1389] (by decide +kernel) (by decide +kernel)
set_option maxRecDepth 20000 in
theorem gL_law_X7_says : GoodIn wsL_law (wsV RL 48 RX7 yX7_says wsX7_says) := goodIn_app (goodIn_of _ (by decide +kernel)) ggL_law_X7_says
set_option maxRecDepth 20000 in
theorem ggL_law_X6_sights : GoodIn wsL_law wsX6_sights := goodIn_r _ [334, 16, 335, 134, 135, 2, 136, 137, 138, 139, 140, 40, 1347, 1348, 1349, 1350, 1351, 1352, 1353, 1354, 1355, 1356, 1390, 1391, 1392, 1393, 1394, 1395, 1396, 1397, 1398, 1399, 1400, 1401, 1402, 1403] (by decide +kernel) (by decide +kernel)
set_option maxRecDepth 20000 in
theorem gL_law_X6_sights : GoodIn wsL_law (wsV RL 49 RX6 yX6_sights wsX6_sights) := goodIn_app (goodIn_of _ (by decide +kernel)) ggL_law_X6_sights
set_option maxRecDepth 20000 in
theorem ggL_law_X7_sights : GoodIn wsL_law wsX7_sights := goodIn_r _ [339, 114, 340, 152, 153, 5, 154, 155, 156, 157, 158, 113, 1357, 1358, 1359, 1360, 1361, 1362, 1363, 1364, 1365, 1366, 1367, 1368, 1369, 1370, 1371, 1372, 1373, 1374, 1375, 1376, 1377, 1378, 1379, 1380, 1381, 1382, 1383, 1384, 1385, 1386, 1387, 1388, 1389] (by decide +kernel) (by decide +kernel)
set_option maxRecDepth 20000 in
theorem gL_law_X7_sights : GoodIn wsL_law (wsV RL 52 RX7 yX7_sights wsX7_sights) := goodIn_app (goodIn_of _ (by decide +kernel)) ggL_law_X7_sights
set_option maxRecDepth 20000 in
theorem ggL_law_X6_person : GoodIn wsL_law wsX6_person := goodIn_r _ [344, 16, 261, 262, 2, 263, 134, 135, 136, 137, 138, 139, 140, 40, 345, 346, 347, 15, 348, 46, 349, 350, 351, 352, 56, 57, 52, 53, 54, 55, 1347, 1348, 1349, 1350, 1351, 1352, 1353, 1354, 1355, 1356, 1390, 1391, 1392, 1393, 1394, 1395, 1396, 1397, 1398, 1399, 1400, 1401, 1402, 1403] (by decide +kernel) (by decide +kernel)
set_option maxRecDepth 20000 in
theorem gL_law_X6_person : GoodIn wsL_law (wsV RL 53 RX6 yX6_person wsX6_person) := goodIn_app (goodIn_of _ (by decide +kernel)) ggL_law_X6_person
set_option maxRecDepth 20000 in
theorem ggL_law_X7_person : GoodIn wsL_law wsX7_person := goodIn_r _ [356, 306, 357, 256, 152, 153, 5, 154, 155, 156, 157, 158, 113, 358, 359, 360, 361, 115, 116, 117, 118, 119, 120, 1357, 1358, 1359, 1360, 1361, 1362, 1363, 1364, 1365, 1366, 1367, 1368, 1369, 1370, 1371, 1372, 1373, 1374, 1375, 1376, 1377, 1378, 1379, 1380, 1381, 1382, 1383, 1384, 1385, 1386, 1387, 1388, 1389] (by decide +kernel) (by decide +kernel)
set_option maxRecDepth 20000 in
theorem gL_law_X7_person : GoodIn wsL_law (wsV RL 56 RX7 yX7_person wsX7_person) := goodIn_app (goodIn_of _ (by decide +kernel)) ggL_law_X7_person
set_option maxRecDepth 20000 in
theorem ggL_law_X6_see : GoodIn wsL_law wsX6_see := goodIn_r _ [365, 16, 240, 241, 242, 15, 243, 46, 366, 367, 368, 369, 45, 134, 135, 2, 136, 137, 138, 139, 140, 40, 370, 371, 372, 373, 56, 374, 375, 376, 377, 52, 53, 286, 287, 378, 379, 380, 381, 382, 383, 1347, 1348, 1349, 1350, 1351, 1352, 1353, 1354, 1355, 1356, 1390, 1391, 1392, 1393, 1394, 1395, 1396, 1397, 1398, 1399, 1400, 1401, 1402, 1403] (by decide +kernel) (by decide +kernel)
set_option maxRecDepth 20000 in
theorem gL_law_X6_see : GoodIn wsL_law (wsV RL 57 RX6 yX6_see wsX6_see) := goodIn_app (goodIn_of _ (by decide +kernel)) ggL_law_X6_see
set_option maxRecDepth 20000 in
theorem ggL_law_X7_see : GoodIn wsL_law wsX7_see := goodIn_r _ [387, 388, 115, 117, 118, 252, 253, 254, 5, 255, 256, 152, 153, 154, 389, 390, 391, 392, 114, 155, 156, 157, 158, 113, 322, 323, 324, 393, 394, 395, 396, 1357, 1358, 1359, 1360, 1361, 1362, 1363, 1364, 1365, 1366, 1367, 1368, 1369, 1370, 1371, 1372, 1373, 1374, 1375, 1376, 1377, 1378, 1379, 1380, 1381, 1382, 1383, 1384, 1385, 1386, 1387, 1388, 1389] (by decide +kernel) (by decide +kernel)
set_option maxRecDepth 20000 in
theorem gL_law_X7_see : GoodIn wsL_law (wsV RL 60 RX7 yX7_see wsX7_see) := goodIn_app (goodIn_of _ (by decide +kernel)) ggL_law_X7_see
set_option maxRecDepth 20000 in
theorem ggL_law_X6_hear : GoodIn wsL_law wsX6_hear := goodIn_r _ [400, 16, 401, 240, 241, 242, 15, 243, 46, 366, 367, 368, 369, 45, 137, 138, 139, 2, 140, 40, 285, 286, 287, 402, 403, 404, 405, 54, 382, 383, 1347, 1348, 1349, 1350, 1351, 1352, 1353, 1354, 1355, 1356, 1390, 1391, 1392, 1393, 1394, 1395, 1396, 1397, 1398, 1399, 1400, 1401, 1402, 1403] (by decide +kernel) (by decide +kernel)
set_option maxRecDepth 20000 in
theorem gL_law_X6_hear : GoodIn wsL_law (wsV RL 61 RX6 yX6_hear wsX6_hear) := goodIn_app (goodIn_of _ (by decide +kernel)) ggL_law_X6_hear
set_option maxRecDepth 20000 in
theorem ggL_law_X7_hear : GoodIn wsL_law wsX7_hear := goodIn_r _ [409, 119, 252, 253, 254, 5, 255, 256, 152, 153, 154, 389, 390, 391, 392, 114, 155, 156, 157, 158, 113, 322, 323, 324, 1357, 1358, 1359, 1360, 1361, 1362, 1363, 1364, 1365, 1366, 1367, 1368, 1369, 1370, 1371, 1372, 1373, 1374, 1375, 1376, 1377, 1378, 1379, 1380, 1381, 1382, 1383, 1384, 1385, 1386, 1387, 1388, 1389] (by decide +kernel) (by decide +kernel)
set_option maxRecDepth 20000 in
theorem gL_law_X7_hear : GoodIn wsL_law (wsV RL 65 RX7 yX7_hear wsX7_hear) := goodIn_app (goodIn_of _ (by decide +kernel)) ggL_law_X7_hear
set_option maxRecDepth 20000 in
theorem ggL_law_X6_near : GoodIn wsL_law wsX6_near := goodIn_r _ [413, 16, 414, 240, 241, 242, 15, 243, 46, 137, 138, 139, 2, 140, 40, 285, 286, 287, 415, 416, 417, 418, 55, 382, 383, 1347, 1348, 1349, 1350, 1351, 1352, 1353, 1354, 1355, 1356, 1390, 1391, 1392, 1393, 1394, 1395, 1396, 1397, 1398, 1399, 1400, 1401, 1402, 1403] (by decide +kernel) (by decide +kernel)
set_option maxRecDepth 20000 in
theorem gL_law_X6_near : GoodIn wsL_law (wsV RL 66 RX6 yX6_near wsX6_near) := goodIn_app (goodIn_of _ (by decide +kernel)) ggL_law_X6_near
set_option maxRecDepth 20000 in
theorem ggL_law_X7_near : GoodIn wsL_law wsX7_near := goodIn_r _ [422, 120, 252, 253, 254, 5, 255, 256, 152, 153, 154, 155, 156, 157, 158, 113, 322, 323, 324, 1357, 1358, 1359, 1360, 1361, 1362, 1363, 1364, 1365, 1366, 1367, 1368, 1369, 1370, 1371, 1372, 1373, 1374, 1375, 1376, 1377, 1378, 1379, 1380, 1381, 1382, 1383, 1384, 1385, 1386, 1387, 1388, 1389] (by decide +kernel) (by decide +kernel)
set_option maxRecDepth 20000 in
theorem gL_law_X7_near : GoodIn wsL_law (wsV RL 69 RX7 yX7_near wsX7_near) := goodIn_app (goodIn_of _ (by decide +kernel)) ggL_law_X7_near
set_option maxRecDepth 20000 in
theorem ggL_law_X6_ask : GoodIn wsL_law wsX6_ask := goodIn_r _ [426, 16, 134, 135, 2, 136, 427, 428, 15, 429, 137, 138, 139, 140, 40, 430, 431, 432, 433, 47, 48, 49, 434, 435, 436, 437, 1347, 1348, 1349, 1350, 1351, 1352, 1353, 1354, 1355, 1356, 1390, 1391, 1392, 1393, 1394, 1395, 1396, 1397, 1398, 1399, 1400, 1401, 1402, 1403] (by decide +kernel) (by decide +kernel)
set_option maxRecDepth 20000 in
theorem gL_law_X6_ask : GoodIn wsL_law (wsV RL 70 RX6 yX6_ask wsX6_ask) := goodIn_app (goodIn_of _ (by decide +kernel)) ggL_law_X6_ask
set_option maxRecDepth 20000 in
theorem ggL_law_X7_ask : GoodIn wsL_law wsX7_ask := goodIn_r _ [441, 388, 121, 152, 153, 5, 154, 442, 443, 444, 155, 156, 157, 158, 113, 1357, 1358, 1359, 1360, 1361, 1362, 1363, 1364, 1365, 1366, 1367, 1368, 1369, 1370, 1371, 1372, 1373, 1374, 1375, 1376, 1377, 1378, 1379, 1380, 1381, 1382, 1383, 1384, 1385, 1386, 1387, 1388, 1389] (by decide +kernel) (by decide +kernel)
set_option maxRecDepth 20000 in
theorem gL_law_X7_ask : GoodIn wsL_law (wsV RL 73 RX7 yX7_ask wsX7_ask) := goodIn_app (goodIn_of _ (by decide +kernel)) ggL_law_X7_ask
set_option maxRecDepth 20000 in
theorem ggL_law_X6_feed : GoodIn wsL_law wsX6_feed := goodIn_r _ [448, 26, 449, 134, 135, 2, 136, 137, 138, 139, 140, 40, 450, 451, 452, 25, 453, 70, 72, 1347, 1348, 1349, 1350, 1351, 1352, 1353, 1354, 1355, 1356, 1407, 1408, 1409, 1410, 1411, 1412] (by decide +kernel) (by decide +kernel)
set_option maxRecDepth 20000 in
theorem gL_law_X6_feed : GoodIn wsL_law (wsV RL 74 RX6 yX6_feed wsX6_feed) := goodIn_app (goodIn_of _ (by decide +kernel)) ggL_law_X6_feed
set_option maxRecDepth 20000 in
theorem ggL_law_X7_feed : GoodIn wsL_law wsX7_feed := goodIn_r _ [457, 458, 459, 112, 152, 153, 5, 154, 155, 156, 157, 158, 113, 1357, 1358, 1359, 1360, 1361, 1362, 1363, 1364, 1365, 1366, 1367, 1368, 1369, 1370, 1371, 1372, 1373, 1374, 1375, 1376, 1377, 1378, 1379, 1380, 1381, 1382, 1383, 1384, 1385, 1386, 1387, 1388, 1389] (by decide +kernel) (by decide +kernel)
set_option maxRecDepth 20000 in
theorem gL_law_X7_feed : GoodIn wsL_law (wsV RL 77 RX7 yX7_feed wsX7_feed) := goodIn_app (goodIn_of _ (by decide +kernel)) ggL_law_X7_feed
set_option maxRecDepth 20000 in
theorem ggL_law_X6_wipe : GoodIn wsL_law wsX6_wipe := goodIn_r _ [463, 26, 449, 1347, 1348, 1349, 1350, 1351, 1352, 1353, 1354, 1355, 1356, 1407, 1408, 1409, 1410, 1411, 1412] (by decide +kernel) (by decide +kernel)
set_option maxRecDepth 20000 in
theorem gL_law_X6_wipe : GoodIn wsL_law (wsV RL 78 RX6 yX6_wipe wsX6_wipe) := goodIn_app (goodIn_of _ (by decide +kernel)) ggL_law_X6_wipe
set_option maxRecDepth 20000 in
theorem ggL_law_X7_wipe : GoodIn wsL_law wsX7_wipe := goodIn_r _ [467, 459, 1357, 1358, 1359, 1360, 1361, 1362, 1363, 1364, 1365, 1366, 1367, 1368, 1369, 1370, 1371, 1372, 1373, 1374, 1375, 1376, 1377, 1378, 1379, 1380, 1381, 1382, 1383, 1384, 1385, 1386, 1387, 1388, 1389] (by decide +kernel) (by decide +kernel)
set_option maxRecDepth 20000 in
theorem gL_law_X7_wipe : GoodIn wsL_law (wsV RL 82 RX7 yX7_wipe wsX7_wipe) := goodIn_app (goodIn_of _ (by decide +kernel)) ggL_law_X7_wipe
set_option maxRecDepth 20000 in
theorem ggL_law_X6_town : GoodIn wsL_law wsX6_town := goodIn_r _ [471, 18, 16, 26, 449, 472, 473, 474, 475, 15, 476, 45, 46, 47, 48, 49, 50, 51, 52, 477, 205, 206, 207, 53, 54, 55, 56, 57, 478, 479, 480, 25, 481, 75, 73, 74, 71, 482, 483, 484, 485, 70, 486, 487, 488, 489, 72, 490, 491, 492, 493, 494, 495, 496, 497, 498, 499, 500, 501, 502, 503, 504, 505, 506, 507, 508, 509, 510, 511, 512, 513, 514, 515, 516, 517, 518, 519, 520, 521, 522, 523, 524, 525, 526, 527, 528, 529, 530, 531, 532, 533, 534, 535, 536, 537, 538, 539, 540, 541, 542, 543, 544, 545, 546, 547, 548, 549, 550, 551, 552, 553, 554, 555, 556, 557, 558, 135, 2, 136, 286, 287, 559, 346, 347, 348, 560, 561, 562, 563, 564, 565, 566, 567, 568, 350, 351, 352, 569, 570, 571, 572, 573, 379, 380, 381, 382, 383, 574, 575, 576, 577, 578, 403, 404, 405, 579, 580, 581, 582, 583, 584, 585, 586, 587, 588, 589, 590, 591, 592, 593, 594, 595, 596, 416, 417, 418, 597, 598, 599, 600, 601, 428, 429, 602, 435, 436, 437, 137, 138, 139, 140, 40, 1347, 1348, 1349, 1350, 1351, 1352, 1353, 1354, 1355, 1356, 1407, 1408, 1409, 1410, 1411, 1412, 1390, 1391, 1392, 1393, 1394, 1395, 1396, 1397, 1398, 1399, 1400, 1401, 1402, 1403] (by decide +kernel) (by decide +kernel)
set_option maxRecDepth 20000 in
theorem gL_law_X6_town : GoodIn wsL_law (wsV RL 83 RX6 yX6_town wsX6_town) := goodIn_app (goodIn_of _ (by decide +kernel)) ggL_law_X6_town
set_option maxRecDepth 20000 in
theorem ggL_law_X7_town : GoodIn wsL_law wsX7_town := goodIn_r _ [606, 459, 607, 608, 609, 610, 611, 5, 612, 613, 614, 4, 615, 102, 103, 104, 11, 12, 39, 105, 106, 107, 108, 65, 109, 110, 111, 112, 113, 114, 115, 116, 117, 118, 119, 120, 121, 122, 123, 124, 125, 126, 616, 617, 618, 619, 256, 620, 621, 622, 623, 624, 625, 626, 627, 628, 629, 630, 631, 632, 633, 634, 635, 636, 637, 638, 639, 640, 641, 642, 643, 644, 645, 646, 647, 648, 649, 650, 651, 502, 503, 504, 505, 506, 507, 508, 509, 510, 511, 512, 652, 514, 515, 516, 517, 518, 519, 520, 521, 522, 523, 524, 525, 526, 527, 528, 529, 530, 531, 532, 533, 534, 535, 536, 537, 538, 539, 540, 541, 542, 543, 544, 545, 546, 547, 548, 549, 653, 654, 655, 656, 657, 658, 659, 660, 152, 153, 154, 661, 662, 663, 664, 665, 666, 667, 668, 358, 359, 360, 361, 393, 394, 395, 396, 669, 670, 671, 672, 673, 674, 675, 676, 677, 678, 679, 680, 442, 443, 444, 155, 156, 157, 158, 1357, 1358, 1359, 1360, 1361, 1362, 1363, 1364, 1365, 1366, 1367, 1368, 1369, 1370, 1371, 1372, 1373, 1374, 1375, 1376, 1377, 1378, 1379, 1380, 1381, 1382, 1383, 1384, 1385, 1386, 1387, 1388, 1389] (by decide +kernel) (by decide +kernel)
set_option maxRecDepth 20000 in
theorem gL_law_X7_town : GoodIn wsL_law (wsV RL 86 RX7 yX7_town wsX7_town) := goodIn_app (goodIn_of _ (by decide +kernel)) ggL_law_X7_town
set_option maxRecDepth 20000 in
theorem ggL_law_X6_personOf : GoodIn wsL_law wsX6_personOf := goodIn_r _ [684, 16, 240, 241, 242, 15, 243, 46, 134, 135, 2, 136, 137, 138, 139, 140, 40, 685, 686, 687, 688, 56, 57, 52, 53, 54, 55, 689, 690, 691, 692, 279, 280, 281, 282, 47, 1347, 1348, 1349, 1350, 1351, 1352, 1353, 1354, 1355, 1356, 1390, 1391, 1392, 1393, 1394, 1395, 1396, 1397, 1398, 1399, 1400, 1401, 1402, 1403] (by decide +kernel) (by decide +kernel)
set_option maxRecDepth 20000 in
theorem gL_law_X6_personOf : GoodIn wsL_law (wsV RL 87 RX6 yX6_personOf wsX6_personOf) := goodIn_app (goodIn_of _ (by decide +kernel)) ggL_law_X6_personOf
set_option maxRecDepth 20000 in
theorem ggL_law_X7_personOf : GoodIn wsL_law wsX7_personOf := goodIn_r _ [696, 149, 115, 116, 117, 118, 119, 120, 252, 253, 254, 5, 255, 256, 152, 153, 154, 155, 156, 157, 158, 113, 697, 698, 699, 700, 314, 315, 316, 317, 121, 1357, 1358, 1359, 1360, 1361, 1362, 1363, 1364, 1365, 1366, 1367, 1368, 1369, 1370, 1371, 1372, 1373, 1374, 1375, 1376, 1377, 1378, 1379, 1380, 1381, 1382, 1383, 1384, 1385, 1386, 1387, 1388, 1389] (by decide +kernel) (by decide +kernel)
set_option maxRecDepth 20000 in
theorem gL_law_X7_personOf : GoodIn wsL_law (wsV RL 90 RX7 yX7_personOf wsX7_personOf) := goodIn_app (goodIn_of _ (by decide +kernel)) ggL_law_X7_personOf
set_option maxRecDepth 20000 in
theorem ggL_law_X6_may : GoodIn wsL_law wsX6_may := goodIn_r _ [704, 16, 240, 241, 242, 15, 243, 46, 366, 367, 368, 369, 45, 137, 138, 139, 2, 140, 40, 705, 289, 290, 291, 56, 54, 49, 279, 280, 281, 282, 47, 52, 53, 292, 293, 294, 295, 296, 297, 298, 299, 55, 300, 301, 285, 286, 287, 1347, 1348, 1349, 1350, 1351, 1352, 1353, 1354, 1355, 1356, 1390, 1391, 1392, 1393, 1394, 1395, 1396, 1397, 1398, 1399, 1400, 1401, 1402, 1403] (by decide +kernel) (by decide +kernel)
set_option maxRecDepth 20000 in
theorem gL_law_X6_may : GoodIn wsL_law (wsV RL 91 RX6 yX6_may wsX6_may) := goodIn_app (goodIn_of _ (by decide +kernel)) ggL_law_X6_may
set_option maxRecDepth 20000 in
theorem ggL_law_X7_may : GoodIn wsL_law wsX7_may := goodIn_r _ [709, 252, 253, 254, 5, 255, 256, 152, 153, 154, 389, 390, 391, 392, 114, 155, 156, 157, 158, 113, 310, 311, 312, 313, 115, 119, 120, 117, 121, 314, 315, 316, 317, 118, 318, 319, 320, 321, 322, 323, 324, 1357, 1358, 1359, 1360, 1361, 1362, 1363, 1364, 1365, 1366, 1367, 1368, 1369, 1370, 1371, 1372, 1373, 1374, 1375, 1376, 1377, 1378, 1379, 1380, 1381, 1382, 1383, 1384, 1385, 1386, 1387, 1388, 1389] (by decide +kernel) (by decide +kernel)
set_option maxRecDepth 20000 in
theorem gL_law_X7_may : GoodIn wsL_law (wsV RL 94 RX7 yX7_may wsX7_may) := goodIn_app (goodIn_of _ (by decide +kernel)) ggL_law_X7_may
set_option maxRecDepth 20000 in
theorem ggL_law_X6_mouths : GoodIn wsL_law wsX6_mouths := goodIn_r _ [713, 16, 366, 367, 368, 15, 369, 45, 714, 715, 716, 717, 46, 288, 289, 290, 291, 56, 54, 49, 279, 280, 281, 282, 47, 52, 53, 292, 293, 294, 295, 296, 297, 298, 299, 55, 300, 2, 301, 286, 287, 382, 383, 137, 138, 139, 140, 40, 1347, 1348, 1349, 1350, 1351, 1352, 1353, 1354, 1355, 1356, 1390, 1391, 1392, 1393, 1394, 1395, 1396, 1397, 1398, 1399, 1400, 1401, 1402, 1403] (by decide +kernel) (by decide +kernel)
set_option maxRecDepth 20000 in
theorem gL_law_X6_mouths : GoodIn wsL_law (wsV RL 95 RX6 yX6_mouths wsX6_mouths) := goodIn_app (goodIn_of _ (by decide +kernel)) ggL_law_X6_mouths
set_option maxRecDepth 20000 in
theorem ggL_law_X7_mouths : GoodIn wsL_law wsX7_mouths := goodIn_r _ [721, 389, 390, 391, 5, 392, 114, 152, 153, 154, 722, 723, 724, 725, 256, 310, 311, 312, 313, 115, 119, 120, 117, 121, 314, 315, 316, 317, 118, 318, 319, 320, 321, 322, 323, 324, 155, 156, 157, 158, 113, 1357, 1358, 1359, 1360, 1361, 1362, 1363, 1364, 1365, 1366, 1367, 1368, 1369, 1370, 1371, 1372, 1373, 1374, 1375, 1376, 1377, 1378, 1379, 1380, 1381, 1382, 1383, 1384, 1385, 1386, 1387, 1388, 1389] (by decide +kernel) (by decide +kernel)
set_option maxRecDepth 20000 in
theorem gL_law_X7_mouths : GoodIn wsL_law (wsV RL 98 RX7 yX7_mouths wsX7_mouths) := goodIn_app (goodIn_of _ (by decide +kernel)) ggL_law_X7_mouths
set_option maxRecDepth 20000 in
theorem ggL_law_X6_say : GoodIn wsL_law wsX6_say := goodIn_r _ [729, 16, 240, 241, 242, 15, 243, 46, 366, 367, 368, 369, 45, 137, 138, 139, 2, 140, 40, 705, 289, 290, 291, 56, 54, 49, 279, 280, 281, 282, 47, 52, 53, 292, 293, 294, 295, 296, 297, 298, 299, 55, 300, 301, 285, 286, 287, 730, 731, 732, 733, 272, 273, 274, 275, 276, 277, 278, 1347, 1348, 1349, 1350, 1351, 1352, 1353, 1354, 1355, 1356, 1390, 1391, 1392, 1393, 1394, 1395, 1396, 1397, 1398, 1399, 1400, 1401, 1402, 1403] (by decide +kernel) (by decide +kernel)
set_option maxRecDepth 20000 in
theorem gL_law_X6_say : GoodIn wsL_law (wsV RL 99 RX6 yX6_say wsX6_say) := goodIn_app (goodIn_of _ (by decide +kernel)) ggL_law_X6_say
set_option maxRecDepth 20000 in
theorem ggL_law_X7_say : GoodIn wsL_law wsX7_say := goodIn_r _ [737, 252, 253, 254, 5, 255, 256, 152, 153, 154, 389, 390, 391, 392, 114, 155, 156, 157, 158, 113, 310, 311, 312, 313, 115, 119, 120, 117, 121, 314, 315, 316, 317, 118, 318, 319, 320, 321, 322, 323, 324, 738, 739, 740, 741, 325, 326, 327, 1357, 1358, 1359, 1360, 1361, 1362, 1363, 1364, 1365, 1366, 1367, 1368, 1369, 1370, 1371, 1372, 1373, 1374, 1375, 1376, 1377, 1378, 1379, 1380, 1381, 1382, 1383, 1384, 1385, 1386, 1387, 1388, 1389] (by decide +kernel) (by decide +kernel)
set_option maxRecDepth 20000 in
theorem gL_law_X7_say : GoodIn wsL_law (wsV RL 102 RX7 yX7_say wsX7_say) := goodIn_app (goodIn_of _ (by decide +kernel)) ggL_law_X7_say
set_option maxRecDepth 20000 in
theorem ggL_law_X6_sign : GoodIn wsL_law wsX6_sign := goodIn_r _ [745, 16, 746, 414, 401, 240, 241, 242, 15, 243, 46, 366, 367, 368, 369, 45, 137, 138, 139, 2, 140, 40, 285, 286, 287, 402, 403, 404, 405, 54, 382, 383, 1347, 1348, 1349, 1350, 1351, 1352, 1353, 1354, 1355, 1356, 1390, 1391, 1392, 1393, 1394, 1395, 1396, 1397, 1398, 1399, 1400, 1401, 1402, 1403] (by decide +kernel) (by decide +kernel)
set_option maxRecDepth 20000 in
theorem gL_law_X6_sign : GoodIn wsL_law (wsV RL 103 RX6 yX6_sign wsX6_sign) := goodIn_app (goodIn_of _ (by decide +kernel)) ggL_law_X6_sign
set_option maxRecDepth 20000 in
theorem ggL_law_X7_sign : GoodIn wsL_law wsX7_sign := goodIn_r _ [750, 117, 120, 119, 252, 253, 254, 5, 255, 256, 152, 153, 154, 389, 390, 391, 392, 114, 155, 156, 157, 158, 113, 322, 323, 324, 1357, 1358, 1359, 1360, 1361, 1362, 1363, 1364, 1365, 1366, 1367, 1368, 1369, 1370, 1371, 1372, 1373, 1374, 1375, 1376, 1377, 1378, 1379, 1380, 1381, 1382, 1383, 1384, 1385, 1386, 1387, 1388, 1389] (by decide +kernel) (by decide +kernel)
set_option maxRecDepth 20000 in
theorem gL_law_X7_sign : GoodIn wsL_law (wsV RL 106 RX7 yX7_sign wsX7_sign) := goodIn_app (goodIn_of _ (by decide +kernel)) ggL_law_X7_sign
set_option maxRecDepth 20000 in
theorem ggL_law_X6_known : GoodIn wsL_law wsX6_known := goodIn_r _ [754, 16, 755, 756, 757, 15, 758, 46, 689, 690, 691, 692, 52, 53, 54, 272, 273, 274, 275, 276, 277, 278, 1347, 1348, 1349, 1350, 1351, 1352, 1353, 1354, 1355, 1356, 1390, 1391, 1392, 1393, 1394, 1395, 1396, 1397, 1398, 1399, 1400, 1401, 1402, 1403] (by decide +kernel) (by decide +kernel)
set_option maxRecDepth 20000 in
theorem gL_law_X6_known : GoodIn wsL_law (wsV RL 107 RX6 yX6_known wsX6_known) := goodIn_app (goodIn_of _ (by decide +kernel)) ggL_law_X6_known
set_option maxRecDepth 20000 in
theorem ggL_law_X7_known : GoodIn wsL_law wsX7_known := goodIn_r _ [762, 763, 764, 765, 5, 766, 256, 697, 698, 699, 700, 117, 118, 119, 325, 326, 327, 1357, 1358, 1359, 1360, 1361, 1362, 1363, 1364, 1365, 1366, 1367, 1368, 1369, 1370, 1371, 1372, 1373, 1374, 1375, 1376, 1377, 1378, 1379, 1380, 1381, 1382, 1383, 1384, 1385, 1386, 1387, 1388, 1389] (by decide +kernel) (by decide +kernel)
set_option maxRecDepth 20000 in
theorem gL_law_X7_known : GoodIn wsL_law (wsV RL 110 RX7 yX7_known wsX7_known) := goodIn_app (goodIn_of _ (by decide +kernel)) ggL_law_X7_known
set_option maxRecDepth 20000 in
theorem ggL_law_X6_spread : GoodIn wsL_law wsX6_spread := goodIn_r _ [770, 16, 30, 401, 771, 772, 2, 773, 134, 135, 136, 240, 241, 242, 15, 243, 46, 137, 138, 139, 140, 40, 774, 775, 776, 29, 777, 81, 80, 778, 474, 475, 476, 45, 47, 48, 49, 50, 51, 52, 477, 205, 206, 207, 53, 54, 55, 56, 57, 779, 780, 781, 782, 783, 784, 785, 786, 58, 288, 289, 290, 291, 279, 280, 281, 282, 292, 293, 294, 295, 296, 297, 298, 299, 300, 301, 787, 731, 732, 733, 286, 287, 272, 273, 274, 275, 276, 277, 278, 788, 789, 790, 791, 1347, 1348, 1349, 1350, 1351, 1352, 1353, 1354, 1355, 1356, 1390, 1391, 1392, 1393, 1394, 1395, 1396, 1397, 1398, 1399, 1400, 1401, 1402, 1403, 1413, 1414] (by decide +kernel) (by decide +kernel)
set_option maxRecDepth 20000 in
theorem gL_law_X6_spread : GoodIn wsL_law (wsV RL 111 RX6 yX6_spread wsX6_spread) := goodIn_app (goodIn_of _ (by decide +kernel)) ggL_law_X6_spread
set_option maxRecDepth 20000 in
theorem ggL_law_X7_spread : GoodIn wsL_law wsX7_spread := goodIn_r _ [795, 119, 796, 797, 5, 798, 799, 152, 153, 154, 252, 253, 254, 255, 256, 800, 801, 802, 803, 609, 610, 611, 612, 613, 614, 4, 615, 102, 103, 104, 11, 12, 39, 105, 106, 107, 108, 65, 109, 110, 111, 112, 113, 114, 115, 116, 117, 118, 120, 121, 122, 123, 124, 125, 126, 616, 617, 618, 619, 620, 621, 622, 623, 804, 805, 806, 807, 310, 311, 312, 313, 314, 315, 316, 317, 318, 319, 320, 321, 322, 323, 324, 738, 739, 740, 741, 325, 326, 327, 155, 156, 157, 158, 1357, 1358, 1359, 1360, 1361, 1362, 1363, 1364, 1365, 1366, 1367, 1368, 1369, 1370, 1371, 1372, 1373, 1374, 1375, 1376, 1377, 1378, 1379, 1380, 1381, 1382, 1383, 1384, 1385, 1386, 1387, 1388, 1389] (by decide +kernel) (by decide +kernel)
set_option maxRecDepth 20000 in
theorem gL_law_X7_spread : GoodIn wsL_law (wsV RL 114 RX7 yX7_spread wsX7_spread) := goodIn_app (goodIn_of _ (by decide +kernel)) ggL_law_X7_spread
set_option maxRecDepth 20000 in
theorem ggL_law_X6_knownBy : GoodIn wsL_law wsX6_knownBy := goodIn_r _ [811, 30, 771, 772, 2, 773, 134, 135, 136, 774, 775, 776, 29, 777, 81, 80, 778, 474, 475, 15, 476, 45, 46, 47, 48, 49, 50, 51, 52, 477, 205, 206, 207, 53, 54, 55, 56, 57, 779, 780, 781, 782, 783, 784, 785, 786, 58, 288, 289, 290, 291, 279, 280, 281, 282, 292, 293, 294, 295, 296, 297, 298, 299, 300, 301, 787, 731, 732, 733, 286, 287, 272, 273, 274, 275, 276, 277, 278, 788, 789, 790, 791, 755, 756, 757, 758, 689, 690, 691, 692, 137, 138, 139, 140, 40, 1347, 1348, 1349, 1350, 1351, 1352, 1353, 1354, 1355, 1356, 1413, 1414, 1390, 1391, 1392, 1393, 1394, 1395, 1396, 1397, 1398, 1399, 1400, 1401, 1402, 1403] (by decide +kernel) (by decide +kernel)
set_option maxRecDepth 20000 in
theorem gL_law_X6_knownBy : GoodIn wsL_law (wsV RL 115 RX6 yX6_knownBy wsX6_knownBy) := goodIn_app (goodIn_of _ (by decide +kernel)) ggL_law_X6_knownBy
set_option maxRecDepth 20000 in
theorem ggL_law_X7_knownBy : GoodIn wsL_law wsX7_knownBy := goodIn_r _ [815, 796, 797, 5, 798, 799, 152, 153, 154, 800, 801, 802, 803, 609, 610, 611, 612, 613, 614, 4, 615, 102, 103, 104, 11, 12, 39, 105, 106, 107, 108, 65, 109, 110, 111, 112, 113, 114, 115, 116, 117, 118, 119, 120, 121, 122, 123, 124, 125, 126, 616, 617, 618, 619, 256, 620, 621, 622, 623, 804, 805, 806, 807, 310, 311, 312, 313, 314, 315, 316, 317, 318, 319, 320, 321, 322, 323, 324, 738, 739, 740, 741, 325, 326, 327, 763, 764, 765, 766, 697, 698, 699, 700, 155, 156, 157, 158, 1357, 1358, 1359, 1360, 1361, 1362, 1363, 1364, 1365, 1366, 1367, 1368, 1369, 1370, 1371, 1372, 1373, 1374, 1375, 1376, 1377, 1378, 1379, 1380, 1381, 1382, 1383, 1384, 1385, 1386, 1387, 1388, 1389] (by decide +kernel) (by decide +kernel)
set_option maxRecDepth 20000 in
theorem gL_law_X7_knownBy : GoodIn wsL_law (wsV RL 118 RX7 yX7_knownBy wsX7_knownBy) := goodIn_app (goodIn_of _ (by decide +kernel)) ggL_law_X7_knownBy
set_option maxRecDepth 20000 in
theorem ggL_law_X6_rounds : GoodIn wsL_law wsX6_rounds := goodIn_r _ [819, 30, 820, 821, 822, 29, 823, 81, 80, 778, 474, 475, 15, 476, 45, 46, 47, 48, 49, 50, 51, 52, 477, 205, 206, 207, 53, 54, 55, 56, 57, 824, 784, 785, 786, 58, 288, 289, 290, 291, 279, 280, 281, 282, 292, 293, 294, 295, 296, 297, 298, 299, 300, 2, 301, 787, 731, 732, 733, 286, 287, 272, 273, 274, 275, 276, 277, 278, 788, 789, 790, 791, 1347, 1348, 1349, 1350, 1351, 1352, 1353, 1354, 1355, 1356, 1413, 1414, 1390, 1391, 1392, 1393, 1394, 1395, 1396, 1397, 1398, 1399, 1400, 1401, 1402, 1403] (by decide +kernel) (by decide +kernel)
set_option maxRecDepth 20000 in
theorem gL_law_X6_rounds : GoodIn wsL_law (wsV RL 119 RX6 yX6_rounds wsX6_rounds) := goodIn_app (goodIn_of _ (by decide +kernel)) ggL_law_X6_rounds
set_option maxRecDepth 20000 in
theorem ggL_law_X7_rounds : GoodIn wsL_law wsX7_rounds := goodIn_r _ [828, 609, 610, 611, 5, 612, 613, 614, 4, 615, 102, 103, 104, 11, 12, 39, 105, 106, 107, 108, 65, 109, 110, 111, 112, 113, 114, 115, 116, 117, 118, 119, 120, 121, 122, 123, 124, 125, 126, 616, 617, 618, 619, 256, 620, 621, 622, 623, 804, 805, 806, 807, 310, 311, 312, 313, 314, 315, 316, 317, 318, 319, 320, 321, 322, 323, 324, 738, 739, 740, 741, 325, 326, 327, 1357, 1358, 1359, 1360, 1361, 1362, 1363, 1364, 1365, 1366, 1367, 1368, 1369, 1370, 1371, 1372, 1373, 1374, 1375, 1376, 1377, 1378, 1379, 1380, 1381, 1382, 1383, 1384, 1385, 1386, 1387, 1388, 1389] (by decide +kernel) (by decide +kernel)
set_option maxRecDepth 20000 in
theorem gL_law_X7_rounds : GoodIn wsL_law (wsV RL 122 RX7 yX7_rounds wsX7_rounds) := goodIn_app (goodIn_of _ (by decide +kernel)) ggL_law_X7_rounds
set_option maxRecDepth 20000 in
theorem ggL_law_X6_never : GoodIn wsL_law wsX6_never := goodIn_r _ [832, 16, 30, 366, 367, 368, 15, 369, 45, 137, 138, 139, 2, 140, 40, 833, 834, 835, 836, 46, 774, 775, 776, 29, 777, 81, 80, 778, 474, 475, 476, 47, 48, 49, 50, 51, 52, 477, 205, 206, 207, 53, 54, 55, 56, 57, 779, 780, 781, 782, 783, 784, 785, 786, 58, 288, 289, 290, 291, 279, 280, 281, 282, 292, 293, 294, 295, 296, 297, 298, 299, 300, 301, 787, 731, 732, 733, 286, 287, 272, 273, 274, 275, 276, 277, 278, 788, 789, 790, 791, 837, 838, 839, 840, 689, 690, 691, 692, 382, 383, 1347, 1348, 1349, 1350, 1351, 1352, 1353, 1354, 1355, 1356, 1390, 1391, 1392, 1393, 1394, 1395, 1396, 1397, 1398, 1399, 1400, 1401, 1402, 1403, 1413, 1414] (by decide +kernel) (by decide +kernel)
set_option maxRecDepth 20000 in
theorem gL_law_X6_never : GoodIn wsL_law (wsV RL 123 RX6 yX6_never wsX6_never) := goodIn_app (goodIn_of _ (by decide +kernel)) ggL_law_X6_never
set_option maxRecDepth 20000 in
theorem ggL_law_X7_never : GoodIn wsL_law wsX7_never := goodIn_r _ [844, 256, 389, 390, 391, 5, 392, 114, 152, 153, 154, 155, 156, 157, 158, 113, 800, 801, 802, 803, 609, 610, 611, 612, 613, 614, 4, 615, 102, 103, 104, 11, 12, 39, 105, 106, 107, 108, 65, 109, 110, 111, 112, 115, 116, 117, 118, 119, 120, 121, 122, 123, 124, 125, 126, 616, 617, 618, 619, 620, 621, 622, 623, 804, 805, 806, 807, 310, 311, 312, 313, 314, 315, 316, 317, 318, 319, 320, 321, 322, 323, 324, 738, 739, 740, 741, 325, 326, 327, 697, 698, 699, 700, 1357, 1358, 1359, 1360, 1361, 1362, 1363, 1364, 1365, 1366, 1367, 1368, 1369, 1370, 1371, 1372, 1373, 1374, 1375, 1376, 1377, 1378, 1379, 1380, 1381, 1382, 1383, 1384, 1385, 1386, 1387, 1388, 1389] (by decide +kernel) (by decide +kernel)
set_option maxRecDepth 20000 in
theorem gL_law_X7_never : GoodIn wsL_law (wsV RL 126 RX7 yX7_never wsX7_never) := goodIn_app (goodIn_of _ (by decide +kernel)) ggL_law_X7_never
set_option maxRecDepth 20000 in
theorem ggL_law_X6_when : GoodIn wsL_law wsX6_when := goodIn_r _ [848, 16, 30, 240, 241, 242, 15, 243, 46, 366, 367, 368, 369, 45, 137, 138, 139, 2, 140, 40, 849, 850, 851, 29, 852, 81, 80, 778, 474, 475, 476, 47, 48, 49, 50, 51, 52, 477, 205, 206, 207, 53, 54, 55, 56, 57, 853, 690, 691, 692, 286, 287, 824, 784, 785, 786, 58, 288, 289, 290, 291, 279, 280, 281, 282, 292, 293, 294, 295, 296, 297, 298, 299, 300, 301, 787, 731, 732, 733, 272, 273, 274, 275, 276, 277, 278, 788, 789, 790, 791, 1347, 1348, 1349, 1350, 1351, 1352, 1353, 1354, 1355, 1356, 1390, 1391, 1392, 1393, 1394, 1395, 1396, 1397, 1398, 1399, 1400, 1401, 1402, 1403, 1413, 1414] (by decide +kernel) (by decide +kernel)
set_option maxRecDepth 20000 in
theorem gL_law_X6_when : GoodIn wsL_law (wsV RL 127 RX6 yX6_when wsX6_when) := goodIn_app (goodIn_of _ (by decide +kernel)) ggL_law_X6_when
set_option maxRecDepth 20000 in
theorem ggL_law_X7_when : GoodIn wsL_law wsX7_when := goodIn_r _ [857, 252, 253, 254, 5, 255, 256, 152, 153, 154, 389, 390, 391, 392, 114, 155, 156, 157, 158, 113, 609, 610, 611, 612, 613, 614, 4, 615, 102, 103, 104, 11, 12, 39, 105, 106, 107, 108, 65, 109, 110, 111, 112, 115, 116, 117, 118, 119, 120, 121, 122, 123, 124, 125, 126, 616, 617, 618, 619, 620, 621, 622, 623, 697, 698, 699, 700, 322, 323, 324, 804, 805, 806, 807, 310, 311, 312, 313, 314, 315, 316, 317, 318, 319, 320, 321, 738, 739, 740, 741, 325, 326, 327, 1357, 1358, 1359, 1360, 1361, 1362, 1363, 1364, 1365, 1366, 1367, 1368, 1369, 1370, 1371, 1372, 1373, 1374, 1375, 1376, 1377, 1378, 1379, 1380, 1381, 1382, 1383, 1384, 1385, 1386, 1387, 1388, 1389] (by decide +kernel) (by decide +kernel)
set_option maxRecDepth 20000 in
theorem gL_law_X7_when : GoodIn wsL_law (wsV RL 130 RX7 yX7_when wsX7_when) := goodIn_app (goodIn_of _ (by decide +kernel)) ggL_law_X7_when
set_option maxRecDepth 20000 in
theorem ggL_law_X6_stop : GoodIn wsL_law wsX6_stop := goodIn_r _ [861, 16, 30, 366, 367, 368, 15, 369, 45, 771, 772, 2, 773, 134, 135, 136, 137, 138, 139, 140, 40, 862, 863, 864, 29, 865, 80, 866, 867, 834, 835, 836, 46, 868, 585, 586, 587, 56, 382, 383, 869, 273, 274, 275, 276, 277, 278, 870, 871, 872, 873, 81, 778, 474, 475, 476, 47, 48, 49, 50, 51, 52, 477, 205, 206, 207, 53, 54, 55, 57, 874, 875, 876, 877, 286, 287, 878, 379, 380, 381, 879, 715, 716, 717, 288, 289, 290, 291, 279, 280, 281, 282, 292, 293, 294, 295, 296, 297, 298, 299, 300, 301, 824, 784, 785, 786, 58, 787, 731, 732, 733, 272, 788, 789, 790, 791, 1347, 1348, 1349, 1350, 1351, 1352, 1353, 1354, 1355, 1356, 1390, 1391, 1392, 1393, 1394, 1395, 1396, 1397, 1398, 1399, 1400, 1401, 1402, 1403, 1413, 1414] (by decide +kernel) (by decide +kernel)
set_option maxRecDepth 20000 in
theorem gL_law_X6_stop : GoodIn wsL_law (wsV RL 131 RX6 yX6_stop wsX6_stop) := goodIn_app (goodIn_of _ (by decide +kernel)) ggL_law_X6_stop
set_option maxRecDepth 20000 in
theorem ggL_law_X7_stop : GoodIn wsL_law wsX7_stop := goodIn_r _ [883, 256, 389, 390, 391, 5, 392, 114, 152, 153, 154, 796, 797, 798, 799, 155, 156, 157, 158, 113, 325, 326, 327, 884, 885, 886, 887, 115, 609, 610, 611, 612, 613, 614, 4, 615, 102, 103, 104, 11, 12, 39, 105, 106, 107, 108, 65, 109, 110, 111, 112, 116, 117, 118, 119, 120, 121, 122, 123, 124, 125, 126, 616, 617, 618, 619, 620, 621, 622, 623, 322, 323, 324, 393, 394, 395, 396, 722, 723, 724, 725, 310, 311, 312, 313, 314, 315, 316, 317, 318, 319, 320, 321, 804, 805, 806, 807, 738, 739, 740, 741, 1357, 1358, 1359, 1360, 1361, 1362, 1363, 1364, 1365, 1366, 1367, 1368, 1369, 1370, 1371, 1372, 1373, 1374, 1375, 1376, 1377, 1378, 1379, 1380, 1381, 1382, 1383, 1384, 1385, 1386, 1387, 1388, 1389] (by decide +kernel) (by decide +kernel)
set_option maxRecDepth 20000 in
theorem gL_law_X7_stop : GoodIn wsL_law (wsV RL 134 RX7 yX7_stop wsX7_stop) := goodIn_app (goodIn_of _ (by decide +kernel)) ggL_law_X7_stop
set_option maxRecDepth 20000 in
theorem ggL_law_X6_first : GoodIn wsL_law wsX6_first := goodIn_r _ [891, 16, 892, 30, 366, 367, 368, 15, 369, 45, 771, 772, 2, 773, 134, 135, 136, 137, 138, 139, 140, 40, 893, 894, 895, 29, 896, 80, 866, 81, 778, 474, 475, 476, 46, 47, 48, 49, 50, 51, 52, 477, 205, 206, 207, 53, 54, 55, 56, 57, 897, 403, 404, 405, 382, 383, 779, 780, 781, 782, 783, 784, 785, 786, 58, 288, 289, 290, 291, 279, 280, 281, 282, 292, 293, 294, 295, 296, 297, 298, 299, 300, 301, 787, 731, 732, 733, 286, 287, 272, 273, 274, 275, 276, 277, 278, 788, 789, 790, 791, 898, 838, 839, 840, 689, 690, 691, 692, 869, 1347, 1348, 1349, 1350, 1351, 1352, 1353, 1354, 1355, 1356, 1390, 1391, 1392, 1393, 1394, 1395, 1396, 1397, 1398, 1399, 1400, 1401, 1402, 1403, 1413, 1414] (by decide +kernel) (by decide +kernel)
set_option maxRecDepth 20000 in
theorem gL_law_X6_first : GoodIn wsL_law (wsV RL 135 RX6 yX6_first wsX6_first) := goodIn_app (goodIn_of _ (by decide +kernel)) ggL_law_X6_first
set_option maxRecDepth 20000 in
theorem ggL_law_X7_first : GoodIn wsL_law wsX7_first := goodIn_r _ [902, 256, 119, 389, 390, 391, 5, 392, 114, 152, 153, 154, 796, 797, 798, 799, 155, 156, 157, 158, 113, 609, 610, 611, 612, 613, 614, 4, 615, 102, 103, 104, 11, 12, 39, 105, 106, 107, 108, 65, 109, 110, 111, 112, 115, 116, 117, 118, 120, 121, 122, 123, 124, 125, 126, 616, 617, 618, 619, 620, 621, 622, 623, 804, 805, 806, 807, 310, 311, 312, 313, 314, 315, 316, 317, 318, 319, 320, 321, 322, 323, 324, 738, 739, 740, 741, 325, 326, 327, 697, 698, 699, 700, 1357, 1358, 1359, 1360, 1361, 1362, 1363, 1364, 1365, 1366, 1367, 1368, 1369, 1370, 1371, 1372, 1373, 1374, 1375, 1376, 1377, 1378, 1379, 1380, 1381, 1382, 1383, 1384, 1385, 1386, 1387, 1388, 1389] (by decide +kernel) (by decide +kernel)
set_option maxRecDepth 20000 in
theorem gL_law_X7_first : GoodIn wsL_law (wsV RL 138 RX7 yX7_first wsX7_first) := goodIn_app (goodIn_of _ (by decide +kernel)) ggL_law_X7_first
set_option maxRecDepth 20000 in
theorem ggL_law_X6_order : GoodIn wsL_law wsX6_order := goodIn_r _ [906, 16, 892, 34, 134, 135, 2, 136, 137, 138, 139, 140, 40, 907, 908, 909, 33, 910, 91, 90, 93, 92, 911, 912, 913, 914, 915, 916, 474, 475, 15, 476, 45, 46, 47, 48, 49, 50, 51, 52, 477, 205, 206, 207, 53, 54, 55, 56, 57, 917, 780, 781, 782, 783, 784, 785, 786, 58, 288, 289, 290, 291, 279, 280, 281, 282, 292, 293, 294, 295, 296, 297, 298, 299, 300, 301, 787, 731, 732, 733, 286, 287, 272, 273, 274, 275, 276, 277, 278, 788, 789, 790, 791, 918, 756, 757, 758, 689, 690, 691, 692, 919, 834, 835, 836, 920, 921, 922, 87, 923, 924, 925, 88, 926, 927, 928, 929, 89, 930, 931, 382, 383, 932, 933, 934, 935, 936, 937, 938, 939, 1347, 1348, 1349, 1350, 1351, 1352, 1353, 1354, 1355, 1356, 1390, 1391, 1392, 1393, 1394, 1395, 1396, 1397, 1398, 1399, 1400, 1401, 1402, 1403, 1415, 1416, 1417, 1418, 1419, 1420, 1421] (by decide +kernel) (by decide +kernel)
set_option maxRecDepth 20000 in
theorem gL_law_X6_order : GoodIn wsL_law (wsV RL 139 RX6 yX6_order wsX6_order) := goodIn_app (goodIn_of _ (by decide +kernel)) ggL_law_X6_order
set_option maxRecDepth 20000 in
theorem ggL_law_X7_order : GoodIn wsL_law wsX7_order := goodIn_r _ [943, 944, 256, 945, 126, 152, 153, 5, 154, 155, 156, 157, 158, 113, 946, 947, 948, 949, 125, 609, 610, 611, 612, 613, 614, 4, 615, 102, 103, 104, 11, 12, 39, 105, 106, 107, 108, 65, 109, 110, 111, 112, 114, 115, 116, 117, 118, 119, 120, 121, 122, 123, 124, 616, 617, 618, 619, 620, 621, 622, 623, 310, 311, 312, 313, 314, 315, 316, 317, 318, 319, 320, 321, 322, 323, 324, 738, 739, 740, 741, 325, 326, 327, 763, 764, 765, 766, 697, 698, 699, 700, 1357, 1358, 1359, 1360, 1361, 1362, 1363, 1364, 1365, 1366, 1367, 1368, 1369, 1370, 1371, 1372, 1373, 1374, 1375, 1376, 1377, 1378, 1379, 1380, 1381, 1382, 1383, 1384, 1385, 1386, 1387, 1388, 1389] (by decide +kernel) (by decide +kernel)
set_option maxRecDepth 20000 in
theorem gL_law_X7_order : GoodIn wsL_law (wsV RL 142 RX7 yX7_order wsX7_order) := goodIn_app (goodIn_of _ (by decide +kernel)) ggL_law_X7_order
set_option maxRecDepth 20000 in
theorem ggL_law_X6_worth : GoodIn wsL_law wsX6_worth := goodIn_r _ [953, 16, 30, 240, 241, 242, 15, 243, 46, 771, 772, 2, 773, 134, 135, 136, 137, 138, 139, 140, 40, 954, 955, 956, 29, 957, 81, 80, 778, 474, 475, 476, 45, 47, 48, 49, 50, 51, 52, 477, 205, 206, 207, 53, 54, 55, 56, 57, 958, 959, 960, 961, 779, 780, 781, 782, 783, 784, 785, 786, 58, 288, 289, 290, 291, 279, 280, 281, 282, 292, 293, 294, 295, 296, 297, 298, 299, 300, 301, 787, 731, 732, 733, 286, 287, 272, 273, 274, 275, 276, 277, 278, 788, 789, 790, 791, 962, 756, 757, 758, 689, 690, 691, 692, 853, 869, 963, 964, 965, 966, 382, 383, 1347, 1348, 1349, 1350, 1351, 1352, 1353, 1354, 1355, 1356, 1390, 1391, 1392, 1393, 1394, 1395, 1396, 1397, 1398, 1399, 1400, 1401, 1402, 1403, 1413, 1414] (by decide +kernel) (by decide +kernel)
set_option maxRecDepth 20000 in
theorem gL_law_X6_worth : GoodIn wsL_law (wsV RL 143 RX6 yX6_worth wsX6_worth) := goodIn_app (goodIn_of _ (by decide +kernel)) ggL_law_X6_worth
set_option maxRecDepth 20000 in
theorem ggL_law_X7_worth : GoodIn wsL_law wsX7_worth := goodIn_r _ [970, 120, 256, 252, 253, 254, 5, 255, 152, 153, 154, 796, 797, 798, 799, 155, 156, 157, 158, 113, 800, 801, 802, 803, 609, 610, 611, 612, 613, 614, 4, 615, 102, 103, 104, 11, 12, 39, 105, 106, 107, 108, 65, 109, 110, 111, 112, 114, 115, 116, 117, 118, 119, 121, 122, 123, 124, 125, 126, 616, 617, 618, 619, 620, 621, 622, 623, 804, 805, 806, 807, 310, 311, 312, 313, 314, 315, 316, 317, 318, 319, 320, 321, 322, 323, 324, 738, 739, 740, 741, 325, 326, 327, 971, 972, 973, 974, 697, 698, 699, 700, 1357, 1358, 1359, 1360, 1361, 1362, 1363, 1364, 1365, 1366, 1367, 1368, 1369, 1370, 1371, 1372, 1373, 1374, 1375, 1376, 1377, 1378, 1379, 1380, 1381, 1382, 1383, 1384, 1385, 1386, 1387, 1388, 1389] (by decide +kernel) (by decide +kernel)
set_option maxRecDepth 20000 in
theorem gL_law_X7_worth : GoodIn wsL_law (wsV RL 146 RX7 yX7_worth wsX7_worth) := goodIn_app (goodIn_of _ (by decide +kernel)) ggL_law_X7_worth
set_option maxRecDepth 20000 in
theorem ggL_law_X6_chain : GoodIn wsL_law wsX6_chain := goodIn_r _ [978, 16, 240, 241, 242, 15, 243, 46, 366, 367, 368, 369, 45, 137, 138, 139, 2, 140, 40, 979, 980, 981, 982, 983, 984, 985, 986, 279, 280, 281, 282, 47, 52, 53, 286, 287, 382, 383, 987, 988, 989, 990, 55, 1347, 1348, 1349, 1350, 1351, 1352, 1353, 1354, 1355, 1356, 1390, 1391, 1392, 1393, 1394, 1395, 1396, 1397, 1398, 1399, 1400, 1401, 1402, 1403] (by decide +kernel) (by decide +kernel)
set_option maxRecDepth 20000 in
theorem gL_law_X6_chain : GoodIn wsL_law (wsV RL 147 RX6 yX6_chain wsX6_chain) := goodIn_app (goodIn_of _ (by decide +kernel)) ggL_law_X6_chain
set_option maxRecDepth 20000 in
theorem ggL_law_X7_chain : GoodIn wsL_law wsX7_chain := goodIn_r _ [994, 256, 120, 252, 253, 254, 5, 255, 152, 153, 154, 389, 390, 391, 392, 114, 155, 156, 157, 158, 113, 322, 323, 324, 995, 996, 997, 998, 314, 315, 316, 317, 121, 117, 118, 1357, 1358, 1359, 1360, 1361, 1362, 1363, 1364, 1365, 1366, 1367, 1368, 1369, 1370, 1371, 1372, 1373, 1374, 1375, 1376, 1377, 1378, 1379, 1380, 1381, 1382, 1383, 1384, 1385, 1386, 1387, 1388, 1389] (by decide +kernel) (by decide +kernel)
set_option maxRecDepth 20000 in
theorem gL_law_X7_chain : GoodIn wsL_law (wsV RL 150 RX7 yX7_chain wsX7_chain) := goodIn_app (goodIn_of _ (by decide +kernel)) ggL_law_X7_chain
set_option maxRecDepth 20000 in
theorem ggL_law_X6_pairs : GoodIn wsL_law wsX6_pairs := goodIn_r _ [1002, 16, 1003, 1004, 1005, 15, 1006, 46, 55, 286, 2, 287, 1347, 1348, 1349, 1350, 1351, 1352, 1353, 1354, 1355, 1356, 1390, 1391, 1392, 1393, 1394, 1395, 1396, 1397, 1398, 1399, 1400, 1401, 1402, 1403] (by decide +kernel) (by decide +kernel)
set_option maxRecDepth 20000 in
theorem gL_law_X6_pairs : GoodIn wsL_law (wsV RL 151 RX6 yX6_pairs wsX6_pairs) := goodIn_app (goodIn_of _ (by decide +kernel)) ggL_law_X6_pairs
set_option maxRecDepth 20000 in
theorem ggL_law_X7_pairs : GoodIn wsL_law wsX7_pairs := goodIn_r _ [1010, 1011, 1012, 1013, 5, 1014, 256, 120, 322, 323, 324, 1357, 1358, 1359, 1360, 1361, 1362, 1363, 1364, 1365, 1366, 1367, 1368, 1369, 1370, 1371, 1372, 1373, 1374, 1375, 1376, 1377, 1378, 1379, 1380, 1381, 1382, 1383, 1384, 1385, 1386, 1387, 1388, 1389] (by decide +kernel) (by decide +kernel)
set_option maxRecDepth 20000 in
theorem gL_law_X7_pairs : GoodIn wsL_law (wsV RL 154 RX7 yX7_pairs wsX7_pairs) := goodIn_app (goodIn_of _ (by decide +kernel)) ggL_law_X7_pairs
set_option maxRecDepth 20000 in
theorem ggL_law_X6_mouthsBy : GoodIn wsL_law wsX6_mouthsBy := goodIn_r _ [1018, 16, 30, 366, 367, 368, 15, 369, 45, 771, 772, 2, 773, 134, 135, 136, 137, 138, 139, 140, 40, 774, 775, 776, 29, 777, 81, 80, 778, 474, 475, 476, 46, 47, 48, 49, 50, 51, 52, 477, 205, 206, 207, 53, 54, 55, 56, 57, 779, 780, 781, 782, 783, 784, 785, 786, 58, 288, 289, 290, 291, 279, 280, 281, 282, 292, 293, 294, 295, 296, 297, 298, 299, 300, 301, 787, 731, 732, 733, 286, 287, 272, 273, 274, 275, 276, 277, 278, 788, 789, 790, 791, 714, 715, 716, 717, 382, 383, 1347, 1348, 1349, 1350, 1351, 1352, 1353, 1354, 1355, 1356, 1390, 1391, 1392, 1393, 1394, 1395, 1396, 1397, 1398, 1399, 1400, 1401, 1402, 1403, 1413, 1414] (by decide +kernel) (by decide +kernel)
set_option maxRecDepth 20000 in
theorem gL_law_X6_mouthsBy : GoodIn wsL_law (wsV RL 155 RX6 yX6_mouthsBy wsX6_mouthsBy) := goodIn_app (goodIn_of _ (by decide +kernel)) ggL_law_X6_mouthsBy
set_option maxRecDepth 20000 in
theorem ggL_law_X7_mouthsBy : GoodIn wsL_law wsX7_mouthsBy := goodIn_r _ [1022, 389, 390, 391, 5, 392, 114, 152, 153, 154, 796, 797, 798, 799, 800, 801, 802, 803, 609, 610, 611, 612, 613, 614, 4, 615, 102, 103, 104, 11, 12, 39, 105, 106, 107, 108, 65, 109, 110, 111, 112, 113, 115, 116, 117, 118, 119, 120, 121, 122, 123, 124, 125, 126, 616, 617, 618, 619, 256, 620, 621, 622, 623, 804, 805, 806, 807, 310, 311, 312, 313, 314, 315, 316, 317, 318, 319, 320, 321, 322, 323, 324, 738, 739, 740, 741, 325, 326, 327, 722, 723, 724, 725, 155, 156, 157, 158, 1357, 1358, 1359, 1360, 1361, 1362, 1363, 1364, 1365, 1366, 1367, 1368, 1369, 1370, 1371, 1372, 1373, 1374, 1375, 1376, 1377, 1378, 1379, 1380, 1381, 1382, 1383, 1384, 1385, 1386, 1387, 1388, 1389] (by decide +kernel) (by decide +kernel)
set_option maxRecDepth 20000 in
theorem gL_law_X7_mouthsBy : GoodIn wsL_law (wsV RL 158 RX7 yX7_mouthsBy wsX7_mouthsBy) := goodIn_app (goodIn_of _ (by decide +kernel)) ggL_law_X7_mouthsBy
set_option maxRecDepth 20000 in
theorem ggL_law_X6_alone : GoodIn wsL_law wsX6_alone := goodIn_r _ [1026, 16, 1027, 1028, 1029, 15, 1030, 46, 55, 1031, 834, 835, 836, 1347, 1348, 1349, 1350, 1351, 1352, 1353, 1354, 1355, 1356, 1390, 1391, 1392, 1393, 1394, 1395, 1396, 1397, 1398, 1399, 1400, 1401, 1402, 1403] (by decide +kernel) (by decide +kernel)
set_option maxRecDepth 20000 in
theorem gL_law_X6_alone : GoodIn wsL_law (wsV RL 159 RX6 yX6_alone wsX6_alone) := goodIn_app (goodIn_of _ (by decide +kernel)) ggL_law_X6_alone
set_option maxRecDepth 20000 in
theorem ggL_law_X7_alone : GoodIn wsL_law wsX7_alone := goodIn_r _ [1035, 256, 120, 1357, 1358, 1359, 1360, 1361, 1362, 1363, 1364, 1365, 1366, 1367, 1368, 1369, 1370, 1371, 1372, 1373, 1374, 1375, 1376, 1377, 1378, 1379, 1380, 1381, 1382, 1383, 1384, 1385, 1386, 1387, 1388, 1389] (by decide +kernel) (by decide +kernel)
set_option maxRecDepth 20000 in
theorem gL_law_X7_alone : GoodIn wsL_law (wsV RL 162 RX7 yX7_alone wsX7_alone) := goodIn_app (goodIn_of _ (by decide +kernel)) ggL_law_X7_alone
set_option maxRecDepth 20000 in
theorem ggL_law_X6_barred : GoodIn wsL_law wsX6_barred := goodIn_r _ [1039, 16, 366, 367, 368, 15, 369, 45, 1040, 984, 985, 986, 46, 279, 280, 281, 282, 47, 52, 53, 286, 2, 287, 382, 383, 137, 138, 139, 140, 40, 1347, 1348, 1349, 1350, 1351, 1352, 1353, 1354, 1355, 1356, 1390, 1391, 1392, 1393, 1394, 1395, 1396, 1397, 1398, 1399, 1400, 1401, 1402, 1403] (by decide +kernel) (by decide +kernel)
set_option maxRecDepth 20000 in
theorem gL_law_X6_barred : GoodIn wsL_law (wsV RL 163 RX6 yX6_barred wsX6_barred) := goodIn_app (goodIn_of _ (by decide +kernel)) ggL_law_X6_barred
set_option maxRecDepth 20000 in
theorem ggL_law_X7_barred : GoodIn wsL_law wsX7_barred := goodIn_r _ [1044, 389, 390, 391, 5, 392, 114, 152, 153, 154, 995, 996, 997, 998, 256, 314, 315, 316, 317, 121, 117, 118, 322, 323, 324, 155, 156, 157, 158, 113, 1357, 1358, 1359, 1360, 1361, 1362, 1363, 1364, 1365, 1366, 1367, 1368, 1369, 1370, 1371, 1372, 1373, 1374, 1375, 1376, 1377, 1378, 1379, 1380, 1381, 1382, 1383, 1384, 1385, 1386, 1387, 1388, 1389] (by decide +kernel) (by decide +kernel)
set_option maxRecDepth 20000 in
theorem gL_law_X7_barred : GoodIn wsL_law (wsV RL 166 RX7 yX7_barred wsX7_barred) := goodIn_app (goodIn_of _ (by decide +kernel)) ggL_law_X7_barred
set_option maxRecDepth 20000 in
theorem ggL_law_X6_blind : GoodIn wsL_law wsX6_blind := goodIn_r _ [1048, 16, 1049, 30, 240, 241, 242, 15, 243, 46, 771, 772, 2, 773, 134, 135, 136, 137, 138, 139, 140, 40, 1050, 1051, 1052, 29, 1053, 81, 80, 1054, 775, 776, 777, 778, 474, 475, 476, 45, 47, 48, 49, 50, 51, 52, 477, 205, 206, 207, 53, 54, 55, 56, 57, 779, 780, 781, 782, 783, 784, 785, 786, 58, 288, 289, 290, 291, 279, 280, 281, 282, 292, 293, 294, 295, 296, 297, 298, 299, 300, 301, 787, 731, 732, 733, 286, 287, 272, 273, 274, 275, 276, 277, 278, 788, 789, 790, 791, 962, 756, 757, 758, 689, 690, 691, 692, 1055, 1056, 1057, 1058, 1347, 1348, 1349, 1350, 1351, 1352, 1353, 1354, 1355, 1356, 1390, 1391, 1392, 1393, 1394, 1395, 1396, 1397, 1398, 1399, 1400, 1401, 1402, 1403, 1413, 1414] (by decide +kernel) (by decide +kernel)
set_option maxRecDepth 20000 in
theorem gL_law_X6_blind : GoodIn wsL_law (wsV RL 167 RX6 yX6_blind wsX6_blind) := goodIn_app (goodIn_of _ (by decide +kernel)) ggL_law_X6_blind
set_option maxRecDepth 20000 in
theorem ggL_law_X7_blind : GoodIn wsL_law wsX7_blind := goodIn_r _ [1062, 1063, 115, 119, 117, 118, 252, 253, 254, 5, 255, 256, 152, 153, 154, 796, 797, 798, 799, 155, 156, 157, 158, 113, 800, 801, 802, 803, 609, 610, 611, 612, 613, 614, 4, 615, 102, 103, 104, 11, 12, 39, 105, 106, 107, 108, 65, 109, 110, 111, 112, 114, 116, 120, 121, 122, 123, 124, 125, 126, 616, 617, 618, 619, 620, 621, 622, 623, 804, 805, 806, 807, 310, 311, 312, 313, 314, 315, 316, 317, 318, 319, 320, 321, 322, 323, 324, 738, 739, 740, 741, 325, 326, 327, 763, 764, 765, 766, 697, 698, 699, 700, 1357, 1358, 1359, 1360, 1361, 1362, 1363, 1364, 1365, 1366, 1367, 1368, 1369, 1370, 1371, 1372, 1373, 1374, 1375, 1376, 1377, 1378, 1379, 1380, 1381, 1382, 1383, 1384, 1385, 1386, 1387, 1388, 1389] (by decide +kernel) (by decide +kernel)
set_option maxRecDepth 20000 in
theorem gL_law_X7_blind : GoodIn wsL_law (wsV RL 170 RX7 yX7_blind wsX7_blind) := goodIn_app (goodIn_of _ (by decide +kernel)) ggL_law_X7_blind
set_option maxRecDepth 20000 in
theorem ggL_law_X6_dusk : GoodIn wsL_law wsX6_dusk := goodIn_r _ [1067, 30, 1049, 771, 772, 2, 773, 134, 135, 136, 1068, 1069, 1070, 29, 1071, 1072, 1073, 1074, 1075, 81, 80, 1076, 778, 474, 475, 15, 476, 45, 46, 47, 48, 49, 50, 51, 52, 477, 205, 206, 207, 53, 54, 55, 56, 57, 779, 780, 781, 782, 783, 784, 785, 786, 58, 288, 289, 290, 291, 279, 280, 281, 282, 292, 293, 294, 295, 296, 297, 298, 299, 300, 301, 787, 731, 732, 733, 286, 287, 272, 273, 274, 275, 276, 277, 278, 788, 789, 790, 791, 962, 756, 757, 758, 689, 690, 691, 692, 137, 138, 139, 140, 40, 1347, 1348, 1349, 1350, 1351, 1352, 1353, 1354, 1355, 1356, 1413, 1414, 1390, 1391, 1392, 1393, 1394, 1395, 1396, 1397, 1398, 1399, 1400, 1401, 1402, 1403] (by decide +kernel) (by decide +kernel)
set_option maxRecDepth 20000 in
theorem gL_law_X6_dusk : GoodIn wsL_law (wsV RL 171 RX6 yX6_dusk wsX6_dusk) := goodIn_app (goodIn_of _ (by decide +kernel)) ggL_law_X6_dusk
set_option maxRecDepth 20000 in
theorem ggL_law_X7_dusk : GoodIn wsL_law wsX7_dusk := goodIn_r _ [1080, 1063, 796, 797, 5, 798, 799, 152, 153, 154, 1081, 1082, 1083, 1084, 121, 609, 610, 611, 612, 613, 614, 4, 615, 102, 103, 104, 11, 12, 39, 105, 106, 107, 108, 65, 109, 110, 111, 112, 113, 114, 115, 116, 117, 118, 119, 120, 122, 123, 124, 125, 126, 616, 617, 618, 619, 256, 620, 621, 622, 623, 804, 805, 806, 807, 310, 311, 312, 313, 314, 315, 316, 317, 318, 319, 320, 321, 322, 323, 324, 738, 739, 740, 741, 325, 326, 327, 763, 764, 765, 766, 697, 698, 699, 700, 155, 156, 157, 158, 1357, 1358, 1359, 1360, 1361, 1362, 1363, 1364, 1365, 1366, 1367, 1368, 1369, 1370, 1371, 1372, 1373, 1374, 1375, 1376, 1377, 1378, 1379, 1380, 1381, 1382, 1383, 1384, 1385, 1386, 1387, 1388, 1389] (by decide +kernel) (by decide +kernel)
set_option maxRecDepth 20000 in
theorem gL_law_X7_dusk : GoodIn wsL_law (wsV RL 174 RX7 yX7_dusk wsX7_dusk) := goodIn_app (goodIn_of _ (by decide +kernel)) ggL_law_X7_dusk
set_option maxRecDepth 20000 in
theorem ggL_law_X6_loudest : GoodIn wsL_law wsX6_loudest := goodIn_r _ [1088, 16, 892, 137, 138, 139, 2, 140, 40, 1089, 1090, 1091, 15, 1092, 46, 288, 289, 290, 291, 56, 54, 49, 279, 280, 281, 282, 47, 52, 53, 292, 293, 294, 295, 45, 296, 297, 298, 299, 55, 300, 301, 272, 273, 274, 275, 276, 277, 278, 1347, 1348, 1349, 1350, 1351, 1352, 1353, 1354, 1355, 1356, 1390, 1391, 1392, 1393, 1394, 1395, 1396, 1397, 1398, 1399, 1400, 1401, 1402, 1403] (by decide +kernel) (by decide +kernel)
set_option maxRecDepth 20000 in
theorem gL_law_X6_loudest : GoodIn wsL_law (wsV RL 175 RX6 yX6_loudest wsX6_loudest) := goodIn_app (goodIn_of _ (by decide +kernel)) ggL_law_X6_loudest
set_option maxRecDepth 20000 in
theorem ggL_law_X7_loudest : GoodIn wsL_law wsX7_loudest := goodIn_r _ [1096, 256, 155, 156, 157, 5, 158, 113, 310, 311, 312, 313, 115, 119, 120, 117, 121, 114, 314, 315, 316, 317, 118, 318, 319, 320, 321, 322, 323, 324, 325, 326, 327, 1357, 1358, 1359, 1360, 1361, 1362, 1363, 1364, 1365, 1366, 1367, 1368, 1369, 1370, 1371, 1372, 1373, 1374, 1375, 1376, 1377, 1378, 1379, 1380, 1381, 1382, 1383, 1384, 1385, 1386, 1387, 1388, 1389] (by decide +kernel) (by decide +kernel)
set_option maxRecDepth 20000 in
theorem gL_law_X7_loudest : GoodIn wsL_law (wsV RL 178 RX7 yX7_loudest wsX7_loudest) := goodIn_app (goodIn_of _ (by decide +kernel)) ggL_law_X7_loudest
set_option maxRecDepth 20000 in
theorem ggL_law_X6_whom : GoodIn wsL_law wsX6_whom := goodIn_r _ [1100, 22, 16, 134, 135, 2, 136, 163, 164, 165, 21, 166, 62, 63, 132, 133, 137, 138, 139, 140, 40, 833, 834, 835, 15, 836, 46, 1101, 1102, 1103, 1104, 1105, 273, 274, 275, 276, 277, 278, 1106, 1107, 1108, 1109, 1110, 217, 218, 219, 66, 1347, 1348, 1349, 1350, 1351, 1352, 1353, 1354, 1355, 1356, 1404, 1405, 1406, 1390, 1391, 1392, 1393, 1394, 1395, 1396, 1397, 1398, 1399, 1400, 1401, 1402, 1403] (by decide +kernel) (by decide +kernel)
set_option maxRecDepth 20000 in
theorem gL_law_X6_whom : GoodIn wsL_law (wsV RL 179 RX6 yX6_whom wsX6_whom) := goodIn_app (goodIn_of _ (by decide +kernel)) ggL_law_X6_whom
set_option maxRecDepth 20000 in
theorem ggL_law_X7_whom : GoodIn wsL_law wsX7_whom := goodIn_r _ [1114, 256, 1115, 1116, 1117, 5, 1118, 149, 1119, 107, 152, 153, 154, 155, 156, 157, 158, 113, 182, 183, 184, 185, 105, 325, 326, 327, 1120, 1121, 1122, 1123, 109, 1357, 1358, 1359, 1360, 1361, 1362, 1363, 1364, 1365, 1366, 1367, 1368, 1369, 1370, 1371, 1372, 1373, 1374, 1375, 1376, 1377, 1378, 1379, 1380, 1381, 1382, 1383, 1384, 1385, 1386, 1387, 1388, 1389] (by decide +kernel) (by decide +kernel)
set_option maxRecDepth 20000 in
theorem gL_law_X7_whom : GoodIn wsL_law (wsV RL 182 RX7 yX7_whom wsX7_whom) := goodIn_app (goodIn_of _ (by decide +kernel)) ggL_law_X7_whom
set_option maxRecDepth 20000 in
theorem ggL_law_X6_parts : GoodIn wsL_law wsX6_parts := goodIn_r _ [1127, 16, 22, 134, 135, 2, 136, 833, 834, 835, 15, 836, 46, 163, 164, 165, 21, 166, 62, 63, 132, 133, 137, 138, 139, 140, 40, 1128, 1107, 1108, 1109, 1110, 217, 218, 219, 66, 1347, 1348, 1349, 1350, 1351, 1352, 1353, 1354, 1355, 1356, 1390, 1391, 1392, 1393, 1394, 1395, 1396, 1397, 1398, 1399, 1400, 1401, 1402, 1403, 1404, 1405, 1406] (by decide +kernel) (by decide +kernel)
set_option maxRecDepth 20000 in
theorem gL_law_X6_parts : GoodIn wsL_law (wsV RL 183 RX6 yX6_parts wsX6_parts) := goodIn_app (goodIn_of _ (by decide +kernel)) ggL_law_X6_parts
set_option maxRecDepth 20000 in
theorem ggL_law_X7_parts : GoodIn wsL_law wsX7_parts := goodIn_r _ [1132, 149, 1119, 256, 152, 153, 5, 154, 155, 156, 157, 158, 113, 1115, 1116, 1117, 1118, 107, 182, 183, 184, 185, 105, 1120, 1121, 1122, 1123, 109, 1357, 1358, 1359, 1360, 1361, 1362, 1363, 1364, 1365, 1366, 1367, 1368, 1369, 1370, 1371, 1372, 1373, 1374, 1375, 1376, 1377, 1378, 1379, 1380, 1381, 1382, 1383, 1384, 1385, 1386, 1387, 1388, 1389] (by decide +kernel) (by decide +kernel)
set_option maxRecDepth 20000 in
theorem gL_law_X7_parts : GoodIn wsL_law (wsV RL 186 RX7 yX7_parts wsX7_parts) := goodIn_app (goodIn_of _ (by decide +kernel)) ggL_law_X7_parts
set_option maxRecDepth 20000 in
theorem ggL_law_X6_judge : GoodIn wsL_law wsX6_judge := goodIn_r _ [1136, 38, 1137, 1138, 1139, 2, 1140, 22, 134, 135, 136, 163, 164, 165, 21, 166, 62, 63, 132, 133, 137, 138, 139, 140, 40, 1141, 1142, 1143, 37, 1144, 99, 98, 100, 1145, 474, 475, 15, 476, 45, 46, 47, 48, 49, 50, 51, 52, 477, 205, 206, 207, 53, 54, 55, 56, 57, 1146, 217, 218, 219, 66, 1147, 1148, 1149, 1150, 1151, 1152, 1153, 1154, 1155, 1156, 1157, 1158, 1159, 1160, 1161, 1162, 289, 290, 291, 279, 280, 281, 282, 292, 293, 294, 295, 296, 297, 298, 299, 300, 301, 286, 287, 1163, 731, 732, 733, 272, 273, 274, 275, 276, 277, 278, 1347, 1348, 1349, 1350, 1351, 1352, 1353, 1354, 1355, 1356, 1404, 1405, 1406, 1422, 1423, 1424, 1390, 1391, 1392, 1393, 1394, 1395, 1396, 1397, 1398, 1399, 1400, 1401, 1402, 1403] (by decide +kernel) (by decide +kernel)
set_option maxRecDepth 20000 in
theorem gL_law_X6_judge : GoodIn wsL_law (wsV RL 187 RX6 yX6_judge wsX6_judge) := goodIn_app (goodIn_of _ (by decide +kernel)) ggL_law_X6_judge
set_option maxRecDepth 20000 in
theorem ggL_law_X7_judge : GoodIn wsL_law wsX7_judge := goodIn_r _ [1167, 109, 1168, 1169, 1170, 5, 1171, 149, 151, 107, 152, 153, 154, 155, 156, 157, 158, 113, 182, 183, 184, 185, 105, 609, 610, 611, 612, 613, 614, 4, 615, 102, 103, 104, 11, 12, 39, 106, 108, 65, 110, 111, 112, 114, 115, 116, 117, 118, 119, 120, 121, 122, 123, 124, 125, 126, 616, 617, 618, 619, 256, 620, 621, 622, 623, 1172, 1173, 1174, 1175, 1119, 1176, 1177, 1178, 1179, 310, 311, 312, 313, 314, 315, 316, 317, 318, 319, 320, 321, 322, 323, 324, 738, 739, 740, 741, 325, 326, 327, 1357, 1358, 1359, 1360, 1361, 1362, 1363, 1364, 1365, 1366, 1367, 1368, 1369, 1370, 1371, 1372, 1373, 1374, 1375, 1376, 1377, 1378, 1379, 1380, 1381, 1382, 1383, 1384, 1385, 1386, 1387, 1388, 1389] (by decide +kernel) (by decide +kernel)
set_option maxRecDepth 20000 in
theorem gL_law_X7_judge : GoodIn wsL_law (wsV RL 190 RX7 yX7_judge wsX7_judge) := goodIn_app (goodIn_of _ (by decide +kernel)) ggL_law_X7_judge
set_option maxRecDepth 20000 in
theorem ggL_law_X6_heard : GoodIn wsL_law wsX6_heard := goodIn_r _ [1183, 16, 38, 18, 401, 240, 241, 242, 15, 243, 46, 1137, 1138, 1139, 2, 1140, 22, 134, 135, 136, 163, 164, 165, 21, 166, 62, 63, 132, 133, 137, 138, 139, 140, 40, 1141, 1142, 1143, 37, 1144, 99, 98, 100, 1145, 474, 475, 476, 45, 47, 48, 49, 50, 51, 52, 477, 205, 206, 207, 53, 54, 55, 56, 57, 1146, 217, 218, 219, 66, 1147, 1148, 1149, 1150, 1151, 1152, 1153, 1154, 1155, 1156, 1157, 1158, 1159, 1160, 1161, 1162, 289, 290, 291, 279, 280, 281, 282, 292, 293, 294, 295, 296, 297, 298, 299, 300, 301, 286, 287, 1163, 731, 732, 733, 272, 273, 274, 275, 276, 277, 278, 1347, 1348, 1349, 1350, 1351, 1352, 1353, 1354, 1355, 1356, 1390, 1391, 1392, 1393, 1394, 1395, 1396, 1397, 1398, 1399, 1400, 1401, 1402, 1403, 1404, 1405, 1406, 1422, 1423, 1424] (by decide +kernel) (by decide +kernel)
set_option maxRecDepth 20000 in
theorem gL_law_X6_heard : GoodIn wsL_law (wsV RL 191 RX6 yX6_heard wsX6_heard) := goodIn_app (goodIn_of _ (by decide +kernel)) ggL_law_X6_heard
set_option maxRecDepth 20000 in
theorem ggL_law_X7_heard : GoodIn wsL_law wsX7_heard := goodIn_r _ [1187, 109, 119, 252, 253, 254, 5, 255, 256, 152, 153, 154, 155, 156, 157, 158, 113, 1168, 1169, 1170, 1171, 149, 151, 107, 182, 183, 184, 185, 105, 609, 610, 611, 612, 613, 614, 4, 615, 102, 103, 104, 11, 12, 39, 106, 108, 65, 110, 111, 112, 114, 115, 116, 117, 118, 120, 121, 122, 123, 124, 125, 126, 616, 617, 618, 619, 620, 621, 622, 623, 1172, 1173, 1174, 1175, 1119, 1176, 1177, 1178, 1179, 310, 311, 312, 313, 314, 315, 316, 317, 318, 319, 320, 321, 322, 323, 324, 738, 739, 740, 741, 325, 326, 327, 1357, 1358, 1359, 1360, 1361, 1362, 1363, 1364, 1365, 1366, 1367, 1368, 1369, 1370, 1371, 1372, 1373, 1374, 1375, 1376, 1377, 1378, 1379, 1380, 1381, 1382, 1383, 1384, 1385, 1386, 1387, 1388, 1389] (by decide +kernel) (by decide +kernel)
set_option maxRecDepth 20000 in
theorem gL_law_X7_heard : GoodIn wsL_law (wsV RL 194 RX7 yX7_heard wsX7_heard) := goodIn_app (goodIn_of _ (by decide +kernel)) ggL_law_X7_heard
set_option maxRecDepth 20000 in
theorem ggL_law_X6_falsely : GoodIn wsL_law wsX6_falsely := goodIn_r _ [1191, 38, 1192, 1193, 1194, 2, 1195, 1137, 1138, 1139, 1140, 22, 134, 135, 136, 163, 164, 165, 21, 166, 62, 63, 132, 133, 1196, 1197, 1198, 37, 1199, 100, 1146, 217, 218, 219, 66, 1147, 1148, 1149, 1150, 1151, 98, 1152, 1153, 137, 138, 139, 140, 40, 1200, 1201, 1202, 1203, 1154, 1155, 1156, 1157, 1204, 280, 281, 15, 282, 47, 52, 53, 1158, 1159, 1160, 1161, 286, 287, 1347, 1348, 1349, 1350, 1351, 1352, 1353, 1354, 1355, 1356, 1404, 1405, 1406, 1422, 1423, 1424, 1390, 1391, 1392, 1393, 1394, 1395, 1396, 1397, 1398, 1399, 1400, 1401, 1402, 1403] (by decide +kernel) (by decide +kernel)
set_option maxRecDepth 20000 in
theorem gL_law_X6_falsely : GoodIn wsL_law (wsV RL 195 RX6 yX6_falsely wsX6_falsely) := goodIn_app (goodIn_of _ (by decide +kernel)) ggL_law_X6_falsely
set_option maxRecDepth 20000 in
theorem ggL_law_X7_falsely : GoodIn wsL_law wsX7_falsely := goodIn_r _ [1208, 109, 1209, 1210, 1211, 5, 1212, 1168, 1169, 1170, 1171, 149, 151, 107, 152, 153, 154, 155, 156, 157, 158, 113, 182, 183, 184, 185, 105, 1176, 1177, 1178, 1179, 1119, 256, 114, 314, 315, 316, 317, 121, 117, 118, 322, 323, 324, 1357, 1358, 1359, 1360, 1361, 1362, 1363, 1364, 1365, 1366, 1367, 1368, 1369, 1370, 1371, 1372, 1373, 1374, 1375, 1376, 1377, 1378, 1379, 1380, 1381, 1382, 1383, 1384, 1385, 1386, 1387, 1388, 1389] (by decide +kernel) (by decide +kernel)
set_option maxRecDepth 20000 in
theorem gL_law_X7_falsely : GoodIn wsL_law (wsV RL 198 RX7 yX7_falsely wsX7_falsely) := goodIn_app (goodIn_of _ (by decide +kernel)) ggL_law_X7_falsely
set_option maxRecDepth 20000 in
theorem ggL_law_X6_surely : GoodIn wsL_law wsX6_surely := goodIn_r _ [1216, 16, 38, 366, 367, 368, 15, 369, 45, 1192, 1193, 1194, 2, 1195, 1137, 1138, 1139, 1140, 22, 134, 135, 136, 163, 164, 165, 21, 166, 62, 63, 132, 133, 1196, 1197, 1198, 37, 1199, 100, 1146, 217, 218, 219, 66, 1147, 1148, 1149, 1150, 1151, 98, 1152, 1153, 137, 138, 139, 140, 40, 1217, 1218, 1219, 1220, 1221, 1222, 1223, 1224, 1225, 1158, 1159, 1160, 1161, 1154, 1155, 1156, 1157, 286, 287, 382, 383, 1040, 984, 985, 986, 46, 279, 280, 281, 282, 47, 52, 53, 1347, 1348, 1349, 1350, 1351, 1352, 1353, 1354, 1355, 1356, 1390, 1391, 1392, 1393, 1394, 1395, 1396, 1397, 1398, 1399, 1400, 1401, 1402, 1403, 1404, 1405, 1406, 1422, 1423, 1424] (by decide +kernel) (by decide +kernel)
set_option maxRecDepth 20000 in
theorem gL_law_X6_surely : GoodIn wsL_law (wsV RL 199 RX6 yX6_surely wsX6_surely) := goodIn_app (goodIn_of _ (by decide +kernel)) ggL_law_X6_surely
set_option maxRecDepth 20000 in
theorem ggL_law_X7_surely : GoodIn wsL_law wsX7_surely := goodIn_r _ [1229, 389, 390, 391, 5, 392, 114, 152, 153, 154, 155, 156, 157, 158, 113, 1209, 1210, 1211, 1212, 109, 1168, 1169, 1170, 1171, 149, 151, 107, 182, 183, 184, 185, 105, 1176, 1177, 1178, 1179, 1119, 256, 1230, 1231, 1232, 1233, 120, 322, 323, 324, 995, 996, 997, 998, 314, 315, 316, 317, 121, 117, 118, 1357, 1358, 1359, 1360, 1361, 1362, 1363, 1364, 1365, 1366, 1367, 1368, 1369, 1370, 1371, 1372, 1373, 1374, 1375, 1376, 1377, 1378, 1379, 1380, 1381, 1382, 1383, 1384, 1385, 1386, 1387, 1388, 1389] (by decide +kernel) (by decide +kernel)
set_option maxRecDepth 20000 in
theorem gL_law_X7_surely : GoodIn wsL_law (wsV RL 202 RX7 yX7_surely wsX7_surely) := goodIn_app (goodIn_of _ (by decide +kernel)) ggL_law_X7_surely
set_option maxRecDepth 20000 in
theorem ggL_law_X6_free : GoodIn wsL_law wsX6_free := goodIn_r _ [1237, 16, 38, 366, 367, 368, 15, 369, 45, 1192, 1193, 1194, 2, 1195, 1137, 1138, 1139, 1140, 22, 134, 135, 136, 163, 164, 165, 21, 166, 62, 63, 132, 133, 1196, 1197, 1198, 37, 1199, 100, 1146, 217, 218, 219, 66, 1147, 1148, 1149, 1150, 1151, 98, 1152, 1153, 137, 138, 139, 140, 40, 1217, 1218, 1219, 1220, 1221, 1222, 1223, 1224, 1225, 1158, 1159, 1160, 1161, 1154, 1155, 1156, 1157, 286, 287, 382, 383, 1040, 984, 985, 986, 46, 279, 280, 281, 282, 47, 52, 53, 1238, 1239, 1240, 1241, 99, 1145, 474, 475, 476, 48, 49, 50, 51, 477, 205, 206, 207, 54, 55, 56, 57, 1163, 731, 732, 733, 272, 273, 274, 275, 276, 277, 278, 1242, 715, 716, 717, 288, 289, 290, 291, 292, 293, 294, 295, 296, 297, 298, 299, 300, 301, 1347, 1348, 1349, 1350, 1351, 1352, 1353, 1354, 1355, 1356, 1390, 1391, 1392, 1393, 1394, 1395, 1396, 1397, 1398, 1399, 1400, 1401, 1402, 1403, 1404, 1405, 1406, 1422, 1423, 1424] (by decide +kernel) (by decide +kernel)
set_option maxRecDepth 20000 in
theorem gL_law_X6_free : GoodIn wsL_law (wsV RL 203 RX6 yX6_free wsX6_free) := goodIn_app (goodIn_of _ (by decide +kernel)) ggL_law_X6_free
set_option maxRecDepth 20000 in
theorem ggL_law_X7_free : GoodIn wsL_law wsX7_free := goodIn_r _ [1246, 109, 389, 390, 391, 5, 392, 114, 152, 153, 154, 155, 156, 157, 158, 113, 1209, 1210, 1211, 1212, 1168, 1169, 1170, 1171, 149, 151, 107, 182, 183, 184, 185, 105, 1176, 1177, 1178, 1179, 1119, 256, 609, 610, 611, 612, 613, 614, 4, 615, 102, 103, 104, 11, 12, 39, 106, 108, 65, 110, 111, 112, 115, 116, 117, 118, 119, 120, 121, 122, 123, 124, 125, 126, 616, 617, 618, 619, 620, 621, 622, 623, 738, 739, 740, 741, 322, 323, 324, 325, 326, 327, 1230, 1231, 1232, 1233, 995, 996, 997, 998, 314, 315, 316, 317, 722, 723, 724, 725, 310, 311, 312, 313, 318, 319, 320, 321, 1357, 1358, 1359, 1360, 1361, 1362, 1363, 1364, 1365, 1366, 1367, 1368, 1369, 1370, 1371, 1372, 1373, 1374, 1375, 1376, 1377, 1378, 1379, 1380, 1381, 1382, 1383, 1384, 1385, 1386, 1387, 1388, 1389] (by decide +kernel) (by decide +kernel)
set_option maxRecDepth 20000 in
theorem gL_law_X7_free : GoodIn wsL_law (wsV RL 206 RX7 yX7_free wsX7_free) := goodIn_app (goodIn_of _ (by decide +kernel)) ggL_law_X7_free
set_option maxRecDepth 20000 in
theorem ggL_law_X6_evening : GoodIn wsL_law wsX6_evening := goodIn_r _ [1250, 38, 16, 18, 1137, 1138, 1139, 2, 1140, 22, 134, 135, 136, 163, 164, 165, 21, 166, 62, 63, 132, 133, 137, 138, 139, 140, 40, 1141, 1142, 1143, 37, 1144, 99, 98, 100, 1145, 474, 475, 15, 476, 45, 46, 47, 48, 49, 50, 51, 52, 477, 205, 206, 207, 53, 54, 55, 56, 57, 1146, 217, 218, 219, 66, 1147, 1148, 1149, 1150, 1151, 1152, 1153, 1154, 1155, 1156, 1157, 1158, 1159, 1160, 1161, 1162, 289, 290, 291, 279, 280, 281, 282, 292, 293, 294, 295, 296, 297, 298, 299, 300, 301, 286, 287, 1163, 731, 732, 733, 272, 273, 274, 275, 276, 277, 278, 473, 755, 756, 757, 758, 689, 690, 691, 692, 1347, 1348, 1349, 1350, 1351, 1352, 1353, 1354, 1355, 1356, 1404, 1405, 1406, 1422, 1423, 1424, 1390, 1391, 1392, 1393, 1394, 1395, 1396, 1397, 1398, 1399, 1400, 1401, 1402, 1403] (by decide +kernel) (by decide +kernel)
set_option maxRecDepth 20000 in
theorem gL_law_X6_evening : GoodIn wsL_law (wsV RL 207 RX6 yX6_evening wsX6_evening) := goodIn_app (goodIn_of _ (by decide +kernel)) ggL_law_X6_evening
set_option maxRecDepth 20000 in
theorem ggL_law_X7_evening : GoodIn wsL_law wsX7_evening := goodIn_r _ [1254, 109, 1168, 1169, 1170, 5, 1171, 149, 151, 107, 152, 153, 154, 155, 156, 157, 158, 113, 182, 183, 184, 185, 105, 609, 610, 611, 612, 613, 614, 4, 615, 102, 103, 104, 11, 12, 39, 106, 108, 65, 110, 111, 112, 114, 115, 116, 117, 118, 119, 120, 121, 122, 123, 124, 125, 126, 616, 617, 618, 619, 256, 620, 621, 622, 623, 1172, 1173, 1174, 1175, 1119, 1176, 1177, 1178, 1179, 310, 311, 312, 313, 314, 315, 316, 317, 318, 319, 320, 321, 322, 323, 324, 738, 739, 740, 741, 325, 326, 327, 763, 764, 765, 766, 697, 698, 699, 700, 1357, 1358, 1359, 1360, 1361, 1362, 1363, 1364, 1365, 1366, 1367, 1368, 1369, 1370, 1371, 1372, 1373, 1374, 1375, 1376, 1377, 1378, 1379, 1380, 1381, 1382, 1383, 1384, 1385, 1386, 1387, 1388, 1389] (by decide +kernel) (by decide +kernel)
set_option maxRecDepth 20000 in
theorem gL_law_X7_evening : GoodIn wsL_law (wsV RL 210 RX7 yX7_evening wsX7_evening) := goodIn_app (goodIn_of _ (by decide +kernel)) ggL_law_X7_evening
set_option maxRecDepth 20000 in
theorem ggL_law_X6_talk : GoodIn wsL_law wsX6_talk := goodIn_r _ [1258, 16, 892, 134, 135, 2, 136, 137, 138, 139, 140, 40, 1259, 1260, 1261, 15, 1262, 46, 45, 1263, 1264, 1265, 1266, 51, 1267, 1268, 241, 242, 243, 288, 289, 290, 291, 56, 54, 49, 279, 280, 281, 282, 47, 52, 53, 292, 293, 294, 295, 296, 297, 298, 299, 55, 300, 301, 286, 287, 787, 731, 732, 733, 272, 273, 274, 275, 276, 277, 278, 1347, 1348, 1349, 1350, 1351, 1352, 1353, 1354, 1355, 1356, 1390, 1391, 1392, 1393, 1394, 1395, 1396, 1397, 1398, 1399, 1400, 1401, 1402, 1403] (by decide +kernel) (by decide +kernel)
set_option maxRecDepth 20000 in
theorem gL_law_X6_talk : GoodIn wsL_law (wsV RL 211 RX6 yX6_talk wsX6_talk) := goodIn_app (goodIn_of _ (by decide +kernel)) ggL_law_X6_talk
set_option maxRecDepth 20000 in
theorem ggL_law_X7_talk : GoodIn wsL_law wsX7_talk := goodIn_r _ [1272, 151, 256, 114, 152, 153, 5, 154, 155, 156, 157, 158, 113, 1273, 1274, 1275, 1276, 122, 1277, 310, 311, 312, 313, 115, 119, 120, 117, 121, 314, 315, 316, 317, 118, 318, 319, 320, 321, 322, 323, 324, 738, 739, 740, 741, 325, 326, 327, 1357, 1358, 1359, 1360, 1361, 1362, 1363, 1364, 1365, 1366, 1367, 1368, 1369, 1370, 1371, 1372, 1373, 1374, 1375, 1376, 1377, 1378, 1379, 1380, 1381, 1382, 1383, 1384, 1385, 1386, 1387, 1388, 1389] (by decide +kernel) (by decide +kernel)
set_option maxRecDepth 20000 in
theorem gL_law_X7_talk : GoodIn wsL_law (wsV RL 214 RX7 yX7_talk wsX7_talk) := goodIn_app (goodIn_of _ (by decide +kernel)) ggL_law_X7_talk
set_option maxRecDepth 20000 in
theorem ggL_law_X6_round : GoodIn wsL_law wsX6_round := goodIn_r _ [1281, 16, 1282, 784, 785, 15, 786, 46, 58, 288, 289, 290, 291, 56, 54, 49, 279, 280, 281, 282, 47, 52, 53, 292, 293, 294, 295, 45, 296, 297, 298, 299, 55, 300, 2, 301, 787, 731, 732, 733, 286, 287, 272, 273, 274, 275, 276, 277, 278, 788, 789, 790, 791, 48, 755, 756, 757, 758, 689, 690, 691, 692, 1347, 1348, 1349, 1350, 1351, 1352, 1353, 1354, 1355, 1356, 1390, 1391, 1392, 1393, 1394, 1395, 1396, 1397, 1398, 1399, 1400, 1401, 1402, 1403] (by decide +kernel) (by decide +kernel)
set_option maxRecDepth 20000 in
theorem gL_law_X6_round : GoodIn wsL_law (wsV RL 215 RX6 yX6_round wsX6_round) := goodIn_app (goodIn_of _ (by decide +kernel)) ggL_law_X6_round
set_option maxRecDepth 20000 in
theorem ggL_law_X7_round : GoodIn wsL_law wsX7_round := goodIn_r _ [1286, 804, 805, 806, 5, 807, 256, 124, 121, 114, 120, 117, 119, 310, 311, 312, 313, 115, 314, 315, 316, 317, 118, 318, 319, 320, 321, 322, 323, 324, 738, 739, 740, 741, 325, 326, 327, 763, 764, 765, 766, 697, 698, 699, 700, 1357, 1358, 1359, 1360, 1361, 1362, 1363, 1364, 1365, 1366, 1367, 1368, 1369, 1370, 1371, 1372, 1373, 1374, 1375, 1376, 1377, 1378, 1379, 1380, 1381, 1382, 1383, 1384, 1385, 1386, 1387, 1388, 1389] (by decide +kernel) (by decide +kernel)
set_option maxRecDepth 20000 in
theorem gL_law_X7_round : GoodIn wsL_law (wsV RL 218 RX7 yX7_round wsX7_round) := goodIn_app (goodIn_of _ (by decide +kernel)) ggL_law_X7_round
set_option maxRecDepth 20000 in
theorem ggL_law_X6_night : GoodIn wsL_law wsX6_night := goodIn_r _ [1290, 16, 1291, 1292, 1293, 1294, 15, 1295, 50, 46, 56, 52, 54, 300, 2, 301, 1347, 1348, 1349, 1350, 1351, 1352, 1353, 1354, 1355, 1356, 1390, 1391, 1392, 1393, 1394, 1395, 1396, 1397, 1398, 1399, 1400, 1401, 1402, 1403] (by decide +kernel) (by decide +kernel)
set_option maxRecDepth 20000 in
theorem gL_law_X6_night : GoodIn wsL_law (wsV RL 219 RX6 yX6_night wsX6_night) := goodIn_app (goodIn_of _ (by decide +kernel)) ggL_law_X6_night
set_option maxRecDepth 20000 in
theorem ggL_law_X7_night : GoodIn wsL_law wsX7_night := goodIn_r _ [1299, 256, 115, 117, 119, 620, 328, 329, 5, 330, 322, 323, 324, 1357, 1358, 1359, 1360, 1361, 1362, 1363, 1364, 1365, 1366, 1367, 1368, 1369, 1370, 1371, 1372, 1373, 1374, 1375, 1376, 1377, 1378, 1379, 1380, 1381, 1382, 1383, 1384, 1385, 1386, 1387, 1388, 1389] (by decide +kernel) (by decide +kernel)
set_option maxRecDepth 20000 in
theorem gL_law_X7_night : GoodIn wsL_law (wsV RL 222 RX7 yX7_night wsX7_night) := goodIn_app (goodIn_of _ (by decide +kernel)) ggL_law_X7_night
set_option maxRecDepth 20000 in
theorem ggL_law_X6_seed : GoodIn wsL_law wsX6_seed := goodIn_r _ [1303, 16, 1304, 1347, 1348, 1349, 1350, 1351, 1352, 1353, 1354, 1355, 1356, 1390, 1391, 1392, 1393, 1394, 1395, 1396, 1397, 1398, 1399, 1400, 1401, 1402, 1403] (by decide +kernel) (by decide +kernel)
set_option maxRecDepth 20000 in
theorem gL_law_X6_seed : GoodIn wsL_law (wsV RL 223 RX6 yX6_seed wsX6_seed) := goodIn_app (goodIn_of _ (by decide +kernel)) ggL_law_X6_seed
set_option maxRecDepth 20000 in
theorem ggL_law_X7_seed : GoodIn wsL_law wsX7_seed := goodIn_r _ [1308, 122, 1357, 1358, 1359, 1360, 1361, 1362, 1363, 1364, 1365, 1366, 1367, 1368, 1369, 1370, 1371, 1372, 1373, 1374, 1375, 1376, 1377, 1378, 1379, 1380, 1381, 1382, 1383, 1384, 1385, 1386, 1387, 1388, 1389] (by decide +kernel) (by decide +kernel)
set_option maxRecDepth 20000 in
theorem gL_law_X7_seed : GoodIn wsL_law (wsV RL 226 RX7 yX7_seed wsX7_seed) := goodIn_app (goodIn_of _ (by decide +kernel)) ggL_law_X7_seed
set_option maxRecDepth 20000 in
theorem ggL_law_X6_image : GoodIn wsL_law wsX6_image := goodIn_r _ [1312, 17, 16, 41, 473, 474, 475, 15, 476, 45, 46, 47, 48, 49, 50, 51, 52, 477, 205, 206, 207, 53, 54, 55, 56, 57, 1347, 1348, 1349, 1350, 1351, 1352, 1353, 1354, 1355, 1356, 1390, 1391, 1392, 1393, 1394, 1395, 1396, 1397, 1398, 1399, 1400, 1401, 1402, 1403] (by decide +kernel) (by decide +kernel)
set_option maxRecDepth 20000 in
theorem gL_law_X6_image : GoodIn wsL_law (wsV RL 227 RX6 yX6_image wsX6_image) := goodIn_app (goodIn_of _ (by decide +kernel)) ggL_law_X6_image
set_option maxRecDepth 20000 in
theorem ggL_law_X7_image : GoodIn wsL_law wsX7_image := goodIn_r _ [1316, 1317, 614, 4, 5, 615, 102, 103, 104, 11, 12, 39, 105, 106, 107, 108, 65, 109, 110, 111, 112, 113, 114, 115, 116, 117, 118, 119, 120, 121, 122, 123, 124, 125, 126, 616, 617, 618, 619, 256, 620, 621, 622, 623, 1357, 1358, 1359, 1360, 1361, 1362, 1363, 1364, 1365, 1366, 1367, 1368, 1369, 1370, 1371, 1372, 1373, 1374, 1375, 1376, 1377, 1378, 1379, 1380, 1381, 1382, 1383, 1384, 1385, 1386, 1387, 1388, 1389] (by decide +kernel) (by decide +kernel)
set_option maxRecDepth 20000 in
theorem gL_law_X7_image : GoodIn wsL_law (wsV RL 230 RX7 yX7_image wsX7_image) := goodIn_app (goodIn_of _ (by decide +kernel)) ggL_law_X7_image
set_option maxRecDepth 20000 in
theorem ggL_law_X6_back : GoodIn wsL_law wsX6_back := goodIn_r _ [1321, 41, 16, 17, 22, 892, 137, 138, 139, 2, 140, 40, 473, 474, 475, 15, 476, 45, 46, 47, 48, 49, 50, 51, 52, 477, 205, 206, 207, 53, 54, 55, 56, 57, 1322, 1323, 1324, 21, 1325, 62, 1347, 1348, 1349, 1350, 1351, 1352, 1353, 1354, 1355, 1356, 1390, 1391, 1392, 1393, 1394, 1395, 1396, 1397, 1398, 1399, 1400, 1401, 1402, 1403, 1404, 1405, 1406] (by decide +kernel) (by decide +kernel)
set_option maxRecDepth 20000 in
theorem gL_law_X6_back : GoodIn wsL_law (wsV RL 231 RX6 yX6_back wsX6_back) := goodIn_app (goodIn_of _ (by decide +kernel)) ggL_law_X6_back
set_option maxRecDepth 20000 in
theorem ggL_law_X7_back : GoodIn wsL_law wsX7_back := goodIn_r _ [1329, 1317, 105, 111, 256, 155, 156, 157, 5, 158, 113, 616, 617, 618, 619, 114, 115, 116, 117, 118, 119, 120, 121, 620, 122, 621, 622, 623, 1357, 1358, 1359, 1360, 1361, 1362, 1363, 1364, 1365, 1366, 1367, 1368, 1369, 1370, 1371, 1372, 1373, 1374, 1375, 1376, 1377, 1378, 1379, 1380, 1381, 1382, 1383, 1384, 1385, 1386, 1387, 1388, 1389] (by decide +kernel) (by decide +kernel)
set_option maxRecDepth 20000 in
theorem gL_law_X7_back : GoodIn wsL_law (wsV RL 234 RX7 yX7_back wsX7_back) := goodIn_app (goodIn_of _ (by decide +kernel)) ggL_law_X7_back
set_option maxRecDepth 20000 in
theorem ggL_law_X6_status : GoodIn wsL_law wsX6_status := goodIn_r _ [1333, 16, 335, 892, 1334, 1335, 1336, 1291, 26, 449, 1304, 22, 40, 1337, 1338, 1339, 21, 1340, 62, 755, 756, 757, 15, 758, 46, 689, 690, 691, 692, 52, 53, 54, 272, 273, 274, 275, 276, 277, 278, 1003, 1004, 1005, 1006, 55, 286, 2, 287, 134, 135, 136, 1347, 1348, 1349, 1350, 1351, 1352, 1353, 1354, 1355, 1356, 1390, 1391, 1392, 1393, 1394, 1395, 1396, 1397, 1398, 1399, 1400, 1401, 1402, 1403, 1407, 1408, 1409, 1410, 1411, 1412, 1404, 1405, 1406] (by decide +kernel) (by decide +kernel)
set_option maxRecDepth 20000 in
theorem gL_law_X6_status : GoodIn wsL_law (wsV RL 235 RX6 yX6_status wsX6_status) := goodIn_app (goodIn_of _ (by decide +kernel)) ggL_law_X6_status
set_option maxRecDepth 20000 in
theorem ggL_law_X7_status : GoodIn wsL_law wsX7_status := goodIn_r _ [1344, 114, 256, 121, 620, 459, 122, 105, 1345, 1346, 113, 763, 764, 765, 5, 766, 697, 698, 699, 700, 117, 118, 119, 325, 326, 327, 1011, 1012, 1013, 1014, 120, 322, 323, 324, 152, 153, 154, 1357, 1358, 1359, 1360, 1361, 1362, 1363, 1364, 1365, 1366, 1367, 1368, 1369, 1370, 1371, 1372, 1373, 1374, 1375, 1376, 1377, 1378, 1379, 1380, 1381, 1382, 1383, 1384, 1385, 1386, 1387, 1388, 1389] (by decide +kernel) (by decide +kernel)
set_option maxRecDepth 20000 in
theorem gL_law_X7_status : GoodIn wsL_law (wsV RL 238 RX7 yX7_status wsX7_status) := goodIn_app (goodIn_of _ (by decide +kernel)) ggL_law_X7_status
theorem dL_law_0 : decode cL_law 0 = .ok (.new 7, 3) := by decide +kernel
theorem dL_law_3 : decode cL_law 3 = .ok (.dup, 1) := by decide +kernel
theorem dL_law_4 : decode cL_law 4 = .ok (.invokespecial 9, 3) := by decide +kernel
theorem dL_law_7 : decode cL_law 7 = .ok (.astore_n 1, 1) := by decide +kernel
theorem dL_law_8 : decode cL_law 8 = .ok (.new 10, 3) := by decide +kernel
theorem dL_law_11 : decode cL_law 11 = .ok (.dup, 1) := by decide +kernel
theorem dL_law_12 : decode cL_law 12 = .ok (.invokespecial 12, 3) := by decide +kernel
theorem dL_law_15 : decode cL_law 15 = .ok (.astore_n 2, 1) := by decide +kernel
theorem dL_law_16 : decode cL_law 16 = .ok (.iconst 0, 1) := by decide +kernel
theorem dL_law_17 : decode cL_law 17 = .ok (.istore_n 3, 1) := by decide +kernel
theorem dL_law_18 : decode cL_law 18 = .ok (.iload_n 3, 1) := by decide +kernel
theorem dL_law_19 : decode cL_law 19 = .ok (.aload_n 0, 1) := by decide +kernel
theorem dL_law_20 : decode cL_law 20 = .ok (.arraylength, 1) := by decide +kernel
theorem dL_law_21 : decode cL_law 21 = .ok (.bipush 6, 2) := by decide +kernel
theorem dL_law_23 : decode cL_law 23 = .ok (.isub, 1) := by decide +kernel
theorem dL_law_24 : decode cL_law 24 = .ok (.if_icmp .gt 1891, 3) := by decide +kernel
theorem dL_law_27 : decode cL_law 27 = .ok (.aload_n 0, 1) := by decide +kernel
theorem dL_law_28 : decode cL_law 28 = .ok (.iload_n 3, 1) := by decide +kernel
theorem dL_law_29 : decode cL_law 29 = .ok (.iaload, 1) := by decide +kernel
theorem dL_law_30 : decode cL_law 30 = .ok (.bipush 63, 2) := by decide +kernel
theorem dL_law_32 : decode cL_law 32 = .ok (.iand, 1) := by decide +kernel
theorem dL_law_33 : decode cL_law 33 = .ok (.tableswitch 1876 0 53 #[231, 274, 347, 410, 444, 467, 500, 533, 556, 589, 632, 691, 750, 783, 806, 819, 832, 865, 898, 921, 954, 997, 1010, 1043, 1066, 1079, 1102, 1135, 1168, 1201, 1224, 1257, 1300, 1313, 1346, 1359, 1382, 1415, 1438, 1451, 1484, 1527, 1560, 1603, 1636, 1679, 1722, 1755, 1778, 1791, 1804, 1827, 1840, 1853], 231) := by decide +kernel
theorem dL_law_264 : decode cL_law 264 = .ok (.aload_n 1, 1) := by decide +kernel
theorem dL_law_265 : decode cL_law 265 = .ok (.aload_n 0, 1) := by decide +kernel
theorem dL_law_266 : decode cL_law 266 = .ok (.iload_n 3, 1) := by decide +kernel
theorem dL_law_267 : decode cL_law 267 = .ok (.iconst 1, 1) := by decide +kernel
theorem dL_law_268 : decode cL_law 268 = .ok (.iadd, 1) := by decide +kernel
theorem dL_law_269 : decode cL_law 269 = .ok (.iaload, 1) := by decide +kernel
theorem dL_law_270 : decode cL_law 270 = .ok (.aload_n 0, 1) := by decide +kernel
theorem dL_law_271 : decode cL_law 271 = .ok (.iload_n 3, 1) := by decide +kernel
theorem dL_law_272 : decode cL_law 272 = .ok (.iconst 2, 1) := by decide +kernel
theorem dL_law_273 : decode cL_law 273 = .ok (.iadd, 1) := by decide +kernel
theorem dL_law_274 : decode cL_law 274 = .ok (.iaload, 1) := by decide +kernel
theorem dL_law_275 : decode cL_law 275 = .ok (.aload_n 0, 1) := by decide +kernel
theorem dL_law_276 : decode cL_law 276 = .ok (.iload_n 3, 1) := by decide +kernel
theorem dL_law_277 : decode cL_law 277 = .ok (.iconst 3, 1) := by decide +kernel
theorem dL_law_278 : decode cL_law 278 = .ok (.iadd, 1) := by decide +kernel
theorem dL_law_279 : decode cL_law 279 = .ok (.iaload, 1) := by decide +kernel
theorem dL_law_280 : decode cL_law 280 = .ok (.invokevirtual 13, 3) := by decide +kernel
theorem dL_law_283 : decode cL_law 283 = .ok (.aload_n 2, 1) := by decide +kernel
theorem dL_law_284 : decode cL_law 284 = .ok (.aload_n 0, 1) := by decide +kernel
theorem dL_law_285 : decode cL_law 285 = .ok (.iload_n 3, 1) := by decide +kernel
theorem dL_law_286 : decode cL_law 286 = .ok (.iconst 1, 1) := by decide +kernel
theorem dL_law_287 : decode cL_law 287 = .ok (.iadd, 1) := by decide +kernel
theorem dL_law_288 : decode cL_law 288 = .ok (.iaload, 1) := by decide +kernel
theorem dL_law_289 : decode cL_law 289 = .ok (.aload_n 0, 1) := by decide +kernel
theorem dL_law_290 : decode cL_law 290 = .ok (.iload_n 3, 1) := by decide +kernel
theorem dL_law_291 : decode cL_law 291 = .ok (.iconst 2, 1) := by decide +kernel
theorem dL_law_292 : decode cL_law 292 = .ok (.iadd, 1) := by decide +kernel
theorem dL_law_293 : decode cL_law 293 = .ok (.iaload, 1) := by decide +kernel
theorem dL_law_294 : decode cL_law 294 = .ok (.aload_n 0, 1) := by decide +kernel
theorem dL_law_295 : decode cL_law 295 = .ok (.iload_n 3, 1) := by decide +kernel
theorem dL_law_296 : decode cL_law 296 = .ok (.iconst 3, 1) := by decide +kernel
theorem dL_law_297 : decode cL_law 297 = .ok (.iadd, 1) := by decide +kernel
theorem dL_law_298 : decode cL_law 298 = .ok (.iaload, 1) := by decide +kernel
theorem dL_law_299 : decode cL_law 299 = .ok (.invokevirtual 17, 3) := by decide +kernel
theorem dL_law_302 : decode cL_law 302 = .ok (.if_icmp .eq 1607, 3) := by decide +kernel
theorem dL_law_305 : decode cL_law 305 = .ok (.iconst 0, 1) := by decide +kernel
theorem dL_law_306 : decode cL_law 306 = .ok (.ireturn, 1) := by decide +kernel
theorem dL_law_307 : decode cL_law 307 = .ok (.aload_n 1, 1) := by decide +kernel
theorem dL_law_308 : decode cL_law 308 = .ok (.aload_n 0, 1) := by decide +kernel
theorem dL_law_309 : decode cL_law 309 = .ok (.iload_n 3, 1) := by decide +kernel
theorem dL_law_310 : decode cL_law 310 = .ok (.iconst 1, 1) := by decide +kernel
theorem dL_law_311 : decode cL_law 311 = .ok (.iadd, 1) := by decide +kernel
theorem dL_law_312 : decode cL_law 312 = .ok (.iaload, 1) := by decide +kernel
theorem dL_law_313 : decode cL_law 313 = .ok (.aload_n 0, 1) := by decide +kernel
theorem dL_law_314 : decode cL_law 314 = .ok (.iload_n 3, 1) := by decide +kernel
theorem dL_law_315 : decode cL_law 315 = .ok (.iconst 2, 1) := by decide +kernel
theorem dL_law_316 : decode cL_law 316 = .ok (.iadd, 1) := by decide +kernel
theorem dL_law_317 : decode cL_law 317 = .ok (.iaload, 1) := by decide +kernel
theorem dL_law_318 : decode cL_law 318 = .ok (.aload_n 0, 1) := by decide +kernel
theorem dL_law_319 : decode cL_law 319 = .ok (.iload_n 3, 1) := by decide +kernel
theorem dL_law_320 : decode cL_law 320 = .ok (.iconst 3, 1) := by decide +kernel
theorem dL_law_321 : decode cL_law 321 = .ok (.iadd, 1) := by decide +kernel
theorem dL_law_322 : decode cL_law 322 = .ok (.iaload, 1) := by decide +kernel
theorem dL_law_323 : decode cL_law 323 = .ok (.i2l, 1) := by decide +kernel
theorem dL_law_324 : decode cL_law 324 = .ok (.bipush 32, 2) := by decide +kernel
theorem dL_law_326 : decode cL_law 326 = .ok (.lshl, 1) := by decide +kernel
theorem dL_law_327 : decode cL_law 327 = .ok (.aload_n 0, 1) := by decide +kernel
theorem dL_law_328 : decode cL_law 328 = .ok (.iload_n 3, 1) := by decide +kernel
theorem dL_law_329 : decode cL_law 329 = .ok (.iconst 4, 1) := by decide +kernel
theorem dL_law_330 : decode cL_law 330 = .ok (.iadd, 1) := by decide +kernel
theorem dL_law_331 : decode cL_law 331 = .ok (.iaload, 1) := by decide +kernel
theorem dL_law_332 : decode cL_law 332 = .ok (.i2l, 1) := by decide +kernel
theorem dL_law_333 : decode cL_law 333 = .ok (.ldc2_w 18, 3) := by decide +kernel
theorem dL_law_336 : decode cL_law 336 = .ok (.land, 1) := by decide +kernel
theorem dL_law_337 : decode cL_law 337 = .ok (.lor, 1) := by decide +kernel
theorem dL_law_338 : decode cL_law 338 = .ok (.invokevirtual 20, 3) := by decide +kernel
theorem dL_law_341 : decode cL_law 341 = .ok (.aload_n 2, 1) := by decide +kernel
theorem dL_law_342 : decode cL_law 342 = .ok (.aload_n 0, 1) := by decide +kernel
theorem dL_law_343 : decode cL_law 343 = .ok (.iload_n 3, 1) := by decide +kernel
theorem dL_law_344 : decode cL_law 344 = .ok (.iconst 1, 1) := by decide +kernel
theorem dL_law_345 : decode cL_law 345 = .ok (.iadd, 1) := by decide +kernel
theorem dL_law_346 : decode cL_law 346 = .ok (.iaload, 1) := by decide +kernel
theorem dL_law_347 : decode cL_law 347 = .ok (.aload_n 0, 1) := by decide +kernel
theorem dL_law_348 : decode cL_law 348 = .ok (.iload_n 3, 1) := by decide +kernel
theorem dL_law_349 : decode cL_law 349 = .ok (.iconst 2, 1) := by decide +kernel
theorem dL_law_350 : decode cL_law 350 = .ok (.iadd, 1) := by decide +kernel
theorem dL_law_351 : decode cL_law 351 = .ok (.iaload, 1) := by decide +kernel
theorem dL_law_352 : decode cL_law 352 = .ok (.aload_n 0, 1) := by decide +kernel
theorem dL_law_353 : decode cL_law 353 = .ok (.iload_n 3, 1) := by decide +kernel
theorem dL_law_354 : decode cL_law 354 = .ok (.iconst 3, 1) := by decide +kernel
theorem dL_law_355 : decode cL_law 355 = .ok (.iadd, 1) := by decide +kernel
theorem dL_law_356 : decode cL_law 356 = .ok (.iaload, 1) := by decide +kernel
theorem dL_law_357 : decode cL_law 357 = .ok (.i2l, 1) := by decide +kernel
theorem dL_law_358 : decode cL_law 358 = .ok (.bipush 32, 2) := by decide +kernel
theorem dL_law_360 : decode cL_law 360 = .ok (.lshl, 1) := by decide +kernel
theorem dL_law_361 : decode cL_law 361 = .ok (.aload_n 0, 1) := by decide +kernel
theorem dL_law_362 : decode cL_law 362 = .ok (.iload_n 3, 1) := by decide +kernel
theorem dL_law_363 : decode cL_law 363 = .ok (.iconst 4, 1) := by decide +kernel
theorem dL_law_364 : decode cL_law 364 = .ok (.iadd, 1) := by decide +kernel
theorem dL_law_365 : decode cL_law 365 = .ok (.iaload, 1) := by decide +kernel
theorem dL_law_366 : decode cL_law 366 = .ok (.i2l, 1) := by decide +kernel
theorem dL_law_367 : decode cL_law 367 = .ok (.ldc2_w 18, 3) := by decide +kernel
theorem dL_law_370 : decode cL_law 370 = .ok (.land, 1) := by decide +kernel
theorem dL_law_371 : decode cL_law 371 = .ok (.lor, 1) := by decide +kernel
theorem dL_law_372 : decode cL_law 372 = .ok (.invokevirtual 24, 3) := by decide +kernel
theorem dL_law_375 : decode cL_law 375 = .ok (.if_icmp .eq 1534, 3) := by decide +kernel
theorem dL_law_378 : decode cL_law 378 = .ok (.iconst 0, 1) := by decide +kernel
theorem dL_law_379 : decode cL_law 379 = .ok (.ireturn, 1) := by decide +kernel
theorem dL_law_380 : decode cL_law 380 = .ok (.aload_n 1, 1) := by decide +kernel
theorem dL_law_381 : decode cL_law 381 = .ok (.aload_n 0, 1) := by decide +kernel
theorem dL_law_382 : decode cL_law 382 = .ok (.iload_n 3, 1) := by decide +kernel
theorem dL_law_383 : decode cL_law 383 = .ok (.iconst 1, 1) := by decide +kernel
theorem dL_law_384 : decode cL_law 384 = .ok (.iadd, 1) := by decide +kernel
theorem dL_law_385 : decode cL_law 385 = .ok (.iaload, 1) := by decide +kernel
theorem dL_law_386 : decode cL_law 386 = .ok (.aload_n 0, 1) := by decide +kernel
theorem dL_law_387 : decode cL_law 387 = .ok (.iload_n 3, 1) := by decide +kernel
theorem dL_law_388 : decode cL_law 388 = .ok (.iconst 2, 1) := by decide +kernel
theorem dL_law_389 : decode cL_law 389 = .ok (.iadd, 1) := by decide +kernel
theorem dL_law_390 : decode cL_law 390 = .ok (.iaload, 1) := by decide +kernel
theorem dL_law_391 : decode cL_law 391 = .ok (.aload_n 0, 1) := by decide +kernel
theorem dL_law_392 : decode cL_law 392 = .ok (.iload_n 3, 1) := by decide +kernel
theorem dL_law_393 : decode cL_law 393 = .ok (.iconst 3, 1) := by decide +kernel
theorem dL_law_394 : decode cL_law 394 = .ok (.iadd, 1) := by decide +kernel
theorem dL_law_395 : decode cL_law 395 = .ok (.iaload, 1) := by decide +kernel
theorem dL_law_396 : decode cL_law 396 = .ok (.aload_n 0, 1) := by decide +kernel
theorem dL_law_397 : decode cL_law 397 = .ok (.iload_n 3, 1) := by decide +kernel
theorem dL_law_398 : decode cL_law 398 = .ok (.iconst 4, 1) := by decide +kernel
theorem dL_law_399 : decode cL_law 399 = .ok (.iadd, 1) := by decide +kernel
theorem dL_law_400 : decode cL_law 400 = .ok (.iaload, 1) := by decide +kernel
theorem dL_law_401 : decode cL_law 401 = .ok (.aload_n 0, 1) := by decide +kernel
theorem dL_law_402 : decode cL_law 402 = .ok (.iload_n 3, 1) := by decide +kernel
theorem dL_law_403 : decode cL_law 403 = .ok (.iconst 5, 1) := by decide +kernel
theorem dL_law_404 : decode cL_law 404 = .ok (.iadd, 1) := by decide +kernel
theorem dL_law_405 : decode cL_law 405 = .ok (.iaload, 1) := by decide +kernel
theorem dL_law_406 : decode cL_law 406 = .ok (.invokevirtual 25, 3) := by decide +kernel
theorem dL_law_409 : decode cL_law 409 = .ok (.aload_n 2, 1) := by decide +kernel
theorem dL_law_410 : decode cL_law 410 = .ok (.aload_n 0, 1) := by decide +kernel
theorem dL_law_411 : decode cL_law 411 = .ok (.iload_n 3, 1) := by decide +kernel
theorem dL_law_412 : decode cL_law 412 = .ok (.iconst 1, 1) := by decide +kernel
theorem dL_law_413 : decode cL_law 413 = .ok (.iadd, 1) := by decide +kernel
theorem dL_law_414 : decode cL_law 414 = .ok (.iaload, 1) := by decide +kernel
theorem dL_law_415 : decode cL_law 415 = .ok (.aload_n 0, 1) := by decide +kernel
theorem dL_law_416 : decode cL_law 416 = .ok (.iload_n 3, 1) := by decide +kernel
theorem dL_law_417 : decode cL_law 417 = .ok (.iconst 2, 1) := by decide +kernel
theorem dL_law_418 : decode cL_law 418 = .ok (.iadd, 1) := by decide +kernel
theorem dL_law_419 : decode cL_law 419 = .ok (.iaload, 1) := by decide +kernel
theorem dL_law_420 : decode cL_law 420 = .ok (.aload_n 0, 1) := by decide +kernel
theorem dL_law_421 : decode cL_law 421 = .ok (.iload_n 3, 1) := by decide +kernel
theorem dL_law_422 : decode cL_law 422 = .ok (.iconst 3, 1) := by decide +kernel
theorem dL_law_423 : decode cL_law 423 = .ok (.iadd, 1) := by decide +kernel
theorem dL_law_424 : decode cL_law 424 = .ok (.iaload, 1) := by decide +kernel
theorem dL_law_425 : decode cL_law 425 = .ok (.aload_n 0, 1) := by decide +kernel
theorem dL_law_426 : decode cL_law 426 = .ok (.iload_n 3, 1) := by decide +kernel
theorem dL_law_427 : decode cL_law 427 = .ok (.iconst 4, 1) := by decide +kernel
theorem dL_law_428 : decode cL_law 428 = .ok (.iadd, 1) := by decide +kernel
theorem dL_law_429 : decode cL_law 429 = .ok (.iaload, 1) := by decide +kernel
theorem dL_law_430 : decode cL_law 430 = .ok (.aload_n 0, 1) := by decide +kernel
theorem dL_law_431 : decode cL_law 431 = .ok (.iload_n 3, 1) := by decide +kernel
theorem dL_law_432 : decode cL_law 432 = .ok (.iconst 5, 1) := by decide +kernel
theorem dL_law_433 : decode cL_law 433 = .ok (.iadd, 1) := by decide +kernel
theorem dL_law_434 : decode cL_law 434 = .ok (.iaload, 1) := by decide +kernel
theorem dL_law_435 : decode cL_law 435 = .ok (.invokevirtual 29, 3) := by decide +kernel
theorem dL_law_438 : decode cL_law 438 = .ok (.if_icmp .eq 1471, 3) := by decide +kernel
theorem dL_law_441 : decode cL_law 441 = .ok (.iconst 0, 1) := by decide +kernel
theorem dL_law_442 : decode cL_law 442 = .ok (.ireturn, 1) := by decide +kernel
theorem dL_law_443 : decode cL_law 443 = .ok (.aload_n 1, 1) := by decide +kernel
theorem dL_law_444 : decode cL_law 444 = .ok (.aload_n 0, 1) := by decide +kernel
theorem dL_law_445 : decode cL_law 445 = .ok (.iload_n 3, 1) := by decide +kernel
theorem dL_law_446 : decode cL_law 446 = .ok (.iconst 1, 1) := by decide +kernel
theorem dL_law_447 : decode cL_law 447 = .ok (.iadd, 1) := by decide +kernel
theorem dL_law_448 : decode cL_law 448 = .ok (.iaload, 1) := by decide +kernel
theorem dL_law_449 : decode cL_law 449 = .ok (.aload_n 0, 1) := by decide +kernel
theorem dL_law_450 : decode cL_law 450 = .ok (.iload_n 3, 1) := by decide +kernel
theorem dL_law_451 : decode cL_law 451 = .ok (.iconst 2, 1) := by decide +kernel
theorem dL_law_452 : decode cL_law 452 = .ok (.iadd, 1) := by decide +kernel
theorem dL_law_453 : decode cL_law 453 = .ok (.iaload, 1) := by decide +kernel
theorem dL_law_454 : decode cL_law 454 = .ok (.invokevirtual 30, 3) := by decide +kernel
theorem dL_law_457 : decode cL_law 457 = .ok (.aload_n 2, 1) := by decide +kernel
theorem dL_law_458 : decode cL_law 458 = .ok (.aload_n 0, 1) := by decide +kernel
theorem dL_law_459 : decode cL_law 459 = .ok (.iload_n 3, 1) := by decide +kernel
theorem dL_law_460 : decode cL_law 460 = .ok (.iconst 1, 1) := by decide +kernel
theorem dL_law_461 : decode cL_law 461 = .ok (.iadd, 1) := by decide +kernel
theorem dL_law_462 : decode cL_law 462 = .ok (.iaload, 1) := by decide +kernel
theorem dL_law_463 : decode cL_law 463 = .ok (.aload_n 0, 1) := by decide +kernel
theorem dL_law_464 : decode cL_law 464 = .ok (.iload_n 3, 1) := by decide +kernel
theorem dL_law_465 : decode cL_law 465 = .ok (.iconst 2, 1) := by decide +kernel
theorem dL_law_466 : decode cL_law 466 = .ok (.iadd, 1) := by decide +kernel
theorem dL_law_467 : decode cL_law 467 = .ok (.iaload, 1) := by decide +kernel
theorem dL_law_468 : decode cL_law 468 = .ok (.invokevirtual 34, 3) := by decide +kernel
theorem dL_law_471 : decode cL_law 471 = .ok (.lcmp, 1) := by decide +kernel
theorem dL_law_472 : decode cL_law 472 = .ok (.ifCond .eq 1437, 3) := by decide +kernel
theorem dL_law_475 : decode cL_law 475 = .ok (.iconst 0, 1) := by decide +kernel
theorem dL_law_476 : decode cL_law 476 = .ok (.ireturn, 1) := by decide +kernel
theorem dL_law_477 : decode cL_law 477 = .ok (.aload_n 1, 1) := by decide +kernel
theorem dL_law_478 : decode cL_law 478 = .ok (.aload_n 0, 1) := by decide +kernel
theorem dL_law_479 : decode cL_law 479 = .ok (.iload_n 3, 1) := by decide +kernel
theorem dL_law_480 : decode cL_law 480 = .ok (.iconst 1, 1) := by decide +kernel
theorem dL_law_481 : decode cL_law 481 = .ok (.iadd, 1) := by decide +kernel
theorem dL_law_482 : decode cL_law 482 = .ok (.iaload, 1) := by decide +kernel
theorem dL_law_483 : decode cL_law 483 = .ok (.invokevirtual 35, 3) := by decide +kernel
theorem dL_law_486 : decode cL_law 486 = .ok (.aload_n 2, 1) := by decide +kernel
theorem dL_law_487 : decode cL_law 487 = .ok (.aload_n 0, 1) := by decide +kernel
theorem dL_law_488 : decode cL_law 488 = .ok (.iload_n 3, 1) := by decide +kernel
theorem dL_law_489 : decode cL_law 489 = .ok (.iconst 1, 1) := by decide +kernel
theorem dL_law_490 : decode cL_law 490 = .ok (.iadd, 1) := by decide +kernel
theorem dL_law_491 : decode cL_law 491 = .ok (.iaload, 1) := by decide +kernel
theorem dL_law_492 : decode cL_law 492 = .ok (.invokevirtual 39, 3) := by decide +kernel
theorem dL_law_495 : decode cL_law 495 = .ok (.if_icmp .eq 1414, 3) := by decide +kernel
theorem dL_law_498 : decode cL_law 498 = .ok (.iconst 0, 1) := by decide +kernel
theorem dL_law_499 : decode cL_law 499 = .ok (.ireturn, 1) := by decide +kernel
theorem dL_law_500 : decode cL_law 500 = .ok (.aload_n 1, 1) := by decide +kernel
theorem dL_law_501 : decode cL_law 501 = .ok (.aload_n 0, 1) := by decide +kernel
theorem dL_law_502 : decode cL_law 502 = .ok (.iload_n 3, 1) := by decide +kernel
theorem dL_law_503 : decode cL_law 503 = .ok (.iconst 1, 1) := by decide +kernel
theorem dL_law_504 : decode cL_law 504 = .ok (.iadd, 1) := by decide +kernel
theorem dL_law_505 : decode cL_law 505 = .ok (.iaload, 1) := by decide +kernel
theorem dL_law_506 : decode cL_law 506 = .ok (.aload_n 0, 1) := by decide +kernel
theorem dL_law_507 : decode cL_law 507 = .ok (.iload_n 3, 1) := by decide +kernel
theorem dL_law_508 : decode cL_law 508 = .ok (.iconst 2, 1) := by decide +kernel
theorem dL_law_509 : decode cL_law 509 = .ok (.iadd, 1) := by decide +kernel
theorem dL_law_510 : decode cL_law 510 = .ok (.iaload, 1) := by decide +kernel
theorem dL_law_511 : decode cL_law 511 = .ok (.invokevirtual 40, 3) := by decide +kernel
theorem dL_law_514 : decode cL_law 514 = .ok (.aload_n 2, 1) := by decide +kernel
theorem dL_law_515 : decode cL_law 515 = .ok (.aload_n 0, 1) := by decide +kernel
theorem dL_law_516 : decode cL_law 516 = .ok (.iload_n 3, 1) := by decide +kernel
theorem dL_law_517 : decode cL_law 517 = .ok (.iconst 1, 1) := by decide +kernel
theorem dL_law_518 : decode cL_law 518 = .ok (.iadd, 1) := by decide +kernel
theorem dL_law_519 : decode cL_law 519 = .ok (.iaload, 1) := by decide +kernel
theorem dL_law_520 : decode cL_law 520 = .ok (.aload_n 0, 1) := by decide +kernel
theorem dL_law_521 : decode cL_law 521 = .ok (.iload_n 3, 1) := by decide +kernel
theorem dL_law_522 : decode cL_law 522 = .ok (.iconst 2, 1) := by decide +kernel
theorem dL_law_523 : decode cL_law 523 = .ok (.iadd, 1) := by decide +kernel
theorem dL_law_524 : decode cL_law 524 = .ok (.iaload, 1) := by decide +kernel
theorem dL_law_525 : decode cL_law 525 = .ok (.invokevirtual 44, 3) := by decide +kernel
theorem dL_law_528 : decode cL_law 528 = .ok (.if_icmp .eq 1381, 3) := by decide +kernel
theorem dL_law_531 : decode cL_law 531 = .ok (.iconst 0, 1) := by decide +kernel
theorem dL_law_532 : decode cL_law 532 = .ok (.ireturn, 1) := by decide +kernel
theorem dL_law_533 : decode cL_law 533 = .ok (.aload_n 1, 1) := by decide +kernel
theorem dL_law_534 : decode cL_law 534 = .ok (.aload_n 0, 1) := by decide +kernel
theorem dL_law_535 : decode cL_law 535 = .ok (.iload_n 3, 1) := by decide +kernel
theorem dL_law_536 : decode cL_law 536 = .ok (.iconst 1, 1) := by decide +kernel
theorem dL_law_537 : decode cL_law 537 = .ok (.iadd, 1) := by decide +kernel
theorem dL_law_538 : decode cL_law 538 = .ok (.iaload, 1) := by decide +kernel
theorem dL_law_539 : decode cL_law 539 = .ok (.aload_n 0, 1) := by decide +kernel
theorem dL_law_540 : decode cL_law 540 = .ok (.iload_n 3, 1) := by decide +kernel
theorem dL_law_541 : decode cL_law 541 = .ok (.iconst 2, 1) := by decide +kernel
theorem dL_law_542 : decode cL_law 542 = .ok (.iadd, 1) := by decide +kernel
theorem dL_law_543 : decode cL_law 543 = .ok (.iaload, 1) := by decide +kernel
theorem dL_law_544 : decode cL_law 544 = .ok (.invokevirtual 45, 3) := by decide +kernel
theorem dL_law_547 : decode cL_law 547 = .ok (.aload_n 2, 1) := by decide +kernel
theorem dL_law_548 : decode cL_law 548 = .ok (.aload_n 0, 1) := by decide +kernel
theorem dL_law_549 : decode cL_law 549 = .ok (.iload_n 3, 1) := by decide +kernel
theorem dL_law_550 : decode cL_law 550 = .ok (.iconst 1, 1) := by decide +kernel
theorem dL_law_551 : decode cL_law 551 = .ok (.iadd, 1) := by decide +kernel
theorem dL_law_552 : decode cL_law 552 = .ok (.iaload, 1) := by decide +kernel
theorem dL_law_553 : decode cL_law 553 = .ok (.aload_n 0, 1) := by decide +kernel
theorem dL_law_554 : decode cL_law 554 = .ok (.iload_n 3, 1) := by decide +kernel
theorem dL_law_555 : decode cL_law 555 = .ok (.iconst 2, 1) := by decide +kernel
theorem dL_law_556 : decode cL_law 556 = .ok (.iadd, 1) := by decide +kernel
theorem dL_law_557 : decode cL_law 557 = .ok (.iaload, 1) := by decide +kernel
theorem dL_law_558 : decode cL_law 558 = .ok (.invokevirtual 48, 3) := by decide +kernel
theorem dL_law_561 : decode cL_law 561 = .ok (.if_icmp .eq 1348, 3) := by decide +kernel
theorem dL_law_564 : decode cL_law 564 = .ok (.iconst 0, 1) := by decide +kernel
theorem dL_law_565 : decode cL_law 565 = .ok (.ireturn, 1) := by decide +kernel
theorem dL_law_566 : decode cL_law 566 = .ok (.aload_n 1, 1) := by decide +kernel
theorem dL_law_567 : decode cL_law 567 = .ok (.aload_n 0, 1) := by decide +kernel
theorem dL_law_568 : decode cL_law 568 = .ok (.iload_n 3, 1) := by decide +kernel
theorem dL_law_569 : decode cL_law 569 = .ok (.iconst 1, 1) := by decide +kernel
theorem dL_law_570 : decode cL_law 570 = .ok (.iadd, 1) := by decide +kernel
theorem dL_law_571 : decode cL_law 571 = .ok (.iaload, 1) := by decide +kernel
theorem dL_law_572 : decode cL_law 572 = .ok (.invokevirtual 49, 3) := by decide +kernel
theorem dL_law_575 : decode cL_law 575 = .ok (.aload_n 2, 1) := by decide +kernel
theorem dL_law_576 : decode cL_law 576 = .ok (.aload_n 0, 1) := by decide +kernel
theorem dL_law_577 : decode cL_law 577 = .ok (.iload_n 3, 1) := by decide +kernel
theorem dL_law_578 : decode cL_law 578 = .ok (.iconst 1, 1) := by decide +kernel
theorem dL_law_579 : decode cL_law 579 = .ok (.iadd, 1) := by decide +kernel
theorem dL_law_580 : decode cL_law 580 = .ok (.iaload, 1) := by decide +kernel
theorem dL_law_581 : decode cL_law 581 = .ok (.invokevirtual 52, 3) := by decide +kernel
theorem dL_law_584 : decode cL_law 584 = .ok (.if_icmp .eq 1325, 3) := by decide +kernel
theorem dL_law_587 : decode cL_law 587 = .ok (.iconst 0, 1) := by decide +kernel
theorem dL_law_588 : decode cL_law 588 = .ok (.ireturn, 1) := by decide +kernel
theorem dL_law_589 : decode cL_law 589 = .ok (.aload_n 1, 1) := by decide +kernel
theorem dL_law_590 : decode cL_law 590 = .ok (.aload_n 0, 1) := by decide +kernel
theorem dL_law_591 : decode cL_law 591 = .ok (.iload_n 3, 1) := by decide +kernel
theorem dL_law_592 : decode cL_law 592 = .ok (.iconst 1, 1) := by decide +kernel
theorem dL_law_593 : decode cL_law 593 = .ok (.iadd, 1) := by decide +kernel
theorem dL_law_594 : decode cL_law 594 = .ok (.iaload, 1) := by decide +kernel
theorem dL_law_595 : decode cL_law 595 = .ok (.aload_n 0, 1) := by decide +kernel
theorem dL_law_596 : decode cL_law 596 = .ok (.iload_n 3, 1) := by decide +kernel
theorem dL_law_597 : decode cL_law 597 = .ok (.iconst 2, 1) := by decide +kernel
theorem dL_law_598 : decode cL_law 598 = .ok (.iadd, 1) := by decide +kernel
theorem dL_law_599 : decode cL_law 599 = .ok (.iaload, 1) := by decide +kernel
theorem dL_law_600 : decode cL_law 600 = .ok (.invokevirtual 53, 3) := by decide +kernel
theorem dL_law_603 : decode cL_law 603 = .ok (.aload_n 2, 1) := by decide +kernel
theorem dL_law_604 : decode cL_law 604 = .ok (.aload_n 0, 1) := by decide +kernel
theorem dL_law_605 : decode cL_law 605 = .ok (.iload_n 3, 1) := by decide +kernel
theorem dL_law_606 : decode cL_law 606 = .ok (.iconst 1, 1) := by decide +kernel
theorem dL_law_607 : decode cL_law 607 = .ok (.iadd, 1) := by decide +kernel
theorem dL_law_608 : decode cL_law 608 = .ok (.iaload, 1) := by decide +kernel
theorem dL_law_609 : decode cL_law 609 = .ok (.aload_n 0, 1) := by decide +kernel
theorem dL_law_610 : decode cL_law 610 = .ok (.iload_n 3, 1) := by decide +kernel
theorem dL_law_611 : decode cL_law 611 = .ok (.iconst 2, 1) := by decide +kernel
theorem dL_law_612 : decode cL_law 612 = .ok (.iadd, 1) := by decide +kernel
theorem dL_law_613 : decode cL_law 613 = .ok (.iaload, 1) := by decide +kernel
theorem dL_law_614 : decode cL_law 614 = .ok (.invokevirtual 56, 3) := by decide +kernel
theorem dL_law_617 : decode cL_law 617 = .ok (.if_icmp .eq 1292, 3) := by decide +kernel
theorem dL_law_620 : decode cL_law 620 = .ok (.iconst 0, 1) := by decide +kernel
theorem dL_law_621 : decode cL_law 621 = .ok (.ireturn, 1) := by decide +kernel
theorem dL_law_622 : decode cL_law 622 = .ok (.aload_n 1, 1) := by decide +kernel
theorem dL_law_623 : decode cL_law 623 = .ok (.aload_n 0, 1) := by decide +kernel
theorem dL_law_624 : decode cL_law 624 = .ok (.iload_n 3, 1) := by decide +kernel
theorem dL_law_625 : decode cL_law 625 = .ok (.iconst 1, 1) := by decide +kernel
theorem dL_law_626 : decode cL_law 626 = .ok (.iadd, 1) := by decide +kernel
theorem dL_law_627 : decode cL_law 627 = .ok (.iaload, 1) := by decide +kernel
theorem dL_law_628 : decode cL_law 628 = .ok (.aload_n 0, 1) := by decide +kernel
theorem dL_law_629 : decode cL_law 629 = .ok (.iload_n 3, 1) := by decide +kernel
theorem dL_law_630 : decode cL_law 630 = .ok (.iconst 2, 1) := by decide +kernel
theorem dL_law_631 : decode cL_law 631 = .ok (.iadd, 1) := by decide +kernel
theorem dL_law_632 : decode cL_law 632 = .ok (.iaload, 1) := by decide +kernel
theorem dL_law_633 : decode cL_law 633 = .ok (.aload_n 0, 1) := by decide +kernel
theorem dL_law_634 : decode cL_law 634 = .ok (.iload_n 3, 1) := by decide +kernel
theorem dL_law_635 : decode cL_law 635 = .ok (.iconst 3, 1) := by decide +kernel
theorem dL_law_636 : decode cL_law 636 = .ok (.iadd, 1) := by decide +kernel
theorem dL_law_637 : decode cL_law 637 = .ok (.iaload, 1) := by decide +kernel
theorem dL_law_638 : decode cL_law 638 = .ok (.invokevirtual 57, 3) := by decide +kernel
theorem dL_law_641 : decode cL_law 641 = .ok (.aload_n 2, 1) := by decide +kernel
theorem dL_law_642 : decode cL_law 642 = .ok (.aload_n 0, 1) := by decide +kernel
theorem dL_law_643 : decode cL_law 643 = .ok (.iload_n 3, 1) := by decide +kernel
theorem dL_law_644 : decode cL_law 644 = .ok (.iconst 1, 1) := by decide +kernel
theorem dL_law_645 : decode cL_law 645 = .ok (.iadd, 1) := by decide +kernel
theorem dL_law_646 : decode cL_law 646 = .ok (.iaload, 1) := by decide +kernel
theorem dL_law_647 : decode cL_law 647 = .ok (.aload_n 0, 1) := by decide +kernel
theorem dL_law_648 : decode cL_law 648 = .ok (.iload_n 3, 1) := by decide +kernel
theorem dL_law_649 : decode cL_law 649 = .ok (.iconst 2, 1) := by decide +kernel
theorem dL_law_650 : decode cL_law 650 = .ok (.iadd, 1) := by decide +kernel
theorem dL_law_651 : decode cL_law 651 = .ok (.iaload, 1) := by decide +kernel
theorem dL_law_652 : decode cL_law 652 = .ok (.aload_n 0, 1) := by decide +kernel
theorem dL_law_653 : decode cL_law 653 = .ok (.iload_n 3, 1) := by decide +kernel
theorem dL_law_654 : decode cL_law 654 = .ok (.iconst 3, 1) := by decide +kernel
theorem dL_law_655 : decode cL_law 655 = .ok (.iadd, 1) := by decide +kernel
theorem dL_law_656 : decode cL_law 656 = .ok (.iaload, 1) := by decide +kernel
theorem dL_law_657 : decode cL_law 657 = .ok (.invokevirtual 60, 3) := by decide +kernel
theorem dL_law_660 : decode cL_law 660 = .ok (.if_icmp .eq 1249, 3) := by decide +kernel
theorem dL_law_663 : decode cL_law 663 = .ok (.iconst 0, 1) := by decide +kernel
theorem dL_law_664 : decode cL_law 664 = .ok (.ireturn, 1) := by decide +kernel
theorem dL_law_665 : decode cL_law 665 = .ok (.aload_n 1, 1) := by decide +kernel
theorem dL_law_666 : decode cL_law 666 = .ok (.aload_n 0, 1) := by decide +kernel
theorem dL_law_667 : decode cL_law 667 = .ok (.iload_n 3, 1) := by decide +kernel
theorem dL_law_668 : decode cL_law 668 = .ok (.iconst 1, 1) := by decide +kernel
theorem dL_law_669 : decode cL_law 669 = .ok (.iadd, 1) := by decide +kernel
theorem dL_law_670 : decode cL_law 670 = .ok (.iaload, 1) := by decide +kernel
theorem dL_law_671 : decode cL_law 671 = .ok (.aload_n 0, 1) := by decide +kernel
theorem dL_law_672 : decode cL_law 672 = .ok (.iload_n 3, 1) := by decide +kernel
theorem dL_law_673 : decode cL_law 673 = .ok (.iconst 2, 1) := by decide +kernel
theorem dL_law_674 : decode cL_law 674 = .ok (.iadd, 1) := by decide +kernel
theorem dL_law_675 : decode cL_law 675 = .ok (.iaload, 1) := by decide +kernel
theorem dL_law_676 : decode cL_law 676 = .ok (.aload_n 0, 1) := by decide +kernel
theorem dL_law_677 : decode cL_law 677 = .ok (.iload_n 3, 1) := by decide +kernel
theorem dL_law_678 : decode cL_law 678 = .ok (.iconst 3, 1) := by decide +kernel
theorem dL_law_679 : decode cL_law 679 = .ok (.iadd, 1) := by decide +kernel
theorem dL_law_680 : decode cL_law 680 = .ok (.iaload, 1) := by decide +kernel
theorem dL_law_681 : decode cL_law 681 = .ok (.ifCond .eq 7, 3) := by decide +kernel
theorem dL_law_684 : decode cL_law 684 = .ok (.iconst 1, 1) := by decide +kernel
theorem dL_law_685 : decode cL_law 685 = .ok (.goto 4, 3) := by decide +kernel
theorem dL_law_688 : decode cL_law 688 = .ok (.iconst 0, 1) := by decide +kernel
theorem dL_law_689 : decode cL_law 689 = .ok (.invokevirtual 61, 3) := by decide +kernel
theorem dL_law_692 : decode cL_law 692 = .ok (.aload_n 2, 1) := by decide +kernel
theorem dL_law_693 : decode cL_law 693 = .ok (.aload_n 0, 1) := by decide +kernel
theorem dL_law_694 : decode cL_law 694 = .ok (.iload_n 3, 1) := by decide +kernel
theorem dL_law_695 : decode cL_law 695 = .ok (.iconst 1, 1) := by decide +kernel
theorem dL_law_696 : decode cL_law 696 = .ok (.iadd, 1) := by decide +kernel
theorem dL_law_697 : decode cL_law 697 = .ok (.iaload, 1) := by decide +kernel
theorem dL_law_698 : decode cL_law 698 = .ok (.aload_n 0, 1) := by decide +kernel
theorem dL_law_699 : decode cL_law 699 = .ok (.iload_n 3, 1) := by decide +kernel
theorem dL_law_700 : decode cL_law 700 = .ok (.iconst 2, 1) := by decide +kernel
theorem dL_law_701 : decode cL_law 701 = .ok (.iadd, 1) := by decide +kernel
theorem dL_law_702 : decode cL_law 702 = .ok (.iaload, 1) := by decide +kernel
theorem dL_law_703 : decode cL_law 703 = .ok (.aload_n 0, 1) := by decide +kernel
theorem dL_law_704 : decode cL_law 704 = .ok (.iload_n 3, 1) := by decide +kernel
theorem dL_law_705 : decode cL_law 705 = .ok (.iconst 3, 1) := by decide +kernel
theorem dL_law_706 : decode cL_law 706 = .ok (.iadd, 1) := by decide +kernel
theorem dL_law_707 : decode cL_law 707 = .ok (.iaload, 1) := by decide +kernel
theorem dL_law_708 : decode cL_law 708 = .ok (.ifCond .eq 7, 3) := by decide +kernel
theorem dL_law_711 : decode cL_law 711 = .ok (.iconst 1, 1) := by decide +kernel
theorem dL_law_712 : decode cL_law 712 = .ok (.goto 4, 3) := by decide +kernel
theorem dL_law_715 : decode cL_law 715 = .ok (.iconst 0, 1) := by decide +kernel
theorem dL_law_716 : decode cL_law 716 = .ok (.invokevirtual 65, 3) := by decide +kernel
theorem dL_law_719 : decode cL_law 719 = .ok (.if_icmp .eq 1190, 3) := by decide +kernel
theorem dL_law_722 : decode cL_law 722 = .ok (.iconst 0, 1) := by decide +kernel
theorem dL_law_723 : decode cL_law 723 = .ok (.ireturn, 1) := by decide +kernel
theorem dL_law_724 : decode cL_law 724 = .ok (.aload_n 1, 1) := by decide +kernel
theorem dL_law_725 : decode cL_law 725 = .ok (.aload_n 0, 1) := by decide +kernel
theorem dL_law_726 : decode cL_law 726 = .ok (.iload_n 3, 1) := by decide +kernel
theorem dL_law_727 : decode cL_law 727 = .ok (.iconst 1, 1) := by decide +kernel
theorem dL_law_728 : decode cL_law 728 = .ok (.iadd, 1) := by decide +kernel
theorem dL_law_729 : decode cL_law 729 = .ok (.iaload, 1) := by decide +kernel
theorem dL_law_730 : decode cL_law 730 = .ok (.aload_n 0, 1) := by decide +kernel
theorem dL_law_731 : decode cL_law 731 = .ok (.iload_n 3, 1) := by decide +kernel
theorem dL_law_732 : decode cL_law 732 = .ok (.iconst 2, 1) := by decide +kernel
theorem dL_law_733 : decode cL_law 733 = .ok (.iadd, 1) := by decide +kernel
theorem dL_law_734 : decode cL_law 734 = .ok (.iaload, 1) := by decide +kernel
theorem dL_law_735 : decode cL_law 735 = .ok (.aload_n 0, 1) := by decide +kernel
theorem dL_law_736 : decode cL_law 736 = .ok (.iload_n 3, 1) := by decide +kernel
theorem dL_law_737 : decode cL_law 737 = .ok (.iconst 3, 1) := by decide +kernel
theorem dL_law_738 : decode cL_law 738 = .ok (.iadd, 1) := by decide +kernel
theorem dL_law_739 : decode cL_law 739 = .ok (.iaload, 1) := by decide +kernel
theorem dL_law_740 : decode cL_law 740 = .ok (.ifCond .eq 7, 3) := by decide +kernel
theorem dL_law_743 : decode cL_law 743 = .ok (.iconst 1, 1) := by decide +kernel
theorem dL_law_744 : decode cL_law 744 = .ok (.goto 4, 3) := by decide +kernel
theorem dL_law_747 : decode cL_law 747 = .ok (.iconst 0, 1) := by decide +kernel
theorem dL_law_748 : decode cL_law 748 = .ok (.invokevirtual 66, 3) := by decide +kernel
theorem dL_law_751 : decode cL_law 751 = .ok (.aload_n 2, 1) := by decide +kernel
theorem dL_law_752 : decode cL_law 752 = .ok (.aload_n 0, 1) := by decide +kernel
theorem dL_law_753 : decode cL_law 753 = .ok (.iload_n 3, 1) := by decide +kernel
theorem dL_law_754 : decode cL_law 754 = .ok (.iconst 1, 1) := by decide +kernel
theorem dL_law_755 : decode cL_law 755 = .ok (.iadd, 1) := by decide +kernel
theorem dL_law_756 : decode cL_law 756 = .ok (.iaload, 1) := by decide +kernel
theorem dL_law_757 : decode cL_law 757 = .ok (.aload_n 0, 1) := by decide +kernel
theorem dL_law_758 : decode cL_law 758 = .ok (.iload_n 3, 1) := by decide +kernel
theorem dL_law_759 : decode cL_law 759 = .ok (.iconst 2, 1) := by decide +kernel
theorem dL_law_760 : decode cL_law 760 = .ok (.iadd, 1) := by decide +kernel
theorem dL_law_761 : decode cL_law 761 = .ok (.iaload, 1) := by decide +kernel
theorem dL_law_762 : decode cL_law 762 = .ok (.aload_n 0, 1) := by decide +kernel
theorem dL_law_763 : decode cL_law 763 = .ok (.iload_n 3, 1) := by decide +kernel
theorem dL_law_764 : decode cL_law 764 = .ok (.iconst 3, 1) := by decide +kernel
theorem dL_law_765 : decode cL_law 765 = .ok (.iadd, 1) := by decide +kernel
theorem dL_law_766 : decode cL_law 766 = .ok (.iaload, 1) := by decide +kernel
theorem dL_law_767 : decode cL_law 767 = .ok (.ifCond .eq 7, 3) := by decide +kernel
theorem dL_law_770 : decode cL_law 770 = .ok (.iconst 1, 1) := by decide +kernel
theorem dL_law_771 : decode cL_law 771 = .ok (.goto 4, 3) := by decide +kernel
theorem dL_law_774 : decode cL_law 774 = .ok (.iconst 0, 1) := by decide +kernel
theorem dL_law_775 : decode cL_law 775 = .ok (.invokevirtual 69, 3) := by decide +kernel
theorem dL_law_778 : decode cL_law 778 = .ok (.if_icmp .eq 1131, 3) := by decide +kernel
theorem dL_law_781 : decode cL_law 781 = .ok (.iconst 0, 1) := by decide +kernel
theorem dL_law_782 : decode cL_law 782 = .ok (.ireturn, 1) := by decide +kernel
theorem dL_law_783 : decode cL_law 783 = .ok (.aload_n 1, 1) := by decide +kernel
theorem dL_law_784 : decode cL_law 784 = .ok (.aload_n 0, 1) := by decide +kernel
theorem dL_law_785 : decode cL_law 785 = .ok (.iload_n 3, 1) := by decide +kernel
theorem dL_law_786 : decode cL_law 786 = .ok (.iconst 1, 1) := by decide +kernel
theorem dL_law_787 : decode cL_law 787 = .ok (.iadd, 1) := by decide +kernel
theorem dL_law_788 : decode cL_law 788 = .ok (.iaload, 1) := by decide +kernel
theorem dL_law_789 : decode cL_law 789 = .ok (.aload_n 0, 1) := by decide +kernel
theorem dL_law_790 : decode cL_law 790 = .ok (.iload_n 3, 1) := by decide +kernel
theorem dL_law_791 : decode cL_law 791 = .ok (.iconst 2, 1) := by decide +kernel
theorem dL_law_792 : decode cL_law 792 = .ok (.iadd, 1) := by decide +kernel
theorem dL_law_793 : decode cL_law 793 = .ok (.iaload, 1) := by decide +kernel
theorem dL_law_794 : decode cL_law 794 = .ok (.invokevirtual 70, 3) := by decide +kernel
theorem dL_law_797 : decode cL_law 797 = .ok (.aload_n 2, 1) := by decide +kernel
theorem dL_law_798 : decode cL_law 798 = .ok (.aload_n 0, 1) := by decide +kernel
theorem dL_law_799 : decode cL_law 799 = .ok (.iload_n 3, 1) := by decide +kernel
theorem dL_law_800 : decode cL_law 800 = .ok (.iconst 1, 1) := by decide +kernel
theorem dL_law_801 : decode cL_law 801 = .ok (.iadd, 1) := by decide +kernel
theorem dL_law_802 : decode cL_law 802 = .ok (.iaload, 1) := by decide +kernel
theorem dL_law_803 : decode cL_law 803 = .ok (.aload_n 0, 1) := by decide +kernel
theorem dL_law_804 : decode cL_law 804 = .ok (.iload_n 3, 1) := by decide +kernel
theorem dL_law_805 : decode cL_law 805 = .ok (.iconst 2, 1) := by decide +kernel
theorem dL_law_806 : decode cL_law 806 = .ok (.iadd, 1) := by decide +kernel
theorem dL_law_807 : decode cL_law 807 = .ok (.iaload, 1) := by decide +kernel
theorem dL_law_808 : decode cL_law 808 = .ok (.invokevirtual 73, 3) := by decide +kernel
theorem dL_law_811 : decode cL_law 811 = .ok (.if_icmp .eq 1098, 3) := by decide +kernel
theorem dL_law_814 : decode cL_law 814 = .ok (.iconst 0, 1) := by decide +kernel
theorem dL_law_815 : decode cL_law 815 = .ok (.ireturn, 1) := by decide +kernel
theorem dL_law_816 : decode cL_law 816 = .ok (.aload_n 1, 1) := by decide +kernel
theorem dL_law_817 : decode cL_law 817 = .ok (.aload_n 0, 1) := by decide +kernel
theorem dL_law_818 : decode cL_law 818 = .ok (.iload_n 3, 1) := by decide +kernel
theorem dL_law_819 : decode cL_law 819 = .ok (.iconst 1, 1) := by decide +kernel
theorem dL_law_820 : decode cL_law 820 = .ok (.iadd, 1) := by decide +kernel
theorem dL_law_821 : decode cL_law 821 = .ok (.iaload, 1) := by decide +kernel
theorem dL_law_822 : decode cL_law 822 = .ok (.invokevirtual 74, 3) := by decide +kernel
theorem dL_law_825 : decode cL_law 825 = .ok (.aload_n 2, 1) := by decide +kernel
theorem dL_law_826 : decode cL_law 826 = .ok (.aload_n 0, 1) := by decide +kernel
theorem dL_law_827 : decode cL_law 827 = .ok (.iload_n 3, 1) := by decide +kernel
theorem dL_law_828 : decode cL_law 828 = .ok (.iconst 1, 1) := by decide +kernel
theorem dL_law_829 : decode cL_law 829 = .ok (.iadd, 1) := by decide +kernel
theorem dL_law_830 : decode cL_law 830 = .ok (.iaload, 1) := by decide +kernel
theorem dL_law_831 : decode cL_law 831 = .ok (.invokevirtual 77, 3) := by decide +kernel
theorem dL_law_834 : decode cL_law 834 = .ok (.if_icmp .eq 1075, 3) := by decide +kernel
theorem dL_law_837 : decode cL_law 837 = .ok (.iconst 0, 1) := by decide +kernel
theorem dL_law_838 : decode cL_law 838 = .ok (.ireturn, 1) := by decide +kernel
theorem dL_law_839 : decode cL_law 839 = .ok (.aload_n 1, 1) := by decide +kernel
theorem dL_law_840 : decode cL_law 840 = .ok (.invokevirtual 78, 3) := by decide +kernel
theorem dL_law_843 : decode cL_law 843 = .ok (.aload_n 2, 1) := by decide +kernel
theorem dL_law_844 : decode cL_law 844 = .ok (.invokevirtual 82, 3) := by decide +kernel
theorem dL_law_847 : decode cL_law 847 = .ok (.if_icmp .eq 1062, 3) := by decide +kernel
theorem dL_law_850 : decode cL_law 850 = .ok (.iconst 0, 1) := by decide +kernel
theorem dL_law_851 : decode cL_law 851 = .ok (.ireturn, 1) := by decide +kernel
theorem dL_law_852 : decode cL_law 852 = .ok (.aload_n 1, 1) := by decide +kernel
theorem dL_law_853 : decode cL_law 853 = .ok (.invokevirtual 83, 3) := by decide +kernel
theorem dL_law_856 : decode cL_law 856 = .ok (.aload_n 2, 1) := by decide +kernel
theorem dL_law_857 : decode cL_law 857 = .ok (.invokevirtual 86, 3) := by decide +kernel
theorem dL_law_860 : decode cL_law 860 = .ok (.if_icmp .eq 1049, 3) := by decide +kernel
theorem dL_law_863 : decode cL_law 863 = .ok (.iconst 0, 1) := by decide +kernel
theorem dL_law_864 : decode cL_law 864 = .ok (.ireturn, 1) := by decide +kernel
theorem dL_law_865 : decode cL_law 865 = .ok (.aload_n 1, 1) := by decide +kernel
theorem dL_law_866 : decode cL_law 866 = .ok (.aload_n 0, 1) := by decide +kernel
theorem dL_law_867 : decode cL_law 867 = .ok (.iload_n 3, 1) := by decide +kernel
theorem dL_law_868 : decode cL_law 868 = .ok (.iconst 1, 1) := by decide +kernel
theorem dL_law_869 : decode cL_law 869 = .ok (.iadd, 1) := by decide +kernel
theorem dL_law_870 : decode cL_law 870 = .ok (.iaload, 1) := by decide +kernel
theorem dL_law_871 : decode cL_law 871 = .ok (.aload_n 0, 1) := by decide +kernel
theorem dL_law_872 : decode cL_law 872 = .ok (.iload_n 3, 1) := by decide +kernel
theorem dL_law_873 : decode cL_law 873 = .ok (.iconst 2, 1) := by decide +kernel
theorem dL_law_874 : decode cL_law 874 = .ok (.iadd, 1) := by decide +kernel
theorem dL_law_875 : decode cL_law 875 = .ok (.iaload, 1) := by decide +kernel
theorem dL_law_876 : decode cL_law 876 = .ok (.invokevirtual 87, 3) := by decide +kernel
theorem dL_law_879 : decode cL_law 879 = .ok (.aload_n 2, 1) := by decide +kernel
theorem dL_law_880 : decode cL_law 880 = .ok (.aload_n 0, 1) := by decide +kernel
theorem dL_law_881 : decode cL_law 881 = .ok (.iload_n 3, 1) := by decide +kernel
theorem dL_law_882 : decode cL_law 882 = .ok (.iconst 1, 1) := by decide +kernel
theorem dL_law_883 : decode cL_law 883 = .ok (.iadd, 1) := by decide +kernel
theorem dL_law_884 : decode cL_law 884 = .ok (.iaload, 1) := by decide +kernel
theorem dL_law_885 : decode cL_law 885 = .ok (.aload_n 0, 1) := by decide +kernel
theorem dL_law_886 : decode cL_law 886 = .ok (.iload_n 3, 1) := by decide +kernel
theorem dL_law_887 : decode cL_law 887 = .ok (.iconst 2, 1) := by decide +kernel
theorem dL_law_888 : decode cL_law 888 = .ok (.iadd, 1) := by decide +kernel
theorem dL_law_889 : decode cL_law 889 = .ok (.iaload, 1) := by decide +kernel
theorem dL_law_890 : decode cL_law 890 = .ok (.invokevirtual 90, 3) := by decide +kernel
theorem dL_law_893 : decode cL_law 893 = .ok (.if_icmp .eq 1016, 3) := by decide +kernel
theorem dL_law_896 : decode cL_law 896 = .ok (.iconst 0, 1) := by decide +kernel
theorem dL_law_897 : decode cL_law 897 = .ok (.ireturn, 1) := by decide +kernel
theorem dL_law_898 : decode cL_law 898 = .ok (.aload_n 1, 1) := by decide +kernel
theorem dL_law_899 : decode cL_law 899 = .ok (.aload_n 0, 1) := by decide +kernel
theorem dL_law_900 : decode cL_law 900 = .ok (.iload_n 3, 1) := by decide +kernel
theorem dL_law_901 : decode cL_law 901 = .ok (.iconst 1, 1) := by decide +kernel
theorem dL_law_902 : decode cL_law 902 = .ok (.iadd, 1) := by decide +kernel
theorem dL_law_903 : decode cL_law 903 = .ok (.iaload, 1) := by decide +kernel
theorem dL_law_904 : decode cL_law 904 = .ok (.aload_n 0, 1) := by decide +kernel
theorem dL_law_905 : decode cL_law 905 = .ok (.iload_n 3, 1) := by decide +kernel
theorem dL_law_906 : decode cL_law 906 = .ok (.iconst 2, 1) := by decide +kernel
theorem dL_law_907 : decode cL_law 907 = .ok (.iadd, 1) := by decide +kernel
theorem dL_law_908 : decode cL_law 908 = .ok (.iaload, 1) := by decide +kernel
theorem dL_law_909 : decode cL_law 909 = .ok (.invokevirtual 91, 3) := by decide +kernel
theorem dL_law_912 : decode cL_law 912 = .ok (.aload_n 2, 1) := by decide +kernel
theorem dL_law_913 : decode cL_law 913 = .ok (.aload_n 0, 1) := by decide +kernel
theorem dL_law_914 : decode cL_law 914 = .ok (.iload_n 3, 1) := by decide +kernel
theorem dL_law_915 : decode cL_law 915 = .ok (.iconst 1, 1) := by decide +kernel
theorem dL_law_916 : decode cL_law 916 = .ok (.iadd, 1) := by decide +kernel
theorem dL_law_917 : decode cL_law 917 = .ok (.iaload, 1) := by decide +kernel
theorem dL_law_918 : decode cL_law 918 = .ok (.aload_n 0, 1) := by decide +kernel
theorem dL_law_919 : decode cL_law 919 = .ok (.iload_n 3, 1) := by decide +kernel
theorem dL_law_920 : decode cL_law 920 = .ok (.iconst 2, 1) := by decide +kernel
theorem dL_law_921 : decode cL_law 921 = .ok (.iadd, 1) := by decide +kernel
theorem dL_law_922 : decode cL_law 922 = .ok (.iaload, 1) := by decide +kernel
theorem dL_law_923 : decode cL_law 923 = .ok (.invokevirtual 94, 3) := by decide +kernel
theorem dL_law_926 : decode cL_law 926 = .ok (.if_icmp .eq 983, 3) := by decide +kernel
theorem dL_law_929 : decode cL_law 929 = .ok (.iconst 0, 1) := by decide +kernel
theorem dL_law_930 : decode cL_law 930 = .ok (.ireturn, 1) := by decide +kernel
theorem dL_law_931 : decode cL_law 931 = .ok (.aload_n 1, 1) := by decide +kernel
theorem dL_law_932 : decode cL_law 932 = .ok (.aload_n 0, 1) := by decide +kernel
theorem dL_law_933 : decode cL_law 933 = .ok (.iload_n 3, 1) := by decide +kernel
theorem dL_law_934 : decode cL_law 934 = .ok (.iconst 1, 1) := by decide +kernel
theorem dL_law_935 : decode cL_law 935 = .ok (.iadd, 1) := by decide +kernel
theorem dL_law_936 : decode cL_law 936 = .ok (.iaload, 1) := by decide +kernel
theorem dL_law_937 : decode cL_law 937 = .ok (.invokevirtual 95, 3) := by decide +kernel
theorem dL_law_940 : decode cL_law 940 = .ok (.aload_n 2, 1) := by decide +kernel
theorem dL_law_941 : decode cL_law 941 = .ok (.aload_n 0, 1) := by decide +kernel
theorem dL_law_942 : decode cL_law 942 = .ok (.iload_n 3, 1) := by decide +kernel
theorem dL_law_943 : decode cL_law 943 = .ok (.iconst 1, 1) := by decide +kernel
theorem dL_law_944 : decode cL_law 944 = .ok (.iadd, 1) := by decide +kernel
theorem dL_law_945 : decode cL_law 945 = .ok (.iaload, 1) := by decide +kernel
theorem dL_law_946 : decode cL_law 946 = .ok (.invokevirtual 98, 3) := by decide +kernel
theorem dL_law_949 : decode cL_law 949 = .ok (.if_icmp .eq 960, 3) := by decide +kernel
theorem dL_law_952 : decode cL_law 952 = .ok (.iconst 0, 1) := by decide +kernel
theorem dL_law_953 : decode cL_law 953 = .ok (.ireturn, 1) := by decide +kernel
theorem dL_law_954 : decode cL_law 954 = .ok (.aload_n 1, 1) := by decide +kernel
theorem dL_law_955 : decode cL_law 955 = .ok (.aload_n 0, 1) := by decide +kernel
theorem dL_law_956 : decode cL_law 956 = .ok (.iload_n 3, 1) := by decide +kernel
theorem dL_law_957 : decode cL_law 957 = .ok (.iconst 1, 1) := by decide +kernel
theorem dL_law_958 : decode cL_law 958 = .ok (.iadd, 1) := by decide +kernel
theorem dL_law_959 : decode cL_law 959 = .ok (.iaload, 1) := by decide +kernel
theorem dL_law_960 : decode cL_law 960 = .ok (.aload_n 0, 1) := by decide +kernel
theorem dL_law_961 : decode cL_law 961 = .ok (.iload_n 3, 1) := by decide +kernel
theorem dL_law_962 : decode cL_law 962 = .ok (.iconst 2, 1) := by decide +kernel
theorem dL_law_963 : decode cL_law 963 = .ok (.iadd, 1) := by decide +kernel
theorem dL_law_964 : decode cL_law 964 = .ok (.iaload, 1) := by decide +kernel
theorem dL_law_965 : decode cL_law 965 = .ok (.invokevirtual 99, 3) := by decide +kernel
theorem dL_law_968 : decode cL_law 968 = .ok (.aload_n 2, 1) := by decide +kernel
theorem dL_law_969 : decode cL_law 969 = .ok (.aload_n 0, 1) := by decide +kernel
theorem dL_law_970 : decode cL_law 970 = .ok (.iload_n 3, 1) := by decide +kernel
theorem dL_law_971 : decode cL_law 971 = .ok (.iconst 1, 1) := by decide +kernel
theorem dL_law_972 : decode cL_law 972 = .ok (.iadd, 1) := by decide +kernel
theorem dL_law_973 : decode cL_law 973 = .ok (.iaload, 1) := by decide +kernel
theorem dL_law_974 : decode cL_law 974 = .ok (.aload_n 0, 1) := by decide +kernel
theorem dL_law_975 : decode cL_law 975 = .ok (.iload_n 3, 1) := by decide +kernel
theorem dL_law_976 : decode cL_law 976 = .ok (.iconst 2, 1) := by decide +kernel
theorem dL_law_977 : decode cL_law 977 = .ok (.iadd, 1) := by decide +kernel
theorem dL_law_978 : decode cL_law 978 = .ok (.iaload, 1) := by decide +kernel
theorem dL_law_979 : decode cL_law 979 = .ok (.invokevirtual 102, 3) := by decide +kernel
theorem dL_law_982 : decode cL_law 982 = .ok (.if_icmp .eq 927, 3) := by decide +kernel
theorem dL_law_985 : decode cL_law 985 = .ok (.iconst 0, 1) := by decide +kernel
theorem dL_law_986 : decode cL_law 986 = .ok (.ireturn, 1) := by decide +kernel
theorem dL_law_987 : decode cL_law 987 = .ok (.aload_n 1, 1) := by decide +kernel
theorem dL_law_988 : decode cL_law 988 = .ok (.aload_n 0, 1) := by decide +kernel
theorem dL_law_989 : decode cL_law 989 = .ok (.iload_n 3, 1) := by decide +kernel
theorem dL_law_990 : decode cL_law 990 = .ok (.iconst 1, 1) := by decide +kernel
theorem dL_law_991 : decode cL_law 991 = .ok (.iadd, 1) := by decide +kernel
theorem dL_law_992 : decode cL_law 992 = .ok (.iaload, 1) := by decide +kernel
theorem dL_law_993 : decode cL_law 993 = .ok (.aload_n 0, 1) := by decide +kernel
theorem dL_law_994 : decode cL_law 994 = .ok (.iload_n 3, 1) := by decide +kernel
theorem dL_law_995 : decode cL_law 995 = .ok (.iconst 2, 1) := by decide +kernel
theorem dL_law_996 : decode cL_law 996 = .ok (.iadd, 1) := by decide +kernel
theorem dL_law_997 : decode cL_law 997 = .ok (.iaload, 1) := by decide +kernel
theorem dL_law_998 : decode cL_law 998 = .ok (.aload_n 0, 1) := by decide +kernel
theorem dL_law_999 : decode cL_law 999 = .ok (.iload_n 3, 1) := by decide +kernel
theorem dL_law_1000 : decode cL_law 1000 = .ok (.iconst 3, 1) := by decide +kernel
theorem dL_law_1001 : decode cL_law 1001 = .ok (.iadd, 1) := by decide +kernel
theorem dL_law_1002 : decode cL_law 1002 = .ok (.iaload, 1) := by decide +kernel
theorem dL_law_1003 : decode cL_law 1003 = .ok (.invokevirtual 103, 3) := by decide +kernel
theorem dL_law_1006 : decode cL_law 1006 = .ok (.aload_n 2, 1) := by decide +kernel
theorem dL_law_1007 : decode cL_law 1007 = .ok (.aload_n 0, 1) := by decide +kernel
theorem dL_law_1008 : decode cL_law 1008 = .ok (.iload_n 3, 1) := by decide +kernel
theorem dL_law_1009 : decode cL_law 1009 = .ok (.iconst 1, 1) := by decide +kernel
theorem dL_law_1010 : decode cL_law 1010 = .ok (.iadd, 1) := by decide +kernel
theorem dL_law_1011 : decode cL_law 1011 = .ok (.iaload, 1) := by decide +kernel
theorem dL_law_1012 : decode cL_law 1012 = .ok (.aload_n 0, 1) := by decide +kernel
theorem dL_law_1013 : decode cL_law 1013 = .ok (.iload_n 3, 1) := by decide +kernel
theorem dL_law_1014 : decode cL_law 1014 = .ok (.iconst 2, 1) := by decide +kernel
theorem dL_law_1015 : decode cL_law 1015 = .ok (.iadd, 1) := by decide +kernel
theorem dL_law_1016 : decode cL_law 1016 = .ok (.iaload, 1) := by decide +kernel
theorem dL_law_1017 : decode cL_law 1017 = .ok (.aload_n 0, 1) := by decide +kernel
theorem dL_law_1018 : decode cL_law 1018 = .ok (.iload_n 3, 1) := by decide +kernel
theorem dL_law_1019 : decode cL_law 1019 = .ok (.iconst 3, 1) := by decide +kernel
theorem dL_law_1020 : decode cL_law 1020 = .ok (.iadd, 1) := by decide +kernel
theorem dL_law_1021 : decode cL_law 1021 = .ok (.iaload, 1) := by decide +kernel
theorem dL_law_1022 : decode cL_law 1022 = .ok (.invokevirtual 106, 3) := by decide +kernel
theorem dL_law_1025 : decode cL_law 1025 = .ok (.if_icmp .eq 884, 3) := by decide +kernel
theorem dL_law_1028 : decode cL_law 1028 = .ok (.iconst 0, 1) := by decide +kernel
theorem dL_law_1029 : decode cL_law 1029 = .ok (.ireturn, 1) := by decide +kernel
theorem dL_law_1030 : decode cL_law 1030 = .ok (.aload_n 1, 1) := by decide +kernel
theorem dL_law_1031 : decode cL_law 1031 = .ok (.invokevirtual 107, 3) := by decide +kernel
theorem dL_law_1034 : decode cL_law 1034 = .ok (.aload_n 2, 1) := by decide +kernel
theorem dL_law_1035 : decode cL_law 1035 = .ok (.invokevirtual 110, 3) := by decide +kernel
theorem dL_law_1038 : decode cL_law 1038 = .ok (.if_icmp .eq 871, 3) := by decide +kernel
theorem dL_law_1041 : decode cL_law 1041 = .ok (.iconst 0, 1) := by decide +kernel
theorem dL_law_1042 : decode cL_law 1042 = .ok (.ireturn, 1) := by decide +kernel
theorem dL_law_1043 : decode cL_law 1043 = .ok (.aload_n 1, 1) := by decide +kernel
theorem dL_law_1044 : decode cL_law 1044 = .ok (.aload_n 0, 1) := by decide +kernel
theorem dL_law_1045 : decode cL_law 1045 = .ok (.iload_n 3, 1) := by decide +kernel
theorem dL_law_1046 : decode cL_law 1046 = .ok (.iconst 1, 1) := by decide +kernel
theorem dL_law_1047 : decode cL_law 1047 = .ok (.iadd, 1) := by decide +kernel
theorem dL_law_1048 : decode cL_law 1048 = .ok (.iaload, 1) := by decide +kernel
theorem dL_law_1049 : decode cL_law 1049 = .ok (.aload_n 0, 1) := by decide +kernel
theorem dL_law_1050 : decode cL_law 1050 = .ok (.iload_n 3, 1) := by decide +kernel
theorem dL_law_1051 : decode cL_law 1051 = .ok (.iconst 2, 1) := by decide +kernel
theorem dL_law_1052 : decode cL_law 1052 = .ok (.iadd, 1) := by decide +kernel
theorem dL_law_1053 : decode cL_law 1053 = .ok (.iaload, 1) := by decide +kernel
theorem dL_law_1054 : decode cL_law 1054 = .ok (.invokevirtual 111, 3) := by decide +kernel
theorem dL_law_1057 : decode cL_law 1057 = .ok (.aload_n 2, 1) := by decide +kernel
theorem dL_law_1058 : decode cL_law 1058 = .ok (.aload_n 0, 1) := by decide +kernel
theorem dL_law_1059 : decode cL_law 1059 = .ok (.iload_n 3, 1) := by decide +kernel
theorem dL_law_1060 : decode cL_law 1060 = .ok (.iconst 1, 1) := by decide +kernel
theorem dL_law_1061 : decode cL_law 1061 = .ok (.iadd, 1) := by decide +kernel
theorem dL_law_1062 : decode cL_law 1062 = .ok (.iaload, 1) := by decide +kernel
theorem dL_law_1063 : decode cL_law 1063 = .ok (.aload_n 0, 1) := by decide +kernel
theorem dL_law_1064 : decode cL_law 1064 = .ok (.iload_n 3, 1) := by decide +kernel
theorem dL_law_1065 : decode cL_law 1065 = .ok (.iconst 2, 1) := by decide +kernel
theorem dL_law_1066 : decode cL_law 1066 = .ok (.iadd, 1) := by decide +kernel
theorem dL_law_1067 : decode cL_law 1067 = .ok (.iaload, 1) := by decide +kernel
theorem dL_law_1068 : decode cL_law 1068 = .ok (.invokevirtual 114, 3) := by decide +kernel
theorem dL_law_1071 : decode cL_law 1071 = .ok (.if_icmp .eq 838, 3) := by decide +kernel
theorem dL_law_1074 : decode cL_law 1074 = .ok (.iconst 0, 1) := by decide +kernel
theorem dL_law_1075 : decode cL_law 1075 = .ok (.ireturn, 1) := by decide +kernel
theorem dL_law_1076 : decode cL_law 1076 = .ok (.aload_n 1, 1) := by decide +kernel
theorem dL_law_1077 : decode cL_law 1077 = .ok (.aload_n 0, 1) := by decide +kernel
theorem dL_law_1078 : decode cL_law 1078 = .ok (.iload_n 3, 1) := by decide +kernel
theorem dL_law_1079 : decode cL_law 1079 = .ok (.iconst 1, 1) := by decide +kernel
theorem dL_law_1080 : decode cL_law 1080 = .ok (.iadd, 1) := by decide +kernel
theorem dL_law_1081 : decode cL_law 1081 = .ok (.iaload, 1) := by decide +kernel
theorem dL_law_1082 : decode cL_law 1082 = .ok (.invokevirtual 115, 3) := by decide +kernel
theorem dL_law_1085 : decode cL_law 1085 = .ok (.aload_n 2, 1) := by decide +kernel
theorem dL_law_1086 : decode cL_law 1086 = .ok (.aload_n 0, 1) := by decide +kernel
theorem dL_law_1087 : decode cL_law 1087 = .ok (.iload_n 3, 1) := by decide +kernel
theorem dL_law_1088 : decode cL_law 1088 = .ok (.iconst 1, 1) := by decide +kernel
theorem dL_law_1089 : decode cL_law 1089 = .ok (.iadd, 1) := by decide +kernel
theorem dL_law_1090 : decode cL_law 1090 = .ok (.iaload, 1) := by decide +kernel
theorem dL_law_1091 : decode cL_law 1091 = .ok (.invokevirtual 118, 3) := by decide +kernel
theorem dL_law_1094 : decode cL_law 1094 = .ok (.if_icmp .eq 815, 3) := by decide +kernel
theorem dL_law_1097 : decode cL_law 1097 = .ok (.iconst 0, 1) := by decide +kernel
theorem dL_law_1098 : decode cL_law 1098 = .ok (.ireturn, 1) := by decide +kernel
theorem dL_law_1099 : decode cL_law 1099 = .ok (.aload_n 1, 1) := by decide +kernel
theorem dL_law_1100 : decode cL_law 1100 = .ok (.invokevirtual 119, 3) := by decide +kernel
theorem dL_law_1103 : decode cL_law 1103 = .ok (.aload_n 2, 1) := by decide +kernel
theorem dL_law_1104 : decode cL_law 1104 = .ok (.invokevirtual 122, 3) := by decide +kernel
theorem dL_law_1107 : decode cL_law 1107 = .ok (.if_icmp .eq 802, 3) := by decide +kernel
theorem dL_law_1110 : decode cL_law 1110 = .ok (.iconst 0, 1) := by decide +kernel
theorem dL_law_1111 : decode cL_law 1111 = .ok (.ireturn, 1) := by decide +kernel
theorem dL_law_1112 : decode cL_law 1112 = .ok (.aload_n 1, 1) := by decide +kernel
theorem dL_law_1113 : decode cL_law 1113 = .ok (.aload_n 0, 1) := by decide +kernel
theorem dL_law_1114 : decode cL_law 1114 = .ok (.iload_n 3, 1) := by decide +kernel
theorem dL_law_1115 : decode cL_law 1115 = .ok (.iconst 1, 1) := by decide +kernel
theorem dL_law_1116 : decode cL_law 1116 = .ok (.iadd, 1) := by decide +kernel
theorem dL_law_1117 : decode cL_law 1117 = .ok (.iaload, 1) := by decide +kernel
theorem dL_law_1118 : decode cL_law 1118 = .ok (.invokevirtual 123, 3) := by decide +kernel
theorem dL_law_1121 : decode cL_law 1121 = .ok (.aload_n 2, 1) := by decide +kernel
theorem dL_law_1122 : decode cL_law 1122 = .ok (.aload_n 0, 1) := by decide +kernel
theorem dL_law_1123 : decode cL_law 1123 = .ok (.iload_n 3, 1) := by decide +kernel
theorem dL_law_1124 : decode cL_law 1124 = .ok (.iconst 1, 1) := by decide +kernel
theorem dL_law_1125 : decode cL_law 1125 = .ok (.iadd, 1) := by decide +kernel
theorem dL_law_1126 : decode cL_law 1126 = .ok (.iaload, 1) := by decide +kernel
theorem dL_law_1127 : decode cL_law 1127 = .ok (.invokevirtual 126, 3) := by decide +kernel
theorem dL_law_1130 : decode cL_law 1130 = .ok (.if_icmp .eq 779, 3) := by decide +kernel
theorem dL_law_1133 : decode cL_law 1133 = .ok (.iconst 0, 1) := by decide +kernel
theorem dL_law_1134 : decode cL_law 1134 = .ok (.ireturn, 1) := by decide +kernel
theorem dL_law_1135 : decode cL_law 1135 = .ok (.aload_n 1, 1) := by decide +kernel
theorem dL_law_1136 : decode cL_law 1136 = .ok (.aload_n 0, 1) := by decide +kernel
theorem dL_law_1137 : decode cL_law 1137 = .ok (.iload_n 3, 1) := by decide +kernel
theorem dL_law_1138 : decode cL_law 1138 = .ok (.iconst 1, 1) := by decide +kernel
theorem dL_law_1139 : decode cL_law 1139 = .ok (.iadd, 1) := by decide +kernel
theorem dL_law_1140 : decode cL_law 1140 = .ok (.iaload, 1) := by decide +kernel
theorem dL_law_1141 : decode cL_law 1141 = .ok (.aload_n 0, 1) := by decide +kernel
theorem dL_law_1142 : decode cL_law 1142 = .ok (.iload_n 3, 1) := by decide +kernel
theorem dL_law_1143 : decode cL_law 1143 = .ok (.iconst 2, 1) := by decide +kernel
theorem dL_law_1144 : decode cL_law 1144 = .ok (.iadd, 1) := by decide +kernel
theorem dL_law_1145 : decode cL_law 1145 = .ok (.iaload, 1) := by decide +kernel
theorem dL_law_1146 : decode cL_law 1146 = .ok (.invokevirtual 127, 3) := by decide +kernel
theorem dL_law_1149 : decode cL_law 1149 = .ok (.aload_n 2, 1) := by decide +kernel
theorem dL_law_1150 : decode cL_law 1150 = .ok (.aload_n 0, 1) := by decide +kernel
theorem dL_law_1151 : decode cL_law 1151 = .ok (.iload_n 3, 1) := by decide +kernel
theorem dL_law_1152 : decode cL_law 1152 = .ok (.iconst 1, 1) := by decide +kernel
theorem dL_law_1153 : decode cL_law 1153 = .ok (.iadd, 1) := by decide +kernel
theorem dL_law_1154 : decode cL_law 1154 = .ok (.iaload, 1) := by decide +kernel
theorem dL_law_1155 : decode cL_law 1155 = .ok (.aload_n 0, 1) := by decide +kernel
theorem dL_law_1156 : decode cL_law 1156 = .ok (.iload_n 3, 1) := by decide +kernel
theorem dL_law_1157 : decode cL_law 1157 = .ok (.iconst 2, 1) := by decide +kernel
theorem dL_law_1158 : decode cL_law 1158 = .ok (.iadd, 1) := by decide +kernel
theorem dL_law_1159 : decode cL_law 1159 = .ok (.iaload, 1) := by decide +kernel
theorem dL_law_1160 : decode cL_law 1160 = .ok (.invokevirtual 130, 3) := by decide +kernel
theorem dL_law_1163 : decode cL_law 1163 = .ok (.if_icmp .eq 746, 3) := by decide +kernel
theorem dL_law_1166 : decode cL_law 1166 = .ok (.iconst 0, 1) := by decide +kernel
theorem dL_law_1167 : decode cL_law 1167 = .ok (.ireturn, 1) := by decide +kernel
theorem dL_law_1168 : decode cL_law 1168 = .ok (.aload_n 1, 1) := by decide +kernel
theorem dL_law_1169 : decode cL_law 1169 = .ok (.aload_n 0, 1) := by decide +kernel
theorem dL_law_1170 : decode cL_law 1170 = .ok (.iload_n 3, 1) := by decide +kernel
theorem dL_law_1171 : decode cL_law 1171 = .ok (.iconst 1, 1) := by decide +kernel
theorem dL_law_1172 : decode cL_law 1172 = .ok (.iadd, 1) := by decide +kernel
theorem dL_law_1173 : decode cL_law 1173 = .ok (.iaload, 1) := by decide +kernel
theorem dL_law_1174 : decode cL_law 1174 = .ok (.aload_n 0, 1) := by decide +kernel
theorem dL_law_1175 : decode cL_law 1175 = .ok (.iload_n 3, 1) := by decide +kernel
theorem dL_law_1176 : decode cL_law 1176 = .ok (.iconst 2, 1) := by decide +kernel
theorem dL_law_1177 : decode cL_law 1177 = .ok (.iadd, 1) := by decide +kernel
theorem dL_law_1178 : decode cL_law 1178 = .ok (.iaload, 1) := by decide +kernel
theorem dL_law_1179 : decode cL_law 1179 = .ok (.invokevirtual 131, 3) := by decide +kernel
theorem dL_law_1182 : decode cL_law 1182 = .ok (.aload_n 2, 1) := by decide +kernel
theorem dL_law_1183 : decode cL_law 1183 = .ok (.aload_n 0, 1) := by decide +kernel
theorem dL_law_1184 : decode cL_law 1184 = .ok (.iload_n 3, 1) := by decide +kernel
theorem dL_law_1185 : decode cL_law 1185 = .ok (.iconst 1, 1) := by decide +kernel
theorem dL_law_1186 : decode cL_law 1186 = .ok (.iadd, 1) := by decide +kernel
theorem dL_law_1187 : decode cL_law 1187 = .ok (.iaload, 1) := by decide +kernel
theorem dL_law_1188 : decode cL_law 1188 = .ok (.aload_n 0, 1) := by decide +kernel
theorem dL_law_1189 : decode cL_law 1189 = .ok (.iload_n 3, 1) := by decide +kernel
theorem dL_law_1190 : decode cL_law 1190 = .ok (.iconst 2, 1) := by decide +kernel
theorem dL_law_1191 : decode cL_law 1191 = .ok (.iadd, 1) := by decide +kernel
theorem dL_law_1192 : decode cL_law 1192 = .ok (.iaload, 1) := by decide +kernel
theorem dL_law_1193 : decode cL_law 1193 = .ok (.invokevirtual 134, 3) := by decide +kernel
theorem dL_law_1196 : decode cL_law 1196 = .ok (.if_icmp .eq 713, 3) := by decide +kernel
theorem dL_law_1199 : decode cL_law 1199 = .ok (.iconst 0, 1) := by decide +kernel
theorem dL_law_1200 : decode cL_law 1200 = .ok (.ireturn, 1) := by decide +kernel
theorem dL_law_1201 : decode cL_law 1201 = .ok (.aload_n 1, 1) := by decide +kernel
theorem dL_law_1202 : decode cL_law 1202 = .ok (.aload_n 0, 1) := by decide +kernel
theorem dL_law_1203 : decode cL_law 1203 = .ok (.iload_n 3, 1) := by decide +kernel
theorem dL_law_1204 : decode cL_law 1204 = .ok (.iconst 1, 1) := by decide +kernel
theorem dL_law_1205 : decode cL_law 1205 = .ok (.iadd, 1) := by decide +kernel
theorem dL_law_1206 : decode cL_law 1206 = .ok (.iaload, 1) := by decide +kernel
theorem dL_law_1207 : decode cL_law 1207 = .ok (.aload_n 0, 1) := by decide +kernel
theorem dL_law_1208 : decode cL_law 1208 = .ok (.iload_n 3, 1) := by decide +kernel
theorem dL_law_1209 : decode cL_law 1209 = .ok (.iconst 2, 1) := by decide +kernel
theorem dL_law_1210 : decode cL_law 1210 = .ok (.iadd, 1) := by decide +kernel
theorem dL_law_1211 : decode cL_law 1211 = .ok (.iaload, 1) := by decide +kernel
theorem dL_law_1212 : decode cL_law 1212 = .ok (.invokevirtual 135, 3) := by decide +kernel
theorem dL_law_1215 : decode cL_law 1215 = .ok (.aload_n 2, 1) := by decide +kernel
theorem dL_law_1216 : decode cL_law 1216 = .ok (.aload_n 0, 1) := by decide +kernel
theorem dL_law_1217 : decode cL_law 1217 = .ok (.iload_n 3, 1) := by decide +kernel
theorem dL_law_1218 : decode cL_law 1218 = .ok (.iconst 1, 1) := by decide +kernel
theorem dL_law_1219 : decode cL_law 1219 = .ok (.iadd, 1) := by decide +kernel
theorem dL_law_1220 : decode cL_law 1220 = .ok (.iaload, 1) := by decide +kernel
theorem dL_law_1221 : decode cL_law 1221 = .ok (.aload_n 0, 1) := by decide +kernel
theorem dL_law_1222 : decode cL_law 1222 = .ok (.iload_n 3, 1) := by decide +kernel
theorem dL_law_1223 : decode cL_law 1223 = .ok (.iconst 2, 1) := by decide +kernel
theorem dL_law_1224 : decode cL_law 1224 = .ok (.iadd, 1) := by decide +kernel
theorem dL_law_1225 : decode cL_law 1225 = .ok (.iaload, 1) := by decide +kernel
theorem dL_law_1226 : decode cL_law 1226 = .ok (.invokevirtual 138, 3) := by decide +kernel
theorem dL_law_1229 : decode cL_law 1229 = .ok (.if_icmp .eq 680, 3) := by decide +kernel
theorem dL_law_1232 : decode cL_law 1232 = .ok (.iconst 0, 1) := by decide +kernel
theorem dL_law_1233 : decode cL_law 1233 = .ok (.ireturn, 1) := by decide +kernel
theorem dL_law_1234 : decode cL_law 1234 = .ok (.aload_n 1, 1) := by decide +kernel
theorem dL_law_1235 : decode cL_law 1235 = .ok (.aload_n 0, 1) := by decide +kernel
theorem dL_law_1236 : decode cL_law 1236 = .ok (.iload_n 3, 1) := by decide +kernel
theorem dL_law_1237 : decode cL_law 1237 = .ok (.iconst 1, 1) := by decide +kernel
theorem dL_law_1238 : decode cL_law 1238 = .ok (.iadd, 1) := by decide +kernel
theorem dL_law_1239 : decode cL_law 1239 = .ok (.iaload, 1) := by decide +kernel
theorem dL_law_1240 : decode cL_law 1240 = .ok (.invokevirtual 139, 3) := by decide +kernel
theorem dL_law_1243 : decode cL_law 1243 = .ok (.aload_n 2, 1) := by decide +kernel
theorem dL_law_1244 : decode cL_law 1244 = .ok (.aload_n 0, 1) := by decide +kernel
theorem dL_law_1245 : decode cL_law 1245 = .ok (.iload_n 3, 1) := by decide +kernel
theorem dL_law_1246 : decode cL_law 1246 = .ok (.iconst 1, 1) := by decide +kernel
theorem dL_law_1247 : decode cL_law 1247 = .ok (.iadd, 1) := by decide +kernel
theorem dL_law_1248 : decode cL_law 1248 = .ok (.iaload, 1) := by decide +kernel
theorem dL_law_1249 : decode cL_law 1249 = .ok (.invokevirtual 142, 3) := by decide +kernel
theorem dL_law_1252 : decode cL_law 1252 = .ok (.if_icmp .eq 657, 3) := by decide +kernel
theorem dL_law_1255 : decode cL_law 1255 = .ok (.iconst 0, 1) := by decide +kernel
theorem dL_law_1256 : decode cL_law 1256 = .ok (.ireturn, 1) := by decide +kernel
theorem dL_law_1257 : decode cL_law 1257 = .ok (.aload_n 1, 1) := by decide +kernel
theorem dL_law_1258 : decode cL_law 1258 = .ok (.aload_n 0, 1) := by decide +kernel
theorem dL_law_1259 : decode cL_law 1259 = .ok (.iload_n 3, 1) := by decide +kernel
theorem dL_law_1260 : decode cL_law 1260 = .ok (.iconst 1, 1) := by decide +kernel
theorem dL_law_1261 : decode cL_law 1261 = .ok (.iadd, 1) := by decide +kernel
theorem dL_law_1262 : decode cL_law 1262 = .ok (.iaload, 1) := by decide +kernel
theorem dL_law_1263 : decode cL_law 1263 = .ok (.aload_n 0, 1) := by decide +kernel
theorem dL_law_1264 : decode cL_law 1264 = .ok (.iload_n 3, 1) := by decide +kernel
theorem dL_law_1265 : decode cL_law 1265 = .ok (.iconst 2, 1) := by decide +kernel
theorem dL_law_1266 : decode cL_law 1266 = .ok (.iadd, 1) := by decide +kernel
theorem dL_law_1267 : decode cL_law 1267 = .ok (.iaload, 1) := by decide +kernel
theorem dL_law_1268 : decode cL_law 1268 = .ok (.invokevirtual 143, 3) := by decide +kernel
theorem dL_law_1271 : decode cL_law 1271 = .ok (.aload_n 2, 1) := by decide +kernel
theorem dL_law_1272 : decode cL_law 1272 = .ok (.aload_n 0, 1) := by decide +kernel
theorem dL_law_1273 : decode cL_law 1273 = .ok (.iload_n 3, 1) := by decide +kernel
theorem dL_law_1274 : decode cL_law 1274 = .ok (.iconst 1, 1) := by decide +kernel
theorem dL_law_1275 : decode cL_law 1275 = .ok (.iadd, 1) := by decide +kernel
theorem dL_law_1276 : decode cL_law 1276 = .ok (.iaload, 1) := by decide +kernel
theorem dL_law_1277 : decode cL_law 1277 = .ok (.aload_n 0, 1) := by decide +kernel
theorem dL_law_1278 : decode cL_law 1278 = .ok (.iload_n 3, 1) := by decide +kernel
theorem dL_law_1279 : decode cL_law 1279 = .ok (.iconst 2, 1) := by decide +kernel
theorem dL_law_1280 : decode cL_law 1280 = .ok (.iadd, 1) := by decide +kernel
theorem dL_law_1281 : decode cL_law 1281 = .ok (.iaload, 1) := by decide +kernel
theorem dL_law_1282 : decode cL_law 1282 = .ok (.invokevirtual 146, 3) := by decide +kernel
theorem dL_law_1285 : decode cL_law 1285 = .ok (.if_icmp .eq 624, 3) := by decide +kernel
theorem dL_law_1288 : decode cL_law 1288 = .ok (.iconst 0, 1) := by decide +kernel
theorem dL_law_1289 : decode cL_law 1289 = .ok (.ireturn, 1) := by decide +kernel
theorem dL_law_1290 : decode cL_law 1290 = .ok (.aload_n 1, 1) := by decide +kernel
theorem dL_law_1291 : decode cL_law 1291 = .ok (.aload_n 0, 1) := by decide +kernel
theorem dL_law_1292 : decode cL_law 1292 = .ok (.iload_n 3, 1) := by decide +kernel
theorem dL_law_1293 : decode cL_law 1293 = .ok (.iconst 1, 1) := by decide +kernel
theorem dL_law_1294 : decode cL_law 1294 = .ok (.iadd, 1) := by decide +kernel
theorem dL_law_1295 : decode cL_law 1295 = .ok (.iaload, 1) := by decide +kernel
theorem dL_law_1296 : decode cL_law 1296 = .ok (.aload_n 0, 1) := by decide +kernel
theorem dL_law_1297 : decode cL_law 1297 = .ok (.iload_n 3, 1) := by decide +kernel
theorem dL_law_1298 : decode cL_law 1298 = .ok (.iconst 2, 1) := by decide +kernel
theorem dL_law_1299 : decode cL_law 1299 = .ok (.iadd, 1) := by decide +kernel
theorem dL_law_1300 : decode cL_law 1300 = .ok (.iaload, 1) := by decide +kernel
theorem dL_law_1301 : decode cL_law 1301 = .ok (.aload_n 0, 1) := by decide +kernel
theorem dL_law_1302 : decode cL_law 1302 = .ok (.iload_n 3, 1) := by decide +kernel
theorem dL_law_1303 : decode cL_law 1303 = .ok (.iconst 3, 1) := by decide +kernel
theorem dL_law_1304 : decode cL_law 1304 = .ok (.iadd, 1) := by decide +kernel
theorem dL_law_1305 : decode cL_law 1305 = .ok (.iaload, 1) := by decide +kernel
theorem dL_law_1306 : decode cL_law 1306 = .ok (.invokevirtual 147, 3) := by decide +kernel
theorem dL_law_1309 : decode cL_law 1309 = .ok (.aload_n 2, 1) := by decide +kernel
theorem dL_law_1310 : decode cL_law 1310 = .ok (.aload_n 0, 1) := by decide +kernel
theorem dL_law_1311 : decode cL_law 1311 = .ok (.iload_n 3, 1) := by decide +kernel
theorem dL_law_1312 : decode cL_law 1312 = .ok (.iconst 1, 1) := by decide +kernel
theorem dL_law_1313 : decode cL_law 1313 = .ok (.iadd, 1) := by decide +kernel
theorem dL_law_1314 : decode cL_law 1314 = .ok (.iaload, 1) := by decide +kernel
theorem dL_law_1315 : decode cL_law 1315 = .ok (.aload_n 0, 1) := by decide +kernel
theorem dL_law_1316 : decode cL_law 1316 = .ok (.iload_n 3, 1) := by decide +kernel
theorem dL_law_1317 : decode cL_law 1317 = .ok (.iconst 2, 1) := by decide +kernel
theorem dL_law_1318 : decode cL_law 1318 = .ok (.iadd, 1) := by decide +kernel
theorem dL_law_1319 : decode cL_law 1319 = .ok (.iaload, 1) := by decide +kernel
theorem dL_law_1320 : decode cL_law 1320 = .ok (.aload_n 0, 1) := by decide +kernel
theorem dL_law_1321 : decode cL_law 1321 = .ok (.iload_n 3, 1) := by decide +kernel
theorem dL_law_1322 : decode cL_law 1322 = .ok (.iconst 3, 1) := by decide +kernel
theorem dL_law_1323 : decode cL_law 1323 = .ok (.iadd, 1) := by decide +kernel
theorem dL_law_1324 : decode cL_law 1324 = .ok (.iaload, 1) := by decide +kernel
theorem dL_law_1325 : decode cL_law 1325 = .ok (.invokevirtual 150, 3) := by decide +kernel
theorem dL_law_1328 : decode cL_law 1328 = .ok (.if_icmp .eq 581, 3) := by decide +kernel
theorem dL_law_1331 : decode cL_law 1331 = .ok (.iconst 0, 1) := by decide +kernel
theorem dL_law_1332 : decode cL_law 1332 = .ok (.ireturn, 1) := by decide +kernel
theorem dL_law_1333 : decode cL_law 1333 = .ok (.aload_n 1, 1) := by decide +kernel
theorem dL_law_1334 : decode cL_law 1334 = .ok (.invokevirtual 151, 3) := by decide +kernel
theorem dL_law_1337 : decode cL_law 1337 = .ok (.aload_n 2, 1) := by decide +kernel
theorem dL_law_1338 : decode cL_law 1338 = .ok (.invokevirtual 154, 3) := by decide +kernel
theorem dL_law_1341 : decode cL_law 1341 = .ok (.if_icmp .eq 568, 3) := by decide +kernel
theorem dL_law_1344 : decode cL_law 1344 = .ok (.iconst 0, 1) := by decide +kernel
theorem dL_law_1345 : decode cL_law 1345 = .ok (.ireturn, 1) := by decide +kernel
theorem dL_law_1346 : decode cL_law 1346 = .ok (.aload_n 1, 1) := by decide +kernel
theorem dL_law_1347 : decode cL_law 1347 = .ok (.aload_n 0, 1) := by decide +kernel
theorem dL_law_1348 : decode cL_law 1348 = .ok (.iload_n 3, 1) := by decide +kernel
theorem dL_law_1349 : decode cL_law 1349 = .ok (.iconst 1, 1) := by decide +kernel
theorem dL_law_1350 : decode cL_law 1350 = .ok (.iadd, 1) := by decide +kernel
theorem dL_law_1351 : decode cL_law 1351 = .ok (.iaload, 1) := by decide +kernel
theorem dL_law_1352 : decode cL_law 1352 = .ok (.aload_n 0, 1) := by decide +kernel
theorem dL_law_1353 : decode cL_law 1353 = .ok (.iload_n 3, 1) := by decide +kernel
theorem dL_law_1354 : decode cL_law 1354 = .ok (.iconst 2, 1) := by decide +kernel
theorem dL_law_1355 : decode cL_law 1355 = .ok (.iadd, 1) := by decide +kernel
theorem dL_law_1356 : decode cL_law 1356 = .ok (.iaload, 1) := by decide +kernel
theorem dL_law_1357 : decode cL_law 1357 = .ok (.invokevirtual 155, 3) := by decide +kernel
theorem dL_law_1360 : decode cL_law 1360 = .ok (.aload_n 2, 1) := by decide +kernel
theorem dL_law_1361 : decode cL_law 1361 = .ok (.aload_n 0, 1) := by decide +kernel
theorem dL_law_1362 : decode cL_law 1362 = .ok (.iload_n 3, 1) := by decide +kernel
theorem dL_law_1363 : decode cL_law 1363 = .ok (.iconst 1, 1) := by decide +kernel
theorem dL_law_1364 : decode cL_law 1364 = .ok (.iadd, 1) := by decide +kernel
theorem dL_law_1365 : decode cL_law 1365 = .ok (.iaload, 1) := by decide +kernel
theorem dL_law_1366 : decode cL_law 1366 = .ok (.aload_n 0, 1) := by decide +kernel
theorem dL_law_1367 : decode cL_law 1367 = .ok (.iload_n 3, 1) := by decide +kernel
theorem dL_law_1368 : decode cL_law 1368 = .ok (.iconst 2, 1) := by decide +kernel
theorem dL_law_1369 : decode cL_law 1369 = .ok (.iadd, 1) := by decide +kernel
theorem dL_law_1370 : decode cL_law 1370 = .ok (.iaload, 1) := by decide +kernel
theorem dL_law_1371 : decode cL_law 1371 = .ok (.invokevirtual 158, 3) := by decide +kernel
theorem dL_law_1374 : decode cL_law 1374 = .ok (.if_icmp .eq 535, 3) := by decide +kernel
theorem dL_law_1377 : decode cL_law 1377 = .ok (.iconst 0, 1) := by decide +kernel
theorem dL_law_1378 : decode cL_law 1378 = .ok (.ireturn, 1) := by decide +kernel
theorem dL_law_1379 : decode cL_law 1379 = .ok (.aload_n 1, 1) := by decide +kernel
theorem dL_law_1380 : decode cL_law 1380 = .ok (.invokevirtual 159, 3) := by decide +kernel
theorem dL_law_1383 : decode cL_law 1383 = .ok (.aload_n 2, 1) := by decide +kernel
theorem dL_law_1384 : decode cL_law 1384 = .ok (.invokevirtual 162, 3) := by decide +kernel
theorem dL_law_1387 : decode cL_law 1387 = .ok (.if_icmp .eq 522, 3) := by decide +kernel
theorem dL_law_1390 : decode cL_law 1390 = .ok (.iconst 0, 1) := by decide +kernel
theorem dL_law_1391 : decode cL_law 1391 = .ok (.ireturn, 1) := by decide +kernel
theorem dL_law_1392 : decode cL_law 1392 = .ok (.aload_n 1, 1) := by decide +kernel
theorem dL_law_1393 : decode cL_law 1393 = .ok (.aload_n 0, 1) := by decide +kernel
theorem dL_law_1394 : decode cL_law 1394 = .ok (.iload_n 3, 1) := by decide +kernel
theorem dL_law_1395 : decode cL_law 1395 = .ok (.iconst 1, 1) := by decide +kernel
theorem dL_law_1396 : decode cL_law 1396 = .ok (.iadd, 1) := by decide +kernel
theorem dL_law_1397 : decode cL_law 1397 = .ok (.iaload, 1) := by decide +kernel
theorem dL_law_1398 : decode cL_law 1398 = .ok (.invokevirtual 163, 3) := by decide +kernel
theorem dL_law_1401 : decode cL_law 1401 = .ok (.aload_n 2, 1) := by decide +kernel
theorem dL_law_1402 : decode cL_law 1402 = .ok (.aload_n 0, 1) := by decide +kernel
theorem dL_law_1403 : decode cL_law 1403 = .ok (.iload_n 3, 1) := by decide +kernel
theorem dL_law_1404 : decode cL_law 1404 = .ok (.iconst 1, 1) := by decide +kernel
theorem dL_law_1405 : decode cL_law 1405 = .ok (.iadd, 1) := by decide +kernel
theorem dL_law_1406 : decode cL_law 1406 = .ok (.iaload, 1) := by decide +kernel
theorem dL_law_1407 : decode cL_law 1407 = .ok (.invokevirtual 166, 3) := by decide +kernel
theorem dL_law_1410 : decode cL_law 1410 = .ok (.if_icmp .eq 499, 3) := by decide +kernel
theorem dL_law_1413 : decode cL_law 1413 = .ok (.iconst 0, 1) := by decide +kernel
theorem dL_law_1414 : decode cL_law 1414 = .ok (.ireturn, 1) := by decide +kernel
theorem dL_law_1415 : decode cL_law 1415 = .ok (.aload_n 1, 1) := by decide +kernel
theorem dL_law_1416 : decode cL_law 1416 = .ok (.aload_n 0, 1) := by decide +kernel
theorem dL_law_1417 : decode cL_law 1417 = .ok (.iload_n 3, 1) := by decide +kernel
theorem dL_law_1418 : decode cL_law 1418 = .ok (.iconst 1, 1) := by decide +kernel
theorem dL_law_1419 : decode cL_law 1419 = .ok (.iadd, 1) := by decide +kernel
theorem dL_law_1420 : decode cL_law 1420 = .ok (.iaload, 1) := by decide +kernel
theorem dL_law_1421 : decode cL_law 1421 = .ok (.aload_n 0, 1) := by decide +kernel
theorem dL_law_1422 : decode cL_law 1422 = .ok (.iload_n 3, 1) := by decide +kernel
theorem dL_law_1423 : decode cL_law 1423 = .ok (.iconst 2, 1) := by decide +kernel
theorem dL_law_1424 : decode cL_law 1424 = .ok (.iadd, 1) := by decide +kernel
theorem dL_law_1425 : decode cL_law 1425 = .ok (.iaload, 1) := by decide +kernel
theorem dL_law_1426 : decode cL_law 1426 = .ok (.invokevirtual 167, 3) := by decide +kernel
theorem dL_law_1429 : decode cL_law 1429 = .ok (.aload_n 2, 1) := by decide +kernel
theorem dL_law_1430 : decode cL_law 1430 = .ok (.aload_n 0, 1) := by decide +kernel
theorem dL_law_1431 : decode cL_law 1431 = .ok (.iload_n 3, 1) := by decide +kernel
theorem dL_law_1432 : decode cL_law 1432 = .ok (.iconst 1, 1) := by decide +kernel
theorem dL_law_1433 : decode cL_law 1433 = .ok (.iadd, 1) := by decide +kernel
theorem dL_law_1434 : decode cL_law 1434 = .ok (.iaload, 1) := by decide +kernel
theorem dL_law_1435 : decode cL_law 1435 = .ok (.aload_n 0, 1) := by decide +kernel
theorem dL_law_1436 : decode cL_law 1436 = .ok (.iload_n 3, 1) := by decide +kernel
theorem dL_law_1437 : decode cL_law 1437 = .ok (.iconst 2, 1) := by decide +kernel
theorem dL_law_1438 : decode cL_law 1438 = .ok (.iadd, 1) := by decide +kernel
theorem dL_law_1439 : decode cL_law 1439 = .ok (.iaload, 1) := by decide +kernel
theorem dL_law_1440 : decode cL_law 1440 = .ok (.invokevirtual 170, 3) := by decide +kernel
theorem dL_law_1443 : decode cL_law 1443 = .ok (.if_icmp .eq 466, 3) := by decide +kernel
theorem dL_law_1446 : decode cL_law 1446 = .ok (.iconst 0, 1) := by decide +kernel
theorem dL_law_1447 : decode cL_law 1447 = .ok (.ireturn, 1) := by decide +kernel
theorem dL_law_1448 : decode cL_law 1448 = .ok (.aload_n 1, 1) := by decide +kernel
theorem dL_law_1449 : decode cL_law 1449 = .ok (.aload_n 0, 1) := by decide +kernel
theorem dL_law_1450 : decode cL_law 1450 = .ok (.iload_n 3, 1) := by decide +kernel
theorem dL_law_1451 : decode cL_law 1451 = .ok (.iconst 1, 1) := by decide +kernel
theorem dL_law_1452 : decode cL_law 1452 = .ok (.iadd, 1) := by decide +kernel
theorem dL_law_1453 : decode cL_law 1453 = .ok (.iaload, 1) := by decide +kernel
theorem dL_law_1454 : decode cL_law 1454 = .ok (.invokevirtual 171, 3) := by decide +kernel
theorem dL_law_1457 : decode cL_law 1457 = .ok (.aload_n 2, 1) := by decide +kernel
theorem dL_law_1458 : decode cL_law 1458 = .ok (.aload_n 0, 1) := by decide +kernel
theorem dL_law_1459 : decode cL_law 1459 = .ok (.iload_n 3, 1) := by decide +kernel
theorem dL_law_1460 : decode cL_law 1460 = .ok (.iconst 1, 1) := by decide +kernel
theorem dL_law_1461 : decode cL_law 1461 = .ok (.iadd, 1) := by decide +kernel
theorem dL_law_1462 : decode cL_law 1462 = .ok (.iaload, 1) := by decide +kernel
theorem dL_law_1463 : decode cL_law 1463 = .ok (.invokevirtual 174, 3) := by decide +kernel
theorem dL_law_1466 : decode cL_law 1466 = .ok (.if_icmp .eq 443, 3) := by decide +kernel
theorem dL_law_1469 : decode cL_law 1469 = .ok (.iconst 0, 1) := by decide +kernel
theorem dL_law_1470 : decode cL_law 1470 = .ok (.ireturn, 1) := by decide +kernel
theorem dL_law_1471 : decode cL_law 1471 = .ok (.aload_n 1, 1) := by decide +kernel
theorem dL_law_1472 : decode cL_law 1472 = .ok (.invokevirtual 175, 3) := by decide +kernel
theorem dL_law_1475 : decode cL_law 1475 = .ok (.aload_n 2, 1) := by decide +kernel
theorem dL_law_1476 : decode cL_law 1476 = .ok (.invokevirtual 178, 3) := by decide +kernel
theorem dL_law_1479 : decode cL_law 1479 = .ok (.if_icmp .eq 430, 3) := by decide +kernel
theorem dL_law_1482 : decode cL_law 1482 = .ok (.iconst 0, 1) := by decide +kernel
theorem dL_law_1483 : decode cL_law 1483 = .ok (.ireturn, 1) := by decide +kernel
theorem dL_law_1484 : decode cL_law 1484 = .ok (.aload_n 1, 1) := by decide +kernel
theorem dL_law_1485 : decode cL_law 1485 = .ok (.aload_n 0, 1) := by decide +kernel
theorem dL_law_1486 : decode cL_law 1486 = .ok (.iload_n 3, 1) := by decide +kernel
theorem dL_law_1487 : decode cL_law 1487 = .ok (.iconst 1, 1) := by decide +kernel
theorem dL_law_1488 : decode cL_law 1488 = .ok (.iadd, 1) := by decide +kernel
theorem dL_law_1489 : decode cL_law 1489 = .ok (.iaload, 1) := by decide +kernel
theorem dL_law_1490 : decode cL_law 1490 = .ok (.aload_n 0, 1) := by decide +kernel
theorem dL_law_1491 : decode cL_law 1491 = .ok (.iload_n 3, 1) := by decide +kernel
theorem dL_law_1492 : decode cL_law 1492 = .ok (.iconst 2, 1) := by decide +kernel
theorem dL_law_1493 : decode cL_law 1493 = .ok (.iadd, 1) := by decide +kernel
theorem dL_law_1494 : decode cL_law 1494 = .ok (.iaload, 1) := by decide +kernel
theorem dL_law_1495 : decode cL_law 1495 = .ok (.invokevirtual 179, 3) := by decide +kernel
theorem dL_law_1498 : decode cL_law 1498 = .ok (.aload_n 2, 1) := by decide +kernel
theorem dL_law_1499 : decode cL_law 1499 = .ok (.aload_n 0, 1) := by decide +kernel
theorem dL_law_1500 : decode cL_law 1500 = .ok (.iload_n 3, 1) := by decide +kernel
theorem dL_law_1501 : decode cL_law 1501 = .ok (.iconst 1, 1) := by decide +kernel
theorem dL_law_1502 : decode cL_law 1502 = .ok (.iadd, 1) := by decide +kernel
theorem dL_law_1503 : decode cL_law 1503 = .ok (.iaload, 1) := by decide +kernel
theorem dL_law_1504 : decode cL_law 1504 = .ok (.aload_n 0, 1) := by decide +kernel
theorem dL_law_1505 : decode cL_law 1505 = .ok (.iload_n 3, 1) := by decide +kernel
theorem dL_law_1506 : decode cL_law 1506 = .ok (.iconst 2, 1) := by decide +kernel
theorem dL_law_1507 : decode cL_law 1507 = .ok (.iadd, 1) := by decide +kernel
theorem dL_law_1508 : decode cL_law 1508 = .ok (.iaload, 1) := by decide +kernel
theorem dL_law_1509 : decode cL_law 1509 = .ok (.invokevirtual 182, 3) := by decide +kernel
theorem dL_law_1512 : decode cL_law 1512 = .ok (.if_icmp .eq 397, 3) := by decide +kernel
theorem dL_law_1515 : decode cL_law 1515 = .ok (.iconst 0, 1) := by decide +kernel
theorem dL_law_1516 : decode cL_law 1516 = .ok (.ireturn, 1) := by decide +kernel
theorem dL_law_1517 : decode cL_law 1517 = .ok (.aload_n 1, 1) := by decide +kernel
theorem dL_law_1518 : decode cL_law 1518 = .ok (.aload_n 0, 1) := by decide +kernel
theorem dL_law_1519 : decode cL_law 1519 = .ok (.iload_n 3, 1) := by decide +kernel
theorem dL_law_1520 : decode cL_law 1520 = .ok (.iconst 1, 1) := by decide +kernel
theorem dL_law_1521 : decode cL_law 1521 = .ok (.iadd, 1) := by decide +kernel
theorem dL_law_1522 : decode cL_law 1522 = .ok (.iaload, 1) := by decide +kernel
theorem dL_law_1523 : decode cL_law 1523 = .ok (.aload_n 0, 1) := by decide +kernel
theorem dL_law_1524 : decode cL_law 1524 = .ok (.iload_n 3, 1) := by decide +kernel
theorem dL_law_1525 : decode cL_law 1525 = .ok (.iconst 2, 1) := by decide +kernel
theorem dL_law_1526 : decode cL_law 1526 = .ok (.iadd, 1) := by decide +kernel
theorem dL_law_1527 : decode cL_law 1527 = .ok (.iaload, 1) := by decide +kernel
theorem dL_law_1528 : decode cL_law 1528 = .ok (.aload_n 0, 1) := by decide +kernel
theorem dL_law_1529 : decode cL_law 1529 = .ok (.iload_n 3, 1) := by decide +kernel
theorem dL_law_1530 : decode cL_law 1530 = .ok (.iconst 3, 1) := by decide +kernel
theorem dL_law_1531 : decode cL_law 1531 = .ok (.iadd, 1) := by decide +kernel
theorem dL_law_1532 : decode cL_law 1532 = .ok (.iaload, 1) := by decide +kernel
theorem dL_law_1533 : decode cL_law 1533 = .ok (.invokevirtual 183, 3) := by decide +kernel
theorem dL_law_1536 : decode cL_law 1536 = .ok (.aload_n 2, 1) := by decide +kernel
theorem dL_law_1537 : decode cL_law 1537 = .ok (.aload_n 0, 1) := by decide +kernel
theorem dL_law_1538 : decode cL_law 1538 = .ok (.iload_n 3, 1) := by decide +kernel
theorem dL_law_1539 : decode cL_law 1539 = .ok (.iconst 1, 1) := by decide +kernel
theorem dL_law_1540 : decode cL_law 1540 = .ok (.iadd, 1) := by decide +kernel
theorem dL_law_1541 : decode cL_law 1541 = .ok (.iaload, 1) := by decide +kernel
theorem dL_law_1542 : decode cL_law 1542 = .ok (.aload_n 0, 1) := by decide +kernel
theorem dL_law_1543 : decode cL_law 1543 = .ok (.iload_n 3, 1) := by decide +kernel
theorem dL_law_1544 : decode cL_law 1544 = .ok (.iconst 2, 1) := by decide +kernel
theorem dL_law_1545 : decode cL_law 1545 = .ok (.iadd, 1) := by decide +kernel
theorem dL_law_1546 : decode cL_law 1546 = .ok (.iaload, 1) := by decide +kernel
theorem dL_law_1547 : decode cL_law 1547 = .ok (.aload_n 0, 1) := by decide +kernel
theorem dL_law_1548 : decode cL_law 1548 = .ok (.iload_n 3, 1) := by decide +kernel
theorem dL_law_1549 : decode cL_law 1549 = .ok (.iconst 3, 1) := by decide +kernel
theorem dL_law_1550 : decode cL_law 1550 = .ok (.iadd, 1) := by decide +kernel
theorem dL_law_1551 : decode cL_law 1551 = .ok (.iaload, 1) := by decide +kernel
theorem dL_law_1552 : decode cL_law 1552 = .ok (.invokevirtual 186, 3) := by decide +kernel
theorem dL_law_1555 : decode cL_law 1555 = .ok (.if_icmp .eq 354, 3) := by decide +kernel
theorem dL_law_1558 : decode cL_law 1558 = .ok (.iconst 0, 1) := by decide +kernel
theorem dL_law_1559 : decode cL_law 1559 = .ok (.ireturn, 1) := by decide +kernel
theorem dL_law_1560 : decode cL_law 1560 = .ok (.aload_n 1, 1) := by decide +kernel
theorem dL_law_1561 : decode cL_law 1561 = .ok (.aload_n 0, 1) := by decide +kernel
theorem dL_law_1562 : decode cL_law 1562 = .ok (.iload_n 3, 1) := by decide +kernel
theorem dL_law_1563 : decode cL_law 1563 = .ok (.iconst 1, 1) := by decide +kernel
theorem dL_law_1564 : decode cL_law 1564 = .ok (.iadd, 1) := by decide +kernel
theorem dL_law_1565 : decode cL_law 1565 = .ok (.iaload, 1) := by decide +kernel
theorem dL_law_1566 : decode cL_law 1566 = .ok (.aload_n 0, 1) := by decide +kernel
theorem dL_law_1567 : decode cL_law 1567 = .ok (.iload_n 3, 1) := by decide +kernel
theorem dL_law_1568 : decode cL_law 1568 = .ok (.iconst 2, 1) := by decide +kernel
theorem dL_law_1569 : decode cL_law 1569 = .ok (.iadd, 1) := by decide +kernel
theorem dL_law_1570 : decode cL_law 1570 = .ok (.iaload, 1) := by decide +kernel
theorem dL_law_1571 : decode cL_law 1571 = .ok (.invokevirtual 187, 3) := by decide +kernel
theorem dL_law_1574 : decode cL_law 1574 = .ok (.aload_n 2, 1) := by decide +kernel
theorem dL_law_1575 : decode cL_law 1575 = .ok (.aload_n 0, 1) := by decide +kernel
theorem dL_law_1576 : decode cL_law 1576 = .ok (.iload_n 3, 1) := by decide +kernel
theorem dL_law_1577 : decode cL_law 1577 = .ok (.iconst 1, 1) := by decide +kernel
theorem dL_law_1578 : decode cL_law 1578 = .ok (.iadd, 1) := by decide +kernel
theorem dL_law_1579 : decode cL_law 1579 = .ok (.iaload, 1) := by decide +kernel
theorem dL_law_1580 : decode cL_law 1580 = .ok (.aload_n 0, 1) := by decide +kernel
theorem dL_law_1581 : decode cL_law 1581 = .ok (.iload_n 3, 1) := by decide +kernel
theorem dL_law_1582 : decode cL_law 1582 = .ok (.iconst 2, 1) := by decide +kernel
theorem dL_law_1583 : decode cL_law 1583 = .ok (.iadd, 1) := by decide +kernel
theorem dL_law_1584 : decode cL_law 1584 = .ok (.iaload, 1) := by decide +kernel
theorem dL_law_1585 : decode cL_law 1585 = .ok (.invokevirtual 190, 3) := by decide +kernel
theorem dL_law_1588 : decode cL_law 1588 = .ok (.if_icmp .eq 321, 3) := by decide +kernel
theorem dL_law_1591 : decode cL_law 1591 = .ok (.iconst 0, 1) := by decide +kernel
theorem dL_law_1592 : decode cL_law 1592 = .ok (.ireturn, 1) := by decide +kernel
theorem dL_law_1593 : decode cL_law 1593 = .ok (.aload_n 1, 1) := by decide +kernel
theorem dL_law_1594 : decode cL_law 1594 = .ok (.aload_n 0, 1) := by decide +kernel
theorem dL_law_1595 : decode cL_law 1595 = .ok (.iload_n 3, 1) := by decide +kernel
theorem dL_law_1596 : decode cL_law 1596 = .ok (.iconst 1, 1) := by decide +kernel
theorem dL_law_1597 : decode cL_law 1597 = .ok (.iadd, 1) := by decide +kernel
theorem dL_law_1598 : decode cL_law 1598 = .ok (.iaload, 1) := by decide +kernel
theorem dL_law_1599 : decode cL_law 1599 = .ok (.aload_n 0, 1) := by decide +kernel
theorem dL_law_1600 : decode cL_law 1600 = .ok (.iload_n 3, 1) := by decide +kernel
theorem dL_law_1601 : decode cL_law 1601 = .ok (.iconst 2, 1) := by decide +kernel
theorem dL_law_1602 : decode cL_law 1602 = .ok (.iadd, 1) := by decide +kernel
theorem dL_law_1603 : decode cL_law 1603 = .ok (.iaload, 1) := by decide +kernel
theorem dL_law_1604 : decode cL_law 1604 = .ok (.aload_n 0, 1) := by decide +kernel
theorem dL_law_1605 : decode cL_law 1605 = .ok (.iload_n 3, 1) := by decide +kernel
theorem dL_law_1606 : decode cL_law 1606 = .ok (.iconst 3, 1) := by decide +kernel
theorem dL_law_1607 : decode cL_law 1607 = .ok (.iadd, 1) := by decide +kernel
theorem dL_law_1608 : decode cL_law 1608 = .ok (.iaload, 1) := by decide +kernel
theorem dL_law_1609 : decode cL_law 1609 = .ok (.invokevirtual 191, 3) := by decide +kernel
theorem dL_law_1612 : decode cL_law 1612 = .ok (.aload_n 2, 1) := by decide +kernel
theorem dL_law_1613 : decode cL_law 1613 = .ok (.aload_n 0, 1) := by decide +kernel
theorem dL_law_1614 : decode cL_law 1614 = .ok (.iload_n 3, 1) := by decide +kernel
theorem dL_law_1615 : decode cL_law 1615 = .ok (.iconst 1, 1) := by decide +kernel
theorem dL_law_1616 : decode cL_law 1616 = .ok (.iadd, 1) := by decide +kernel
theorem dL_law_1617 : decode cL_law 1617 = .ok (.iaload, 1) := by decide +kernel
theorem dL_law_1618 : decode cL_law 1618 = .ok (.aload_n 0, 1) := by decide +kernel
theorem dL_law_1619 : decode cL_law 1619 = .ok (.iload_n 3, 1) := by decide +kernel
theorem dL_law_1620 : decode cL_law 1620 = .ok (.iconst 2, 1) := by decide +kernel
theorem dL_law_1621 : decode cL_law 1621 = .ok (.iadd, 1) := by decide +kernel
theorem dL_law_1622 : decode cL_law 1622 = .ok (.iaload, 1) := by decide +kernel
theorem dL_law_1623 : decode cL_law 1623 = .ok (.aload_n 0, 1) := by decide +kernel
theorem dL_law_1624 : decode cL_law 1624 = .ok (.iload_n 3, 1) := by decide +kernel
theorem dL_law_1625 : decode cL_law 1625 = .ok (.iconst 3, 1) := by decide +kernel
theorem dL_law_1626 : decode cL_law 1626 = .ok (.iadd, 1) := by decide +kernel
theorem dL_law_1627 : decode cL_law 1627 = .ok (.iaload, 1) := by decide +kernel
theorem dL_law_1628 : decode cL_law 1628 = .ok (.invokevirtual 194, 3) := by decide +kernel
theorem dL_law_1631 : decode cL_law 1631 = .ok (.if_icmp .eq 278, 3) := by decide +kernel
theorem dL_law_1634 : decode cL_law 1634 = .ok (.iconst 0, 1) := by decide +kernel
theorem dL_law_1635 : decode cL_law 1635 = .ok (.ireturn, 1) := by decide +kernel
theorem dL_law_1636 : decode cL_law 1636 = .ok (.aload_n 1, 1) := by decide +kernel
theorem dL_law_1637 : decode cL_law 1637 = .ok (.aload_n 0, 1) := by decide +kernel
theorem dL_law_1638 : decode cL_law 1638 = .ok (.iload_n 3, 1) := by decide +kernel
theorem dL_law_1639 : decode cL_law 1639 = .ok (.iconst 1, 1) := by decide +kernel
theorem dL_law_1640 : decode cL_law 1640 = .ok (.iadd, 1) := by decide +kernel
theorem dL_law_1641 : decode cL_law 1641 = .ok (.iaload, 1) := by decide +kernel
theorem dL_law_1642 : decode cL_law 1642 = .ok (.aload_n 0, 1) := by decide +kernel
theorem dL_law_1643 : decode cL_law 1643 = .ok (.iload_n 3, 1) := by decide +kernel
theorem dL_law_1644 : decode cL_law 1644 = .ok (.iconst 2, 1) := by decide +kernel
theorem dL_law_1645 : decode cL_law 1645 = .ok (.iadd, 1) := by decide +kernel
theorem dL_law_1646 : decode cL_law 1646 = .ok (.iaload, 1) := by decide +kernel
theorem dL_law_1647 : decode cL_law 1647 = .ok (.invokevirtual 195, 3) := by decide +kernel
theorem dL_law_1650 : decode cL_law 1650 = .ok (.aload_n 2, 1) := by decide +kernel
theorem dL_law_1651 : decode cL_law 1651 = .ok (.aload_n 0, 1) := by decide +kernel
theorem dL_law_1652 : decode cL_law 1652 = .ok (.iload_n 3, 1) := by decide +kernel
theorem dL_law_1653 : decode cL_law 1653 = .ok (.iconst 1, 1) := by decide +kernel
theorem dL_law_1654 : decode cL_law 1654 = .ok (.iadd, 1) := by decide +kernel
theorem dL_law_1655 : decode cL_law 1655 = .ok (.iaload, 1) := by decide +kernel
theorem dL_law_1656 : decode cL_law 1656 = .ok (.aload_n 0, 1) := by decide +kernel
theorem dL_law_1657 : decode cL_law 1657 = .ok (.iload_n 3, 1) := by decide +kernel
theorem dL_law_1658 : decode cL_law 1658 = .ok (.iconst 2, 1) := by decide +kernel
theorem dL_law_1659 : decode cL_law 1659 = .ok (.iadd, 1) := by decide +kernel
theorem dL_law_1660 : decode cL_law 1660 = .ok (.iaload, 1) := by decide +kernel
theorem dL_law_1661 : decode cL_law 1661 = .ok (.invokevirtual 198, 3) := by decide +kernel
theorem dL_law_1664 : decode cL_law 1664 = .ok (.if_icmp .eq 245, 3) := by decide +kernel
theorem dL_law_1667 : decode cL_law 1667 = .ok (.iconst 0, 1) := by decide +kernel
theorem dL_law_1668 : decode cL_law 1668 = .ok (.ireturn, 1) := by decide +kernel
theorem dL_law_1669 : decode cL_law 1669 = .ok (.aload_n 1, 1) := by decide +kernel
theorem dL_law_1670 : decode cL_law 1670 = .ok (.aload_n 0, 1) := by decide +kernel
theorem dL_law_1671 : decode cL_law 1671 = .ok (.iload_n 3, 1) := by decide +kernel
theorem dL_law_1672 : decode cL_law 1672 = .ok (.iconst 1, 1) := by decide +kernel
theorem dL_law_1673 : decode cL_law 1673 = .ok (.iadd, 1) := by decide +kernel
theorem dL_law_1674 : decode cL_law 1674 = .ok (.iaload, 1) := by decide +kernel
theorem dL_law_1675 : decode cL_law 1675 = .ok (.aload_n 0, 1) := by decide +kernel
theorem dL_law_1676 : decode cL_law 1676 = .ok (.iload_n 3, 1) := by decide +kernel
theorem dL_law_1677 : decode cL_law 1677 = .ok (.iconst 2, 1) := by decide +kernel
theorem dL_law_1678 : decode cL_law 1678 = .ok (.iadd, 1) := by decide +kernel
theorem dL_law_1679 : decode cL_law 1679 = .ok (.iaload, 1) := by decide +kernel
theorem dL_law_1680 : decode cL_law 1680 = .ok (.aload_n 0, 1) := by decide +kernel
theorem dL_law_1681 : decode cL_law 1681 = .ok (.iload_n 3, 1) := by decide +kernel
theorem dL_law_1682 : decode cL_law 1682 = .ok (.iconst 3, 1) := by decide +kernel
theorem dL_law_1683 : decode cL_law 1683 = .ok (.iadd, 1) := by decide +kernel
theorem dL_law_1684 : decode cL_law 1684 = .ok (.iaload, 1) := by decide +kernel
theorem dL_law_1685 : decode cL_law 1685 = .ok (.invokevirtual 199, 3) := by decide +kernel
theorem dL_law_1688 : decode cL_law 1688 = .ok (.aload_n 2, 1) := by decide +kernel
theorem dL_law_1689 : decode cL_law 1689 = .ok (.aload_n 0, 1) := by decide +kernel
theorem dL_law_1690 : decode cL_law 1690 = .ok (.iload_n 3, 1) := by decide +kernel
theorem dL_law_1691 : decode cL_law 1691 = .ok (.iconst 1, 1) := by decide +kernel
theorem dL_law_1692 : decode cL_law 1692 = .ok (.iadd, 1) := by decide +kernel
theorem dL_law_1693 : decode cL_law 1693 = .ok (.iaload, 1) := by decide +kernel
theorem dL_law_1694 : decode cL_law 1694 = .ok (.aload_n 0, 1) := by decide +kernel
theorem dL_law_1695 : decode cL_law 1695 = .ok (.iload_n 3, 1) := by decide +kernel
theorem dL_law_1696 : decode cL_law 1696 = .ok (.iconst 2, 1) := by decide +kernel
theorem dL_law_1697 : decode cL_law 1697 = .ok (.iadd, 1) := by decide +kernel
theorem dL_law_1698 : decode cL_law 1698 = .ok (.iaload, 1) := by decide +kernel
theorem dL_law_1699 : decode cL_law 1699 = .ok (.aload_n 0, 1) := by decide +kernel
theorem dL_law_1700 : decode cL_law 1700 = .ok (.iload_n 3, 1) := by decide +kernel
theorem dL_law_1701 : decode cL_law 1701 = .ok (.iconst 3, 1) := by decide +kernel
theorem dL_law_1702 : decode cL_law 1702 = .ok (.iadd, 1) := by decide +kernel
theorem dL_law_1703 : decode cL_law 1703 = .ok (.iaload, 1) := by decide +kernel
theorem dL_law_1704 : decode cL_law 1704 = .ok (.invokevirtual 202, 3) := by decide +kernel
theorem dL_law_1707 : decode cL_law 1707 = .ok (.if_icmp .eq 202, 3) := by decide +kernel
theorem dL_law_1710 : decode cL_law 1710 = .ok (.iconst 0, 1) := by decide +kernel
theorem dL_law_1711 : decode cL_law 1711 = .ok (.ireturn, 1) := by decide +kernel
theorem dL_law_1712 : decode cL_law 1712 = .ok (.aload_n 1, 1) := by decide +kernel
theorem dL_law_1713 : decode cL_law 1713 = .ok (.aload_n 0, 1) := by decide +kernel
theorem dL_law_1714 : decode cL_law 1714 = .ok (.iload_n 3, 1) := by decide +kernel
theorem dL_law_1715 : decode cL_law 1715 = .ok (.iconst 1, 1) := by decide +kernel
theorem dL_law_1716 : decode cL_law 1716 = .ok (.iadd, 1) := by decide +kernel
theorem dL_law_1717 : decode cL_law 1717 = .ok (.iaload, 1) := by decide +kernel
theorem dL_law_1718 : decode cL_law 1718 = .ok (.aload_n 0, 1) := by decide +kernel
theorem dL_law_1719 : decode cL_law 1719 = .ok (.iload_n 3, 1) := by decide +kernel
theorem dL_law_1720 : decode cL_law 1720 = .ok (.iconst 2, 1) := by decide +kernel
theorem dL_law_1721 : decode cL_law 1721 = .ok (.iadd, 1) := by decide +kernel
theorem dL_law_1722 : decode cL_law 1722 = .ok (.iaload, 1) := by decide +kernel
theorem dL_law_1723 : decode cL_law 1723 = .ok (.aload_n 0, 1) := by decide +kernel
theorem dL_law_1724 : decode cL_law 1724 = .ok (.iload_n 3, 1) := by decide +kernel
theorem dL_law_1725 : decode cL_law 1725 = .ok (.iconst 3, 1) := by decide +kernel
theorem dL_law_1726 : decode cL_law 1726 = .ok (.iadd, 1) := by decide +kernel
theorem dL_law_1727 : decode cL_law 1727 = .ok (.iaload, 1) := by decide +kernel
theorem dL_law_1728 : decode cL_law 1728 = .ok (.invokevirtual 203, 3) := by decide +kernel
theorem dL_law_1731 : decode cL_law 1731 = .ok (.aload_n 2, 1) := by decide +kernel
theorem dL_law_1732 : decode cL_law 1732 = .ok (.aload_n 0, 1) := by decide +kernel
theorem dL_law_1733 : decode cL_law 1733 = .ok (.iload_n 3, 1) := by decide +kernel
theorem dL_law_1734 : decode cL_law 1734 = .ok (.iconst 1, 1) := by decide +kernel
theorem dL_law_1735 : decode cL_law 1735 = .ok (.iadd, 1) := by decide +kernel
theorem dL_law_1736 : decode cL_law 1736 = .ok (.iaload, 1) := by decide +kernel
theorem dL_law_1737 : decode cL_law 1737 = .ok (.aload_n 0, 1) := by decide +kernel
theorem dL_law_1738 : decode cL_law 1738 = .ok (.iload_n 3, 1) := by decide +kernel
theorem dL_law_1739 : decode cL_law 1739 = .ok (.iconst 2, 1) := by decide +kernel
theorem dL_law_1740 : decode cL_law 1740 = .ok (.iadd, 1) := by decide +kernel
theorem dL_law_1741 : decode cL_law 1741 = .ok (.iaload, 1) := by decide +kernel
theorem dL_law_1742 : decode cL_law 1742 = .ok (.aload_n 0, 1) := by decide +kernel
theorem dL_law_1743 : decode cL_law 1743 = .ok (.iload_n 3, 1) := by decide +kernel
theorem dL_law_1744 : decode cL_law 1744 = .ok (.iconst 3, 1) := by decide +kernel
theorem dL_law_1745 : decode cL_law 1745 = .ok (.iadd, 1) := by decide +kernel
theorem dL_law_1746 : decode cL_law 1746 = .ok (.iaload, 1) := by decide +kernel
theorem dL_law_1747 : decode cL_law 1747 = .ok (.invokevirtual 206, 3) := by decide +kernel
theorem dL_law_1750 : decode cL_law 1750 = .ok (.if_icmp .eq 159, 3) := by decide +kernel
theorem dL_law_1753 : decode cL_law 1753 = .ok (.iconst 0, 1) := by decide +kernel
theorem dL_law_1754 : decode cL_law 1754 = .ok (.ireturn, 1) := by decide +kernel
theorem dL_law_1755 : decode cL_law 1755 = .ok (.aload_n 1, 1) := by decide +kernel
theorem dL_law_1756 : decode cL_law 1756 = .ok (.aload_n 0, 1) := by decide +kernel
theorem dL_law_1757 : decode cL_law 1757 = .ok (.iload_n 3, 1) := by decide +kernel
theorem dL_law_1758 : decode cL_law 1758 = .ok (.iconst 1, 1) := by decide +kernel
theorem dL_law_1759 : decode cL_law 1759 = .ok (.iadd, 1) := by decide +kernel
theorem dL_law_1760 : decode cL_law 1760 = .ok (.iaload, 1) := by decide +kernel
theorem dL_law_1761 : decode cL_law 1761 = .ok (.aload_n 0, 1) := by decide +kernel
theorem dL_law_1762 : decode cL_law 1762 = .ok (.iload_n 3, 1) := by decide +kernel
theorem dL_law_1763 : decode cL_law 1763 = .ok (.iconst 2, 1) := by decide +kernel
theorem dL_law_1764 : decode cL_law 1764 = .ok (.iadd, 1) := by decide +kernel
theorem dL_law_1765 : decode cL_law 1765 = .ok (.iaload, 1) := by decide +kernel
theorem dL_law_1766 : decode cL_law 1766 = .ok (.invokevirtual 207, 3) := by decide +kernel
theorem dL_law_1769 : decode cL_law 1769 = .ok (.aload_n 2, 1) := by decide +kernel
theorem dL_law_1770 : decode cL_law 1770 = .ok (.aload_n 0, 1) := by decide +kernel
theorem dL_law_1771 : decode cL_law 1771 = .ok (.iload_n 3, 1) := by decide +kernel
theorem dL_law_1772 : decode cL_law 1772 = .ok (.iconst 1, 1) := by decide +kernel
theorem dL_law_1773 : decode cL_law 1773 = .ok (.iadd, 1) := by decide +kernel
theorem dL_law_1774 : decode cL_law 1774 = .ok (.iaload, 1) := by decide +kernel
theorem dL_law_1775 : decode cL_law 1775 = .ok (.aload_n 0, 1) := by decide +kernel
theorem dL_law_1776 : decode cL_law 1776 = .ok (.iload_n 3, 1) := by decide +kernel
theorem dL_law_1777 : decode cL_law 1777 = .ok (.iconst 2, 1) := by decide +kernel
theorem dL_law_1778 : decode cL_law 1778 = .ok (.iadd, 1) := by decide +kernel
theorem dL_law_1779 : decode cL_law 1779 = .ok (.iaload, 1) := by decide +kernel
theorem dL_law_1780 : decode cL_law 1780 = .ok (.invokevirtual 210, 3) := by decide +kernel
theorem dL_law_1783 : decode cL_law 1783 = .ok (.if_icmp .eq 126, 3) := by decide +kernel
theorem dL_law_1786 : decode cL_law 1786 = .ok (.iconst 0, 1) := by decide +kernel
theorem dL_law_1787 : decode cL_law 1787 = .ok (.ireturn, 1) := by decide +kernel
theorem dL_law_1788 : decode cL_law 1788 = .ok (.aload_n 1, 1) := by decide +kernel
theorem dL_law_1789 : decode cL_law 1789 = .ok (.aload_n 0, 1) := by decide +kernel
theorem dL_law_1790 : decode cL_law 1790 = .ok (.iload_n 3, 1) := by decide +kernel
theorem dL_law_1791 : decode cL_law 1791 = .ok (.iconst 1, 1) := by decide +kernel
theorem dL_law_1792 : decode cL_law 1792 = .ok (.iadd, 1) := by decide +kernel
theorem dL_law_1793 : decode cL_law 1793 = .ok (.iaload, 1) := by decide +kernel
theorem dL_law_1794 : decode cL_law 1794 = .ok (.invokevirtual 211, 3) := by decide +kernel
theorem dL_law_1797 : decode cL_law 1797 = .ok (.aload_n 2, 1) := by decide +kernel
theorem dL_law_1798 : decode cL_law 1798 = .ok (.aload_n 0, 1) := by decide +kernel
theorem dL_law_1799 : decode cL_law 1799 = .ok (.iload_n 3, 1) := by decide +kernel
theorem dL_law_1800 : decode cL_law 1800 = .ok (.iconst 1, 1) := by decide +kernel
theorem dL_law_1801 : decode cL_law 1801 = .ok (.iadd, 1) := by decide +kernel
theorem dL_law_1802 : decode cL_law 1802 = .ok (.iaload, 1) := by decide +kernel
theorem dL_law_1803 : decode cL_law 1803 = .ok (.invokevirtual 214, 3) := by decide +kernel
theorem dL_law_1806 : decode cL_law 1806 = .ok (.if_icmp .eq 103, 3) := by decide +kernel
theorem dL_law_1809 : decode cL_law 1809 = .ok (.iconst 0, 1) := by decide +kernel
theorem dL_law_1810 : decode cL_law 1810 = .ok (.ireturn, 1) := by decide +kernel
theorem dL_law_1811 : decode cL_law 1811 = .ok (.aload_n 1, 1) := by decide +kernel
theorem dL_law_1812 : decode cL_law 1812 = .ok (.invokevirtual 215, 3) := by decide +kernel
theorem dL_law_1815 : decode cL_law 1815 = .ok (.aload_n 2, 1) := by decide +kernel
theorem dL_law_1816 : decode cL_law 1816 = .ok (.invokevirtual 218, 3) := by decide +kernel
theorem dL_law_1819 : decode cL_law 1819 = .ok (.if_icmp .eq 90, 3) := by decide +kernel
theorem dL_law_1822 : decode cL_law 1822 = .ok (.iconst 0, 1) := by decide +kernel
theorem dL_law_1823 : decode cL_law 1823 = .ok (.ireturn, 1) := by decide +kernel
theorem dL_law_1824 : decode cL_law 1824 = .ok (.aload_n 1, 1) := by decide +kernel
theorem dL_law_1825 : decode cL_law 1825 = .ok (.invokevirtual 219, 3) := by decide +kernel
theorem dL_law_1828 : decode cL_law 1828 = .ok (.aload_n 2, 1) := by decide +kernel
theorem dL_law_1829 : decode cL_law 1829 = .ok (.invokevirtual 222, 3) := by decide +kernel
theorem dL_law_1832 : decode cL_law 1832 = .ok (.if_icmp .eq 77, 3) := by decide +kernel
theorem dL_law_1835 : decode cL_law 1835 = .ok (.iconst 0, 1) := by decide +kernel
theorem dL_law_1836 : decode cL_law 1836 = .ok (.ireturn, 1) := by decide +kernel
theorem dL_law_1837 : decode cL_law 1837 = .ok (.aload_n 1, 1) := by decide +kernel
theorem dL_law_1838 : decode cL_law 1838 = .ok (.aload_n 0, 1) := by decide +kernel
theorem dL_law_1839 : decode cL_law 1839 = .ok (.iload_n 3, 1) := by decide +kernel
theorem dL_law_1840 : decode cL_law 1840 = .ok (.iconst 1, 1) := by decide +kernel
theorem dL_law_1841 : decode cL_law 1841 = .ok (.iadd, 1) := by decide +kernel
theorem dL_law_1842 : decode cL_law 1842 = .ok (.iaload, 1) := by decide +kernel
theorem dL_law_1843 : decode cL_law 1843 = .ok (.invokevirtual 223, 3) := by decide +kernel
theorem dL_law_1846 : decode cL_law 1846 = .ok (.aload_n 2, 1) := by decide +kernel
theorem dL_law_1847 : decode cL_law 1847 = .ok (.aload_n 0, 1) := by decide +kernel
theorem dL_law_1848 : decode cL_law 1848 = .ok (.iload_n 3, 1) := by decide +kernel
theorem dL_law_1849 : decode cL_law 1849 = .ok (.iconst 1, 1) := by decide +kernel
theorem dL_law_1850 : decode cL_law 1850 = .ok (.iadd, 1) := by decide +kernel
theorem dL_law_1851 : decode cL_law 1851 = .ok (.iaload, 1) := by decide +kernel
theorem dL_law_1852 : decode cL_law 1852 = .ok (.invokevirtual 226, 3) := by decide +kernel
theorem dL_law_1855 : decode cL_law 1855 = .ok (.if_icmp .eq 54, 3) := by decide +kernel
theorem dL_law_1858 : decode cL_law 1858 = .ok (.iconst 0, 1) := by decide +kernel
theorem dL_law_1859 : decode cL_law 1859 = .ok (.ireturn, 1) := by decide +kernel
theorem dL_law_1860 : decode cL_law 1860 = .ok (.aload_n 1, 1) := by decide +kernel
theorem dL_law_1861 : decode cL_law 1861 = .ok (.invokevirtual 227, 3) := by decide +kernel
theorem dL_law_1864 : decode cL_law 1864 = .ok (.aload_n 2, 1) := by decide +kernel
theorem dL_law_1865 : decode cL_law 1865 = .ok (.invokevirtual 230, 3) := by decide +kernel
theorem dL_law_1868 : decode cL_law 1868 = .ok (.if_icmp .eq 41, 3) := by decide +kernel
theorem dL_law_1871 : decode cL_law 1871 = .ok (.iconst 0, 1) := by decide +kernel
theorem dL_law_1872 : decode cL_law 1872 = .ok (.ireturn, 1) := by decide +kernel
theorem dL_law_1873 : decode cL_law 1873 = .ok (.aload_n 1, 1) := by decide +kernel
theorem dL_law_1874 : decode cL_law 1874 = .ok (.invokevirtual 231, 3) := by decide +kernel
theorem dL_law_1877 : decode cL_law 1877 = .ok (.aload_n 2, 1) := by decide +kernel
theorem dL_law_1878 : decode cL_law 1878 = .ok (.invokevirtual 234, 3) := by decide +kernel
theorem dL_law_1881 : decode cL_law 1881 = .ok (.if_icmp .eq 28, 3) := by decide +kernel
theorem dL_law_1884 : decode cL_law 1884 = .ok (.iconst 0, 1) := by decide +kernel
theorem dL_law_1885 : decode cL_law 1885 = .ok (.ireturn, 1) := by decide +kernel
theorem dL_law_1886 : decode cL_law 1886 = .ok (.aload_n 1, 1) := by decide +kernel
theorem dL_law_1887 : decode cL_law 1887 = .ok (.aload_n 0, 1) := by decide +kernel
theorem dL_law_1888 : decode cL_law 1888 = .ok (.iload_n 3, 1) := by decide +kernel
theorem dL_law_1889 : decode cL_law 1889 = .ok (.iconst 1, 1) := by decide +kernel
theorem dL_law_1890 : decode cL_law 1890 = .ok (.iadd, 1) := by decide +kernel
theorem dL_law_1891 : decode cL_law 1891 = .ok (.iaload, 1) := by decide +kernel
theorem dL_law_1892 : decode cL_law 1892 = .ok (.invokevirtual 235, 3) := by decide +kernel
theorem dL_law_1895 : decode cL_law 1895 = .ok (.aload_n 2, 1) := by decide +kernel
theorem dL_law_1896 : decode cL_law 1896 = .ok (.aload_n 0, 1) := by decide +kernel
theorem dL_law_1897 : decode cL_law 1897 = .ok (.iload_n 3, 1) := by decide +kernel
theorem dL_law_1898 : decode cL_law 1898 = .ok (.iconst 1, 1) := by decide +kernel
theorem dL_law_1899 : decode cL_law 1899 = .ok (.iadd, 1) := by decide +kernel
theorem dL_law_1900 : decode cL_law 1900 = .ok (.iaload, 1) := by decide +kernel
theorem dL_law_1901 : decode cL_law 1901 = .ok (.invokevirtual 238, 3) := by decide +kernel
theorem dL_law_1904 : decode cL_law 1904 = .ok (.if_icmp .eq 5, 3) := by decide +kernel
theorem dL_law_1907 : decode cL_law 1907 = .ok (.iconst 0, 1) := by decide +kernel
theorem dL_law_1908 : decode cL_law 1908 = .ok (.ireturn, 1) := by decide +kernel
theorem dL_law_1909 : decode cL_law 1909 = .ok (.iinc 3 6, 3) := by decide +kernel
theorem dL_law_1912 : decode cL_law 1912 = .ok (.goto (-1894), 3) := by decide +kernel
theorem dL_law_1915 : decode cL_law 1915 = .ok (.iconst 1, 1) := by decide +kernel
theorem dL_law_1916 : decode cL_law 1916 = .ok (.ireturn, 1) := by decide +kernel
abbrev vwCl : List vw_C := [(RX0, TX0, 3), (RX1, TX1, 7), (RX2, TX2, 2), (RX3, TX3, 3), (RX4, TX4, 6), (RX5, TX5, 14), (RX6, TX6, 10), (RX7, TX7, 33)]
