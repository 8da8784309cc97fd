theorem dX7_seenTold_57 : decode cX7_seenTold 57 = .ok (.iconst 1, 1) := by decide +kernel
theorem dX7_seenTold_58 : decode cX7_seenTold 58 = .ok (.iconst 0, 1) := by decide +kernel
theorem dX7_seenTold_59 : decode cX7_seenTold 59 = .ok (.aload_n 0, 1) := by decide +kernel
theorem dX7_seenTold_60 : decode cX7_seenTold 60 = .ok (.getfield 37, 3) := by decide +kernel
theorem dX7_seenTold_63 : decode cX7_seenTold 63 = .ok (.iconst 1, 1) := by decide +kernel
theorem dX7_seenTold_64 : decode cX7_seenTold 64 = .ok (.isub, 1) := by decide +kernel
theorem dX7_seenTold_65 : decode cX7_seenTold 65 = .ok (.invokevirtual 193, 3) := by decide +kernel
theorem dX7_seenTold_68 : decode cX7_seenTold 68 = .ok (.ifCond .ne 5, 3) := by decide +kernel
theorem dX7_seenTold_71 : decode cX7_seenTold 71 = .ok (.iconst 0, 1) := by decide +kernel
theorem dX7_seenTold_72 : decode cX7_seenTold 72 = .ok (.ireturn, 1) := by decide +kernel
theorem dX7_seenTold_73 : decode cX7_seenTold 73 = .ok (.aload_n 0, 1) := by decide +kernel
theorem dX7_seenTold_74 : decode cX7_seenTold 74 = .ok (.aload_n 0, 1) := by decide +kernel
theorem dX7_seenTold_75 : decode cX7_seenTold 75 = .ok (.getfield 65, 3) := by decide +kernel
theorem dX7_seenTold_78 : decode cX7_seenTold 78 = .ok (.iconst 0, 1) := by decide +kernel
theorem dX7_seenTold_79 : decode cX7_seenTold 79 = .ok (.iaload, 1) := by decide +kernel
theorem dX7_seenTold_80 : decode cX7_seenTold 80 = .ok (.aload_n 0, 1) := by decide +kernel
theorem dX7_seenTold_81 : decode cX7_seenTold 81 = .ok (.getfield 65, 3) := by decide +kernel
theorem dX7_seenTold_84 : decode cX7_seenTold 84 = .ok (.iconst 1, 1) := by decide +kernel
theorem dX7_seenTold_85 : decode cX7_seenTold 85 = .ok (.iaload, 1) := by decide +kernel
theorem dX7_seenTold_86 : decode cX7_seenTold 86 = .ok (.iload_n 1, 1) := by decide +kernel
theorem dX7_seenTold_87 : decode cX7_seenTold 87 = .ok (.invokevirtual 143, 3) := by decide +kernel
theorem dX7_seenTold_90 : decode cX7_seenTold 90 = .ok (.iconst 1, 1) := by decide +kernel
theorem dX7_seenTold_91 : decode cX7_seenTold 91 = .ok (.ireturn, 1) := by decide +kernel
set_option maxRecDepth 20000 in
theorem ggX7_nearTold_X7_tells : GoodIn wsX7_nearTold wsX7_tells := goodIn_r _ [10, 11, 12, 13, 9, 14, 15, 16, 17, 18, 3, 2, 19, 20, 21, 22, 23, 24, 25, 26, 27, 28, 29, 4, 30, 31, 32, 33, 34, 35, 36, 37, 38, 39, 40, 41, 42, 43, 44, 45, 46, 47, 48, 49, 50, 51, 52, 53, 54, 55, 56, 57, 58, 59, 60, 61, 62, 63, 64, 65, 66, 67, 68, 69, 70] (by decide +kernel) (by decide +kernel)
set_option maxRecDepth 20000 in
theorem gX7_nearTold_X7_tells : GoodIn wsX7_nearTold (wsV RX7 197 RX7 yX7_tells wsX7_tells) := goodIn_app (goodIn_of _ (by decide +kernel)) ggX7_nearTold_X7_tells
set_option maxRecDepth 20000 in
theorem ggX7_nearTold_X7_number : GoodIn wsX7_nearTold wsX7_number := goodIn_r _ [29, 2, 3, 4, 30, 31, 9, 32, 33, 34, 35, 36, 18, 37, 11, 12, 13, 14, 15, 16, 17, 19, 20, 21, 22, 23, 24, 25, 38, 39, 40, 41, 42, 43, 44, 45, 46, 47, 48, 49, 50, 51, 52, 53, 54, 55, 56, 57, 58, 59, 60, 61, 62, 63, 64, 65, 66, 67, 68, 69, 70] (by decide +kernel) (by decide +kernel)
set_option maxRecDepth 20000 in
theorem gX7_nearTold_X7_number : GoodIn wsX7_nearTold (wsV RX7 193 RX7 yX7_number wsX7_number) := goodIn_app (goodIn_of _ (by decide +kernel)) ggX7_nearTold_X7_number
set_option maxRecDepth 20000 in
theorem ggX7_nearTold_X7_wrong : GoodIn wsX7_nearTold wsX7_wrong := goodIn_r _ [36, 18, 37, 38, 39, 40, 41, 42, 43, 44, 45, 46, 47, 48, 49, 50, 51, 52, 53, 54, 55, 56, 57, 58, 59, 60, 61, 62, 63, 64, 65, 66, 67, 68, 69, 70] (by decide +kernel) (by decide +kernel)
set_option maxRecDepth 20000 in
theorem gX7_nearTold_X7_wrong : GoodIn wsX7_nearTold (wsV RX7 186 RX7 yX7_wrong wsX7_wrong) := goodIn_app (goodIn_of _ (by decide +kernel)) ggX7_nearTold_X7_wrong
theorem dX7_nearTold_0 : decode cX7_nearTold 0 = .ok (.aload_n 0, 1) := by decide +kernel
theorem dX7_nearTold_1 : decode cX7_nearTold 1 = .ok (.iconst 0, 1) := by decide +kernel
theorem dX7_nearTold_2 : decode cX7_nearTold 2 = .ok (.aload_n 0, 1) := by decide +kernel
theorem dX7_nearTold_3 : decode cX7_nearTold 3 = .ok (.getfield 77, 3) := by decide +kernel
theorem dX7_nearTold_6 : decode cX7_nearTold 6 = .ok (.iconst 1, 1) := by decide +kernel
theorem dX7_nearTold_7 : decode cX7_nearTold 7 = .ok (.isub, 1) := by decide +kernel
theorem dX7_nearTold_8 : decode cX7_nearTold 8 = .ok (.invokevirtual 197, 3) := by decide +kernel
theorem dX7_nearTold_11 : decode cX7_nearTold 11 = .ok (.ifCond .ne 5, 3) := by decide +kernel
theorem dX7_nearTold_14 : decode cX7_nearTold 14 = .ok (.iconst 0, 1) := by decide +kernel
theorem dX7_nearTold_15 : decode cX7_nearTold 15 = .ok (.ireturn, 1) := by decide +kernel
theorem dX7_nearTold_16 : decode cX7_nearTold 16 = .ok (.aload_n 0, 1) := by decide +kernel
theorem dX7_nearTold_17 : decode cX7_nearTold 17 = .ok (.getfield 164, 3) := by decide +kernel
theorem dX7_nearTold_20 : decode cX7_nearTold 20 = .ok (.iconst 2, 1) := by decide +kernel
theorem dX7_nearTold_21 : decode cX7_nearTold 21 = .ok (.if_icmp .ne 16, 3) := by decide +kernel
theorem dX7_nearTold_24 : decode cX7_nearTold 24 = .ok (.aload_n 0, 1) := by decide +kernel
theorem dX7_nearTold_25 : decode cX7_nearTold 25 = .ok (.getfield 161, 3) := by decide +kernel
theorem dX7_nearTold_28 : decode cX7_nearTold 28 = .ok (.aload_n 0, 1) := by decide +kernel
theorem dX7_nearTold_29 : decode cX7_nearTold 29 = .ok (.getfield 65, 3) := by decide +kernel
theorem dX7_nearTold_32 : decode cX7_nearTold 32 = .ok (.iconst 0, 1) := by decide +kernel
theorem dX7_nearTold_33 : decode cX7_nearTold 33 = .ok (.iaload, 1) := by decide +kernel
theorem dX7_nearTold_34 : decode cX7_nearTold 34 = .ok (.if_icmp .eq 18, 3) := by decide +kernel
theorem dX7_nearTold_37 : decode cX7_nearTold 37 = .ok (.aload_n 0, 1) := by decide +kernel
theorem dX7_nearTold_38 : decode cX7_nearTold 38 = .ok (.iconst 1, 1) := by decide +kernel
theorem dX7_nearTold_39 : decode cX7_nearTold 39 = .ok (.iconst 0, 1) := by decide +kernel
theorem dX7_nearTold_40 : decode cX7_nearTold 40 = .ok (.aload_n 0, 1) := by decide +kernel
theorem dX7_nearTold_41 : decode cX7_nearTold 41 = .ok (.getfield 77, 3) := by decide +kernel
theorem dX7_nearTold_44 : decode cX7_nearTold 44 = .ok (.iconst 1, 1) := by decide +kernel
theorem dX7_nearTold_45 : decode cX7_nearTold 45 = .ok (.isub, 1) := by decide +kernel
theorem dX7_nearTold_46 : decode cX7_nearTold 46 = .ok (.invokevirtual 193, 3) := by decide +kernel
theorem dX7_nearTold_49 : decode cX7_nearTold 49 = .ok (.ifCond .ne 8, 3) := by decide +kernel
theorem dX7_nearTold_52 : decode cX7_nearTold 52 = .ok (.aload_n 0, 1) := by decide +kernel
theorem dX7_nearTold_53 : decode cX7_nearTold 53 = .ok (.invokevirtual 186, 3) := by decide +kernel
theorem dX7_nearTold_56 : decode cX7_nearTold 56 = .ok (.ireturn, 1) := by decide +kernel
theorem dX7_nearTold_57 : decode cX7_nearTold 57 = .ok (.aload_n 0, 1) := by decide +kernel
theorem dX7_nearTold_58 : decode cX7_nearTold 58 = .ok (.getfield 56, 3) := by decide +kernel
theorem dX7_nearTold_61 : decode cX7_nearTold 61 = .ok (.aload_n 0, 1) := by decide +kernel
theorem dX7_nearTold_62 : decode cX7_nearTold 62 = .ok (.getfield 65, 3) := by decide +kernel
theorem dX7_nearTold_65 : decode cX7_nearTold 65 = .ok (.iconst 0, 1) := by decide +kernel
theorem dX7_nearTold_66 : decode cX7_nearTold 66 = .ok (.iaload, 1) := by decide +kernel
theorem dX7_nearTold_67 : decode cX7_nearTold 67 = .ok (.dup2, 1) := by decide +kernel
theorem dX7_nearTold_68 : decode cX7_nearTold 68 = .ok (.iaload, 1) := by decide +kernel
theorem dX7_nearTold_69 : decode cX7_nearTold 69 = .ok (.iconst 1, 1) := by decide +kernel
theorem dX7_nearTold_70 : decode cX7_nearTold 70 = .ok (.aload_n 0, 1) := by decide +kernel
theorem dX7_nearTold_71 : decode cX7_nearTold 71 = .ok (.getfield 65, 3) := by decide +kernel
theorem dX7_nearTold_74 : decode cX7_nearTold 74 = .ok (.iconst 1, 1) := by decide +kernel
theorem dX7_nearTold_75 : decode cX7_nearTold 75 = .ok (.iaload, 1) := by decide +kernel
theorem dX7_nearTold_76 : decode cX7_nearTold 76 = .ok (.ishl, 1) := by decide +kernel
theorem dX7_nearTold_77 : decode cX7_nearTold 77 = .ok (.ior, 1) := by decide +kernel
theorem dX7_nearTold_78 : decode cX7_nearTold 78 = .ok (.iastore, 1) := by decide +kernel
theorem dX7_nearTold_79 : decode cX7_nearTold 79 = .ok (.iconst 1, 1) := by decide +kernel
theorem dX7_nearTold_80 : decode cX7_nearTold 80 = .ok (.ireturn, 1) := by decide +kernel
set_option maxRecDepth 20000 in
theorem ggX7_askedTold_X7_mostOf : GoodIn wsX7_askedTold wsX7_mostOf := goodIn_r _ [6] (by decide +kernel) (by decide +kernel)
set_option maxRecDepth 20000 in
theorem gX7_askedTold_X7_mostOf : GoodIn wsX7_askedTold (va_wsS RX7 147 yX7_mostOf wsX7_mostOf) := goodIn_app (goodIn_of _ (by decide +kernel)) ggX7_askedTold_X7_mostOf
set_option maxRecDepth 20000 in
theorem ggX7_askedTold_X7_tells : GoodIn wsX7_askedTold wsX7_tells := goodIn_r _ [10, 11, 12, 13, 5, 14, 15, 16, 17, 18, 19, 20, 21, 22, 23, 24, 25, 26, 27, 28, 29, 30, 31, 2, 32, 33, 34, 35, 36, 37, 38, 39, 40, 41, 42, 43, 44, 45, 46, 47, 48, 49, 50, 51, 52, 53, 54, 55, 56, 57, 58, 59, 60, 61, 62, 63, 64, 65, 66, 67, 68, 69, 70, 71, 72] (by decide +kernel) (by decide +kernel)
set_option maxRecDepth 20000 in
theorem gX7_askedTold_X7_tells : GoodIn wsX7_askedTold (wsV RX7 197 RX7 yX7_tells wsX7_tells) := goodIn_app (goodIn_of _ (by decide +kernel)) ggX7_askedTold_X7_tells
theorem dX7_askedTold_0 : decode cX7_askedTold 0 = .ok (.aload_n 0, 1) := by decide +kernel
theorem dX7_askedTold_1 : decode cX7_askedTold 1 = .ok (.iconst 0, 1) := by decide +kernel
theorem dX7_askedTold_2 : decode cX7_askedTold 2 = .ok (.iload_n 1, 1) := by decide +kernel
theorem dX7_askedTold_3 : decode cX7_askedTold 3 = .ok (.invokestatic 147, 3) := by decide +kernel
theorem dX7_askedTold_6 : decode cX7_askedTold 6 = .ok (.invokevirtual 197, 3) := by decide +kernel
theorem dX7_askedTold_9 : decode cX7_askedTold 9 = .ok (.istore_n 2, 1) := by decide +kernel
theorem dX7_askedTold_10 : decode cX7_askedTold 10 = .ok (.aload_n 0, 1) := by decide +kernel
theorem dX7_askedTold_11 : decode cX7_askedTold 11 = .ok (.getfield 59, 3) := by decide +kernel
theorem dX7_askedTold_14 : decode cX7_askedTold 14 = .ok (.iload_n 1, 1) := by decide +kernel
theorem dX7_askedTold_15 : decode cX7_askedTold 15 = .ok (.iload_n 2, 1) := by decide +kernel
theorem dX7_askedTold_16 : decode cX7_askedTold 16 = .ok (.ifCond .eq 12, 3) := by decide +kernel
theorem dX7_askedTold_19 : decode cX7_askedTold 19 = .ok (.aload_n 0, 1) := by decide +kernel
theorem dX7_askedTold_20 : decode cX7_askedTold 20 = .ok (.getfield 65, 3) := by decide +kernel
theorem dX7_askedTold_23 : decode cX7_askedTold 23 = .ok (.iconst 0, 1) := by decide +kernel
theorem dX7_askedTold_24 : decode cX7_askedTold 24 = .ok (.iaload, 1) := by decide +kernel
theorem dX7_askedTold_25 : decode cX7_askedTold 25 = .ok (.goto 9, 3) := by decide +kernel
theorem dX7_askedTold_28 : decode cX7_askedTold 28 = .ok (.aload_n 0, 1) := by decide +kernel
theorem dX7_askedTold_29 : decode cX7_askedTold 29 = .ok (.getfield 59, 3) := by decide +kernel
theorem dX7_askedTold_32 : decode cX7_askedTold 32 = .ok (.iload_n 1, 1) := by decide +kernel
theorem dX7_askedTold_33 : decode cX7_askedTold 33 = .ok (.iaload, 1) := by decide +kernel
theorem dX7_askedTold_34 : decode cX7_askedTold 34 = .ok (.iastore, 1) := by decide +kernel
theorem dX7_askedTold_35 : decode cX7_askedTold 35 = .ok (.iload_n 2, 1) := by decide +kernel
theorem dX7_askedTold_36 : decode cX7_askedTold 36 = .ok (.ireturn, 1) := by decide +kernel
set_option maxRecDepth 20000 in
theorem ggX7_statement_X7_isWord : GoodIn wsX7_statement wsX7_isWord := goodIn_r _ [9, 10, 11, 12, 13, 14, 15, 16, 17, 18, 19, 20, 21, 22, 23, 24, 25, 26, 27, 28, 29, 30, 31, 32, 33, 34, 35, 36, 37, 38, 39, 40, 41, 42, 43, 44, 45, 46, 47, 48, 49, 50, 51, 52, 53, 54, 55, 56, 57, 58, 59, 60, 61, 62, 125, 126, 127, 128, 129, 130, 131, 132, 133, 134, 135, 136, 137, 138, 139, 140, 141, 142, 143, 144, 145, 146, 147, 148, 149, 150, 151, 152, 153, 154, 155, 156, 157] (by decide +kernel) (by decide +kernel)
set_option maxRecDepth 20000 in
theorem gX7_statement_X7_isWord : GoodIn wsX7_statement (wsV RX7 202 RX7 yX7_isWord wsX7_isWord) := goodIn_app (goodIn_of _ (by decide +kernel)) ggX7_statement_X7_isWord
set_option maxRecDepth 20000 in
theorem ggX7_statement_X7_tells : GoodIn wsX7_statement wsX7_tells := goodIn_r _ [66, 67, 68, 69, 8, 70, 11, 71, 13, 12, 72, 10, 73, 74, 75, 76, 77, 78, 79, 80, 81, 82, 83, 2, 84, 85, 86, 87, 88, 89, 90, 91, 125, 126, 127, 128, 129, 130, 131, 132, 133, 134, 135, 136, 137, 138, 139, 140, 141, 142, 143, 144, 145, 146, 147, 148, 149, 150, 151, 152, 153, 154, 155, 156, 157] (by decide +kernel) (by decide +kernel)
set_option maxRecDepth 20000 in
theorem gX7_statement_X7_tells : GoodIn wsX7_statement (wsV RX7 197 RX7 yX7_tells wsX7_tells) := goodIn_app (goodIn_of _ (by decide +kernel)) ggX7_statement_X7_tells
set_option maxRecDepth 20000 in
theorem ggX7_statement_X7_personTold : GoodIn wsX7_statement wsX7_personTold := goodIn_r _ [95, 2, 3, 96, 1, 4, 63, 64, 65, 8, 66, 67, 68, 69, 70, 11, 71, 13, 12, 72, 10, 73, 74, 75, 76, 77, 78, 79, 80, 81, 82, 83, 84, 85, 86, 87, 88, 89, 90, 91, 97, 98, 99, 100, 101, 102, 103, 104, 5, 6, 7, 9, 14, 15, 16, 17, 18, 19, 20, 21, 22, 23, 24, 25, 26, 27, 28, 29, 30, 31, 32, 33, 34, 35, 36, 37, 38, 39, 40, 41, 42, 43, 44, 45, 46, 47, 48, 49, 50, 51, 52, 53, 54, 55, 56, 57, 58, 59, 60, 61, 62, 105, 106, 107, 108, 125, 126, 127, 128, 129, 130, 131, 132, 133, 134, 135, 136, 137, 138, 139, 140, 141, 142, 143, 144, 145, 146, 147, 148, 149, 150, 151, 152, 153, 154, 155, 156, 157] (by decide +kernel) (by decide +kernel)
set_option maxRecDepth 20000 in
theorem gX7_statement_X7_personTold : GoodIn wsX7_statement (wsV RX7 210 RX7 yX7_personTold wsX7_personTold) := goodIn_app (goodIn_of _ (by decide +kernel)) ggX7_statement_X7_personTold
set_option maxRecDepth 20000 in
theorem ggX7_statement_X7_seenTold : GoodIn wsX7_statement wsX7_seenTold := goodIn_r _ [112, 10, 72, 3, 96, 1, 2, 67, 68, 69, 8, 70, 11, 71, 13, 12, 73, 74, 75, 76, 77, 78, 79, 87, 88, 89, 90, 91, 80, 81, 82, 83, 84, 85, 86, 105, 106, 107, 108, 102, 103, 125, 126, 127, 128, 129, 130, 131, 132, 133, 134, 135, 136, 137, 138, 139, 140, 141, 142, 143, 144, 145, 146, 147, 148, 149, 150, 151, 152, 153, 154, 155, 156, 157] (by decide +kernel) (by decide +kernel)
set_option maxRecDepth 20000 in
theorem gX7_statement_X7_seenTold : GoodIn wsX7_statement (wsV RX7 213 RX7 yX7_seenTold wsX7_seenTold) := goodIn_app (goodIn_of _ (by decide +kernel)) ggX7_statement_X7_seenTold
set_option maxRecDepth 20000 in
theorem ggX7_statement_X7_number : GoodIn wsX7_statement wsX7_number := goodIn_r _ [83, 10, 72, 2, 84, 85, 8, 86, 87, 88, 89, 90, 12, 91, 67, 68, 69, 70, 11, 71, 13, 73, 74, 75, 76, 77, 78, 79, 125, 126, 127, 128, 129, 130, 131, 132, 133, 134, 135, 136, 137, 138, 139, 140, 141, 142, 143, 144, 145, 146, 147, 148, 149, 150, 151, 152, 153, 154, 155, 156, 157] (by decide +kernel) (by decide +kernel)
set_option maxRecDepth 20000 in
theorem gX7_statement_X7_number : GoodIn wsX7_statement (wsV RX7 193 RX7 yX7_number wsX7_number) := goodIn_app (goodIn_of _ (by decide +kernel)) ggX7_statement_X7_number
set_option maxRecDepth 20000 in
theorem ggX7_statement_X7_nearTold : GoodIn wsX7_statement wsX7_nearTold := goodIn_r _ [116, 3, 10, 72, 2, 104, 63, 64, 65, 8, 66, 67, 68, 69, 70, 11, 71, 13, 12, 73, 74, 75, 76, 77, 78, 79, 80, 81, 82, 83, 84, 85, 86, 87, 88, 89, 90, 91, 125, 126, 127, 128, 129, 130, 131, 132, 133, 134, 135, 136, 137, 138, 139, 140, 141, 142, 143, 144, 145, 146, 147, 148, 149, 150, 151, 152, 153, 154, 155, 156, 157] (by decide +kernel) (by decide +kernel)
set_option maxRecDepth 20000 in
theorem gX7_statement_X7_nearTold : GoodIn wsX7_statement (wsV RX7 218 RX7 yX7_nearTold wsX7_nearTold) := goodIn_app (goodIn_of _ (by decide +kernel)) ggX7_statement_X7_nearTold
set_option maxRecDepth 20000 in
theorem ggX7_statement_X7_askedTold : GoodIn wsX7_statement wsX7_askedTold := goodIn_r _ [120, 121, 2, 122, 123, 8, 124, 63, 64, 65, 66, 67, 68, 69, 70, 11, 71, 13, 12, 72, 10, 73, 74, 75, 76, 77, 78, 79, 80, 81, 82, 83, 84, 85, 86, 87, 88, 89, 90, 91, 125, 126, 127, 128, 129, 130, 131, 132, 133, 134, 135, 136, 137, 138, 139, 140, 141, 142, 143, 144, 145, 146, 147, 148, 149, 150, 151, 152, 153, 154, 155, 156, 157] (by decide +kernel) (by decide +kernel)
set_option maxRecDepth 20000 in
theorem gX7_statement_X7_askedTold : GoodIn wsX7_statement (wsV RX7 223 RX7 yX7_askedTold wsX7_askedTold) := goodIn_app (goodIn_of _ (by decide +kernel)) ggX7_statement_X7_askedTold
set_option maxRecDepth 20000 in
theorem ggX7_statement_X7_wrong : GoodIn wsX7_statement wsX7_wrong := goodIn_r _ [90, 12, 91, 125, 126, 127, 128, 129, 130, 131, 132, 133, 134, 135, 136, 137, 138, 139, 140, 141, 142, 143, 144, 145, 146, 147, 148, 149, 150, 151, 152, 153, 154, 155, 156, 157] (by decide +kernel) (by decide +kernel)
set_option maxRecDepth 20000 in
theorem gX7_statement_X7_wrong : GoodIn wsX7_statement (wsV RX7 186 RX7 yX7_wrong wsX7_wrong) := goodIn_app (goodIn_of _ (by decide +kernel)) ggX7_statement_X7_wrong
theorem dX7_statement_0 : decode cX7_statement 0 = .ok (.aload_n 0, 1) := by decide +kernel
theorem dX7_statement_1 : decode cX7_statement 1 = .ok (.ldc 207, 2) := by decide +kernel
theorem dX7_statement_3 : decode cX7_statement 3 = .ok (.invokevirtual 202, 3) := by decide +kernel
theorem dX7_statement_6 : decode cX7_statement 6 = .ok (.ifCond .eq 37, 3) := by decide +kernel
theorem dX7_statement_9 : decode cX7_statement 9 = .ok (.aload_n 0, 1) := by decide +kernel
theorem dX7_statement_10 : decode cX7_statement 10 = .ok (.aload_n 0, 1) := by decide +kernel
theorem dX7_statement_11 : decode cX7_statement 11 = .ok (.getfield 37, 3) := by decide +kernel
theorem dX7_statement_14 : decode cX7_statement 14 = .ok (.bipush 8, 2) := by decide +kernel
theorem dX7_statement_16 : decode cX7_statement 16 = .ok (.invokevirtual 197, 3) := by decide +kernel
theorem dX7_statement_19 : decode cX7_statement 19 = .ok (.istore_n 1, 1) := by decide +kernel
theorem dX7_statement_20 : decode cX7_statement 20 = .ok (.aload_n 0, 1) := by decide +kernel
theorem dX7_statement_21 : decode cX7_statement 21 = .ok (.iload_n 1, 1) := by decide +kernel
theorem dX7_statement_22 : decode cX7_statement 22 = .ok (.ifCond .eq 12, 3) := by decide +kernel
theorem dX7_statement_25 : decode cX7_statement 25 = .ok (.aload_n 0, 1) := by decide +kernel
theorem dX7_statement_26 : decode cX7_statement 26 = .ok (.getfield 65, 3) := by decide +kernel
theorem dX7_statement_29 : decode cX7_statement 29 = .ok (.iconst 0, 1) := by decide +kernel
theorem dX7_statement_30 : decode cX7_statement 30 = .ok (.iaload, 1) := by decide +kernel
theorem dX7_statement_31 : decode cX7_statement 31 = .ok (.goto 7, 3) := by decide +kernel
theorem dX7_statement_34 : decode cX7_statement 34 = .ok (.aload_n 0, 1) := by decide +kernel
theorem dX7_statement_35 : decode cX7_statement 35 = .ok (.getfield 37, 3) := by decide +kernel
theorem dX7_statement_38 : decode cX7_statement 38 = .ok (.putfield 37, 3) := by decide +kernel
theorem dX7_statement_41 : decode cX7_statement 41 = .ok (.iload_n 1, 1) := by decide +kernel
theorem dX7_statement_42 : decode cX7_statement 42 = .ok (.ireturn, 1) := by decide +kernel
theorem dX7_statement_43 : decode cX7_statement 43 = .ok (.aload_n 0, 1) := by decide +kernel
theorem dX7_statement_44 : decode cX7_statement 44 = .ok (.ldc 208, 2) := by decide +kernel
theorem dX7_statement_46 : decode cX7_statement 46 = .ok (.invokevirtual 202, 3) := by decide +kernel
theorem dX7_statement_49 : decode cX7_statement 49 = .ok (.ifCond .eq 17, 3) := by decide +kernel
theorem dX7_statement_52 : decode cX7_statement 52 = .ok (.aload_n 0, 1) := by decide +kernel
theorem dX7_statement_53 : decode cX7_statement 53 = .ok (.getfield 77, 3) := by decide +kernel
theorem dX7_statement_56 : decode cX7_statement 56 = .ok (.bipush 7, 2) := by decide +kernel
theorem dX7_statement_58 : decode cX7_statement 58 = .ok (.if_icmp .ge 8, 3) := by decide +kernel
theorem dX7_statement_61 : decode cX7_statement 61 = .ok (.aload_n 0, 1) := by decide +kernel
theorem dX7_statement_62 : decode cX7_statement 62 = .ok (.invokevirtual 210, 3) := by decide +kernel
theorem dX7_statement_65 : decode cX7_statement 65 = .ok (.ireturn, 1) := by decide +kernel
theorem dX7_statement_66 : decode cX7_statement 66 = .ok (.aload_n 0, 1) := by decide +kernel
theorem dX7_statement_67 : decode cX7_statement 67 = .ok (.ldc 200, 2) := by decide +kernel
theorem dX7_statement_69 : decode cX7_statement 69 = .ok (.invokevirtual 202, 3) := by decide +kernel
theorem dX7_statement_72 : decode cX7_statement 72 = .ok (.ifCond .eq 9, 3) := by decide +kernel
theorem dX7_statement_75 : decode cX7_statement 75 = .ok (.aload_n 0, 1) := by decide +kernel
theorem dX7_statement_76 : decode cX7_statement 76 = .ok (.iconst 2, 1) := by decide +kernel
theorem dX7_statement_77 : decode cX7_statement 77 = .ok (.invokevirtual 213, 3) := by decide +kernel
theorem dX7_statement_80 : decode cX7_statement 80 = .ok (.ireturn, 1) := by decide +kernel
theorem dX7_statement_81 : decode cX7_statement 81 = .ok (.aload_n 0, 1) := by decide +kernel
theorem dX7_statement_82 : decode cX7_statement 82 = .ok (.ldc 216, 2) := by decide +kernel
theorem dX7_statement_84 : decode cX7_statement 84 = .ok (.invokevirtual 202, 3) := by decide +kernel
theorem dX7_statement_87 : decode cX7_statement 87 = .ok (.ifCond .eq 9, 3) := by decide +kernel
theorem dX7_statement_90 : decode cX7_statement 90 = .ok (.aload_n 0, 1) := by decide +kernel
theorem dX7_statement_91 : decode cX7_statement 91 = .ok (.iconst 1, 1) := by decide +kernel
theorem dX7_statement_92 : decode cX7_statement 92 = .ok (.invokevirtual 213, 3) := by decide +kernel
theorem dX7_statement_95 : decode cX7_statement 95 = .ok (.ireturn, 1) := by decide +kernel
theorem dX7_statement_96 : decode cX7_statement 96 = .ok (.aload_n 0, 1) := by decide +kernel
theorem dX7_statement_97 : decode cX7_statement 97 = .ok (.ldc 206, 2) := by decide +kernel
theorem dX7_statement_99 : decode cX7_statement 99 = .ok (.invokevirtual 202, 3) := by decide +kernel
theorem dX7_statement_102 : decode cX7_statement 102 = .ok (.ifCond .eq 58, 3) := by decide +kernel
theorem dX7_statement_105 : decode cX7_statement 105 = .ok (.aload_n 0, 1) := by decide +kernel
theorem dX7_statement_106 : decode cX7_statement 106 = .ok (.iconst 0, 1) := by decide +kernel
theorem dX7_statement_107 : decode cX7_statement 107 = .ok (.aload_n 0, 1) := by decide +kernel
theorem dX7_statement_108 : decode cX7_statement 108 = .ok (.getfield 77, 3) := by decide +kernel
theorem dX7_statement_111 : decode cX7_statement 111 = .ok (.iconst 1, 1) := by decide +kernel
theorem dX7_statement_112 : decode cX7_statement 112 = .ok (.isub, 1) := by decide +kernel
theorem dX7_statement_113 : decode cX7_statement 113 = .ok (.invokevirtual 197, 3) := by decide +kernel
theorem dX7_statement_116 : decode cX7_statement 116 = .ok (.ifCond .eq 18, 3) := by decide +kernel
theorem dX7_statement_119 : decode cX7_statement 119 = .ok (.aload_n 0, 1) := by decide +kernel
theorem dX7_statement_120 : decode cX7_statement 120 = .ok (.iconst 1, 1) := by decide +kernel
theorem dX7_statement_121 : decode cX7_statement 121 = .ok (.iconst 0, 1) := by decide +kernel
theorem dX7_statement_122 : decode cX7_statement 122 = .ok (.aload_n 0, 1) := by decide +kernel
theorem dX7_statement_123 : decode cX7_statement 123 = .ok (.getfield 37, 3) := by decide +kernel
theorem dX7_statement_126 : decode cX7_statement 126 = .ok (.iconst 1, 1) := by decide +kernel
theorem dX7_statement_127 : decode cX7_statement 127 = .ok (.isub, 1) := by decide +kernel
theorem dX7_statement_128 : decode cX7_statement 128 = .ok (.invokevirtual 193, 3) := by decide +kernel
theorem dX7_statement_131 : decode cX7_statement 131 = .ok (.ifCond .ne 5, 3) := by decide +kernel
theorem dX7_statement_134 : decode cX7_statement 134 = .ok (.iconst 0, 1) := by decide +kernel
theorem dX7_statement_135 : decode cX7_statement 135 = .ok (.ireturn, 1) := by decide +kernel
theorem dX7_statement_136 : decode cX7_statement 136 = .ok (.aload_n 0, 1) := by decide +kernel
theorem dX7_statement_137 : decode cX7_statement 137 = .ok (.getfield 53, 3) := by decide +kernel
theorem dX7_statement_140 : decode cX7_statement 140 = .ok (.aload_n 0, 1) := by decide +kernel
theorem dX7_statement_141 : decode cX7_statement 141 = .ok (.getfield 65, 3) := by decide +kernel
theorem dX7_statement_144 : decode cX7_statement 144 = .ok (.iconst 0, 1) := by decide +kernel
theorem dX7_statement_145 : decode cX7_statement 145 = .ok (.iaload, 1) := by decide +kernel
theorem dX7_statement_146 : decode cX7_statement 146 = .ok (.dup2, 1) := by decide +kernel
theorem dX7_statement_147 : decode cX7_statement 147 = .ok (.iaload, 1) := by decide +kernel
theorem dX7_statement_148 : decode cX7_statement 148 = .ok (.iconst 1, 1) := by decide +kernel
theorem dX7_statement_149 : decode cX7_statement 149 = .ok (.aload_n 0, 1) := by decide +kernel
theorem dX7_statement_150 : decode cX7_statement 150 = .ok (.getfield 65, 3) := by decide +kernel
theorem dX7_statement_153 : decode cX7_statement 153 = .ok (.iconst 1, 1) := by decide +kernel
theorem dX7_statement_154 : decode cX7_statement 154 = .ok (.iaload, 1) := by decide +kernel
theorem dX7_statement_155 : decode cX7_statement 155 = .ok (.ishl, 1) := by decide +kernel
theorem dX7_statement_156 : decode cX7_statement 156 = .ok (.ior, 1) := by decide +kernel
theorem dX7_statement_157 : decode cX7_statement 157 = .ok (.iastore, 1) := by decide +kernel
theorem dX7_statement_158 : decode cX7_statement 158 = .ok (.iconst 1, 1) := by decide +kernel
theorem dX7_statement_159 : decode cX7_statement 159 = .ok (.ireturn, 1) := by decide +kernel
theorem dX7_statement_160 : decode cX7_statement 160 = .ok (.aload_n 0, 1) := by decide +kernel
theorem dX7_statement_161 : decode cX7_statement 161 = .ok (.ldc 217, 2) := by decide +kernel
theorem dX7_statement_163 : decode cX7_statement 163 = .ok (.invokevirtual 202, 3) := by decide +kernel
theorem dX7_statement_166 : decode cX7_statement 166 = .ok (.ifCond .eq 8, 3) := by decide +kernel
theorem dX7_statement_169 : decode cX7_statement 169 = .ok (.aload_n 0, 1) := by decide +kernel
theorem dX7_statement_170 : decode cX7_statement 170 = .ok (.invokevirtual 218, 3) := by decide +kernel
theorem dX7_statement_173 : decode cX7_statement 173 = .ok (.ireturn, 1) := by decide +kernel
theorem dX7_statement_174 : decode cX7_statement 174 = .ok (.aload_n 0, 1) := by decide +kernel
theorem dX7_statement_175 : decode cX7_statement 175 = .ok (.ldc 221, 2) := by decide +kernel
theorem dX7_statement_177 : decode cX7_statement 177 = .ok (.invokevirtual 202, 3) := by decide +kernel
theorem dX7_statement_180 : decode cX7_statement 180 = .ok (.ifCond .eq 9, 3) := by decide +kernel
theorem dX7_statement_183 : decode cX7_statement 183 = .ok (.aload_n 0, 1) := by decide +kernel
theorem dX7_statement_184 : decode cX7_statement 184 = .ok (.iconst 0, 1) := by decide +kernel
theorem dX7_statement_185 : decode cX7_statement 185 = .ok (.invokevirtual 223, 3) := by decide +kernel
theorem dX7_statement_188 : decode cX7_statement 188 = .ok (.ireturn, 1) := by decide +kernel
theorem dX7_statement_189 : decode cX7_statement 189 = .ok (.aload_n 0, 1) := by decide +kernel
theorem dX7_statement_190 : decode cX7_statement 190 = .ok (.ldc 226, 2) := by decide +kernel
theorem dX7_statement_192 : decode cX7_statement 192 = .ok (.invokevirtual 202, 3) := by decide +kernel
theorem dX7_statement_195 : decode cX7_statement 195 = .ok (.ifCond .eq 9, 3) := by decide +kernel
theorem dX7_statement_198 : decode cX7_statement 198 = .ok (.aload_n 0, 1) := by decide +kernel
theorem dX7_statement_199 : decode cX7_statement 199 = .ok (.iconst 1, 1) := by decide +kernel
theorem dX7_statement_200 : decode cX7_statement 200 = .ok (.invokevirtual 223, 3) := by decide +kernel
theorem dX7_statement_203 : decode cX7_statement 203 = .ok (.ireturn, 1) := by decide +kernel
theorem dX7_statement_204 : decode cX7_statement 204 = .ok (.aload_n 0, 1) := by decide +kernel
theorem dX7_statement_205 : decode cX7_statement 205 = .ok (.ldc 228, 2) := by decide +kernel
theorem dX7_statement_207 : decode cX7_statement 207 = .ok (.invokevirtual 202, 3) := by decide +kernel
theorem dX7_statement_210 : decode cX7_statement 210 = .ok (.ifCond .eq 11, 3) := by decide +kernel
theorem dX7_statement_213 : decode cX7_statement 213 = .ok (.aload_n 0, 1) := by decide +kernel
theorem dX7_statement_214 : decode cX7_statement 214 = .ok (.iconst 2, 1) := by decide +kernel
theorem dX7_statement_215 : decode cX7_statement 215 = .ok (.invokevirtual 223, 3) := by decide +kernel
theorem dX7_statement_218 : decode cX7_statement 218 = .ok (.goto 7, 3) := by decide +kernel
theorem dX7_statement_221 : decode cX7_statement 221 = .ok (.aload_n 0, 1) := by decide +kernel
theorem dX7_statement_222 : decode cX7_statement 222 = .ok (.invokevirtual 186, 3) := by decide +kernel
theorem dX7_statement_225 : decode cX7_statement 225 = .ok (.ireturn, 1) := by decide +kernel
set_option maxRecDepth 20000 in
theorem ggX7_readAll_X7_look : GoodIn wsX7_readAll wsX7_look := goodIn_r _ [8, 2, 9, 10, 11, 12, 3, 13, 14, 15, 7, 16, 17, 18, 19, 130, 131, 132, 133, 134, 135, 136, 137, 138, 139, 140, 141, 142, 143, 144, 145, 146, 147, 148, 149, 150, 151, 152, 153, 154, 155, 156, 157, 158, 159, 160, 161, 162] (by decide +kernel) (by decide +kernel)
set_option maxRecDepth 20000 in
theorem gX7_readAll_X7_look : GoodIn wsX7_readAll (wsV RX7 190 RX7 yX7_look wsX7_look) := goodIn_app (goodIn_of _ (by decide +kernel)) ggX7_readAll_X7_look
set_option maxRecDepth 20000 in
theorem ggX7_readAll_X7_statement : GoodIn wsX7_readAll wsX7_statement := goodIn_r _ [23, 24, 25, 26, 27, 28, 29, 30, 7, 31, 3, 2, 11, 10, 32, 33, 34, 35, 36, 37, 38, 39, 40, 41, 42, 43, 44, 45, 46, 47, 48, 49, 50, 51, 52, 53, 54, 55, 56, 57, 58, 59, 60, 61, 62, 63, 64, 65, 66, 67, 68, 69, 70, 71, 72, 73, 74, 75, 76, 77, 78, 79, 80, 81, 82, 83, 84, 4, 5, 6, 8, 9, 12, 13, 14, 15, 16, 17, 18, 19, 85, 86, 87, 88, 89, 90, 91, 92, 93, 94, 95, 96, 97, 98, 99, 100, 101, 102, 103, 104, 105, 106, 107, 108, 109, 110, 111, 112, 113, 114, 115, 116, 117, 118, 119, 120, 121, 122, 123, 124, 125, 126, 127, 128, 129, 130, 131, 132, 133, 134, 135, 136, 137, 138, 139, 140, 141, 142, 143, 144, 145, 146, 147, 148, 149, 150, 151, 152, 153, 154, 155, 156, 157, 158, 159, 160, 161, 162] (by decide +kernel) (by decide +kernel)
set_option maxRecDepth 20000 in
theorem gX7_readAll_X7_statement : GoodIn wsX7_readAll (wsV RX7 233 RX7 yX7_statement wsX7_statement) := goodIn_app (goodIn_of _ (by decide +kernel)) ggX7_readAll_X7_statement
set_option maxRecDepth 20000 in
theorem ggX7_readAll_X7_wrong : GoodIn wsX7_readAll wsX7_wrong := goodIn_r _ [95, 11, 96, 130, 131, 132, 133, 134, 135, 136, 137, 138, 139, 140, 141, 142, 143, 144, 145, 146, 147, 148, 149, 150, 151, 152, 153, 154, 155, 156, 157, 158, 159, 160, 161, 162] (by decide +kernel) (by decide +kernel)
set_option maxRecDepth 20000 in
theorem gX7_readAll_X7_wrong : GoodIn wsX7_readAll (wsV RX7 186 RX7 yX7_wrong wsX7_wrong) := goodIn_app (goodIn_of _ (by decide +kernel)) ggX7_readAll_X7_wrong
theorem dX7_readAll_0 : decode cX7_readAll 0 = .ok (.aload_n 0, 1) := by decide +kernel
theorem dX7_readAll_1 : decode cX7_readAll 1 = .ok (.iconst 1, 1) := by decide +kernel
theorem dX7_readAll_2 : decode cX7_readAll 2 = .ok (.putfield 230, 3) := by decide +kernel
theorem dX7_readAll_5 : decode cX7_readAll 5 = .ok (.aload_n 0, 1) := by decide +kernel
theorem dX7_readAll_6 : decode cX7_readAll 6 = .ok (.iconst 0, 1) := by decide +kernel
theorem dX7_readAll_7 : decode cX7_readAll 7 = .ok (.putfield 155, 3) := by decide +kernel
theorem dX7_readAll_10 : decode cX7_readAll 10 = .ok (.aload_n 0, 1) := by decide +kernel
theorem dX7_readAll_11 : decode cX7_readAll 11 = .ok (.invokevirtual 190, 3) := by decide +kernel
theorem dX7_readAll_14 : decode cX7_readAll 14 = .ok (.aload_n 0, 1) := by decide +kernel
theorem dX7_readAll_15 : decode cX7_readAll 15 = .ok (.invokevirtual 233, 3) := by decide +kernel
theorem dX7_readAll_18 : decode cX7_readAll 18 = .ok (.ifCond .ne 5, 3) := by decide +kernel
theorem dX7_readAll_21 : decode cX7_readAll 21 = .ok (.iconst 0, 1) := by decide +kernel
theorem dX7_readAll_22 : decode cX7_readAll 22 = .ok (.ireturn, 1) := by decide +kernel
theorem dX7_readAll_23 : decode cX7_readAll 23 = .ok (.aload_n 0, 1) := by decide +kernel
theorem dX7_readAll_24 : decode cX7_readAll 24 = .ok (.getfield 164, 3) := by decide +kernel
theorem dX7_readAll_27 : decode cX7_readAll 27 = .ok (.ifCond .eq 42, 3) := by decide +kernel
theorem dX7_readAll_30 : decode cX7_readAll 30 = .ok (.aload_n 0, 1) := by decide +kernel
theorem dX7_readAll_31 : decode cX7_readAll 31 = .ok (.getfield 164, 3) := by decide +kernel
theorem dX7_readAll_34 : decode cX7_readAll 34 = .ok (.iconst 3, 1) := by decide +kernel
theorem dX7_readAll_35 : decode cX7_readAll 35 = .ok (.if_icmp .eq 8, 3) := by decide +kernel
theorem dX7_readAll_38 : decode cX7_readAll 38 = .ok (.aload_n 0, 1) := by decide +kernel
theorem dX7_readAll_39 : decode cX7_readAll 39 = .ok (.invokevirtual 186, 3) := by decide +kernel
theorem dX7_readAll_42 : decode cX7_readAll 42 = .ok (.ireturn, 1) := by decide +kernel
theorem dX7_readAll_43 : decode cX7_readAll 43 = .ok (.aload_n 0, 1) := by decide +kernel
theorem dX7_readAll_44 : decode cX7_readAll 44 = .ok (.invokevirtual 190, 3) := by decide +kernel
theorem dX7_readAll_47 : decode cX7_readAll 47 = .ok (.aload_n 0, 1) := by decide +kernel
theorem dX7_readAll_48 : decode cX7_readAll 48 = .ok (.invokevirtual 233, 3) := by decide +kernel
theorem dX7_readAll_51 : decode cX7_readAll 51 = .ok (.ifCond .ne 5, 3) := by decide +kernel
theorem dX7_readAll_54 : decode cX7_readAll 54 = .ok (.iconst 0, 1) := by decide +kernel
theorem dX7_readAll_55 : decode cX7_readAll 55 = .ok (.ireturn, 1) := by decide +kernel
theorem dX7_readAll_56 : decode cX7_readAll 56 = .ok (.aload_n 0, 1) := by decide +kernel
theorem dX7_readAll_57 : decode cX7_readAll 57 = .ok (.dup, 1) := by decide +kernel
theorem dX7_readAll_58 : decode cX7_readAll 58 = .ok (.getfield 230, 3) := by decide +kernel
theorem dX7_readAll_61 : decode cX7_readAll 61 = .ok (.iconst 1, 1) := by decide +kernel
theorem dX7_readAll_62 : decode cX7_readAll 62 = .ok (.iadd, 1) := by decide +kernel
theorem dX7_readAll_63 : decode cX7_readAll 63 = .ok (.putfield 230, 3) := by decide +kernel
theorem dX7_readAll_66 : decode cX7_readAll 66 = .ok (.goto (-43), 3) := by decide +kernel
theorem dX7_readAll_69 : decode cX7_readAll 69 = .ok (.iconst 1, 1) := by decide +kernel
theorem dX7_readAll_70 : decode cX7_readAll 70 = .ok (.ireturn, 1) := by decide +kernel
set_option maxRecDepth 20000 in
theorem ggX7_town_X7_fresh : GoodIn wsX7_town wsX7_fresh := goodIn_r _ [8, 9, 10, 11, 7, 12, 13, 14, 15, 16, 17, 18, 19, 20, 21, 22, 23, 24, 25, 26, 27, 28, 29, 30, 31, 32, 33, 34, 35, 36, 37, 38, 39, 40, 41, 42, 43, 44, 45, 46, 47, 48, 49, 50, 173, 174, 175, 176, 177, 178, 179, 180, 181, 182, 183, 184, 185, 186, 187, 188, 189, 190, 191, 192, 193, 194, 195, 196, 197, 198, 199, 200, 201, 202, 203, 204, 205] (by decide +kernel) (by decide +kernel)
set_option maxRecDepth 20000 in
theorem gX7_town_X7_fresh : GoodIn wsX7_town (wsV RX7 236 RX7 yX7_fresh wsX7_fresh) := goodIn_app (goodIn_of _ (by decide +kernel)) ggX7_town_X7_fresh
set_option maxRecDepth 20000 in
theorem ggX7_town_X7_readAll : GoodIn wsX7_town wsX7_readAll := goodIn_r _ [54, 3, 55, 56, 57, 58, 59, 7, 60, 1, 27, 61, 62, 63, 64, 65, 66, 67, 68, 69, 70, 71, 72, 73, 29, 38, 46, 34, 74, 75, 76, 77, 78, 79, 80, 81, 82, 83, 84, 85, 86, 87, 88, 89, 90, 91, 92, 93, 94, 95, 96, 97, 98, 99, 100, 101, 102, 103, 104, 105, 106, 107, 108, 109, 110, 111, 112, 113, 114, 115, 116, 117, 118, 119, 120, 121, 122, 123, 124, 125, 126, 127, 128, 129, 130, 131, 132, 133, 134, 135, 136, 137, 138, 139, 140, 141, 2, 142, 143, 144, 145, 30, 146, 147, 148, 149, 31, 32, 33, 35, 150, 151, 152, 153, 154, 155, 156, 157, 158, 159, 160, 161, 162, 163, 164, 165, 36, 166, 167, 168, 173, 174, 175, 176, 177, 178, 179, 180, 181, 182, 183, 184, 185, 186, 187, 188, 189, 190, 191, 192, 193, 194, 195, 196, 197, 198, 199, 200, 201, 202, 203, 204, 205] (by decide +kernel) (by decide +kernel)
set_option maxRecDepth 20000 in
theorem gX7_town_X7_readAll : GoodIn wsX7_town (wsV RX7 240 RX7 yX7_readAll wsX7_readAll) := goodIn_app (goodIn_of _ (by decide +kernel)) ggX7_town_X7_readAll
set_option maxRecDepth 20000 in
theorem ggX7_town_X7_takeFrom : GoodIn wsX7_town wsX7_takeFrom := goodIn_r _ [45, 29, 46, 30, 31, 32, 33, 34, 35, 36, 47, 37, 48, 49, 7, 50, 173, 174, 175, 176, 177, 178, 179, 180, 181, 182, 183, 184, 185, 186, 187, 188, 189, 190, 191, 192, 193, 194, 195, 196, 197, 198, 199, 200, 201, 202, 203, 204, 205] (by decide +kernel) (by decide +kernel)
set_option maxRecDepth 20000 in
theorem gX7_town_X7_takeFrom : GoodIn wsX7_town (wsV RX7 243 RX7 yX7_takeFrom wsX7_takeFrom) := goodIn_app (goodIn_of _ (by decide +kernel)) ggX7_town_X7_takeFrom
set_option maxRecDepth 20000 in
theorem ggX7_town_X7_refuse : GoodIn wsX7_town wsX7_refuse := goodIn_r _ [172, 28, 173, 174, 175, 176, 177, 178, 179, 180, 181, 182, 183, 184, 185, 186, 187, 188, 189, 190, 191, 192, 193, 194, 195, 196, 197, 198, 199, 200, 201, 202, 203, 204, 205] (by decide +kernel) (by decide +kernel)
set_option maxRecDepth 20000 in
theorem gX7_town_X7_refuse : GoodIn wsX7_town (wsV RX7 94 RX7 yX7_refuse wsX7_refuse) := goodIn_app (goodIn_of _ (by decide +kernel)) ggX7_town_X7_refuse
theorem dX7_town_0 : decode cX7_town 0 = .ok (.aload_n 0, 1) := by decide +kernel
theorem dX7_town_1 : decode cX7_town 1 = .ok (.invokevirtual 236, 3) := by decide +kernel
theorem dX7_town_4 : decode cX7_town 4 = .ok (.astore_n 1, 1) := by decide +kernel
theorem dX7_town_5 : decode cX7_town 5 = .ok (.aload_n 0, 1) := by decide +kernel
theorem dX7_town_6 : decode cX7_town 6 = .ok (.invokevirtual 240, 3) := by decide +kernel
theorem dX7_town_9 : decode cX7_town 9 = .ok (.istore_n 2, 1) := by decide +kernel
theorem dX7_town_10 : decode cX7_town 10 = .ok (.aload_n 0, 1) := by decide +kernel
theorem dX7_town_11 : decode cX7_town 11 = .ok (.iconst 0, 1) := by decide +kernel
theorem dX7_town_12 : decode cX7_town 12 = .ok (.putfield 152, 3) := by decide +kernel
theorem dX7_town_15 : decode cX7_town 15 = .ok (.iload_n 2, 1) := by decide +kernel
theorem dX7_town_16 : decode cX7_town 16 = .ok (.ifCond .ne 23, 3) := by decide +kernel
theorem dX7_town_19 : decode cX7_town 19 = .ok (.aload_n 0, 1) := by decide +kernel
theorem dX7_town_20 : decode cX7_town 20 = .ok (.aload_n 1, 1) := by decide +kernel
theorem dX7_town_21 : decode cX7_town 21 = .ok (.invokevirtual 243, 3) := by decide +kernel
theorem dX7_town_24 : decode cX7_town 24 = .ok (.aload_n 0, 1) := by decide +kernel
theorem dX7_town_25 : decode cX7_town 25 = .ok (.bipush (-2), 2) := by decide +kernel
theorem dX7_town_27 : decode cX7_town 27 = .ok (.invokevirtual 94, 3) := by decide +kernel
theorem dX7_town_30 : decode cX7_town 30 = .ok (.pop, 1) := by decide +kernel
theorem dX7_town_31 : decode cX7_town 31 = .ok (.bipush (-20), 2) := by decide +kernel
theorem dX7_town_33 : decode cX7_town 33 = .ok (.aload_n 0, 1) := by decide +kernel
theorem dX7_town_34 : decode cX7_town 34 = .ok (.getfield 174, 3) := by decide +kernel
theorem dX7_town_37 : decode cX7_town 37 = .ok (.isub, 1) := by decide +kernel
theorem dX7_town_38 : decode cX7_town 38 = .ok (.ireturn, 1) := by decide +kernel
theorem dX7_town_39 : decode cX7_town 39 = .ok (.aload_n 0, 1) := by decide +kernel
theorem dX7_town_40 : decode cX7_town 40 = .ok (.getfield 230, 3) := by decide +kernel
theorem dX7_town_43 : decode cX7_town 43 = .ok (.ireturn, 1) := by decide +kernel
set_option maxRecDepth 20000 in
theorem ggX7_personOf_X7_isOne : GoodIn wsX7_personOf wsX7_isOne := goodIn_r _ [12, 13, 14, 15, 11, 16, 31, 32, 33, 34, 35, 36, 37, 38, 39, 40, 41, 42, 43, 44, 45, 46, 47, 48, 49, 50, 51, 52, 53, 54, 55, 56, 57, 58, 59, 60, 61, 62, 63] (by decide +kernel) (by decide +kernel)
set_option maxRecDepth 20000 in
theorem gX7_personOf_X7_isOne : GoodIn wsX7_personOf (wsV RX7 105 RX7 yX7_isOne wsX7_isOne) := goodIn_app (goodIn_of _ (by decide +kernel)) ggX7_personOf_X7_isOne
set_option maxRecDepth 20000 in
theorem ggX7_personOf_X7_in : GoodIn wsX7_personOf wsX7_in := goodIn_r _ [16] (by decide +kernel) (by decide +kernel)
set_option maxRecDepth 20000 in
theorem gX7_personOf_X7_in : GoodIn wsX7_personOf (va_wsS RX7 80 yX7_in wsX7_in) := goodIn_app (goodIn_of _ (by decide +kernel)) ggX7_personOf_X7_in
set_option maxRecDepth 20000 in
theorem ggX7_personOf_X7_refuse : GoodIn wsX7_personOf wsX7_refuse := goodIn_r _ [20, 21, 31, 32, 33, 34, 35, 36, 37, 38, 39, 40, 41, 42, 43, 44, 45, 46, 47, 48, 49, 50, 51, 52, 53, 54, 55, 56, 57, 58, 59, 60, 61, 62, 63] (by decide +kernel) (by decide +kernel)
set_option maxRecDepth 20000 in
theorem gX7_personOf_X7_refuse : GoodIn wsX7_personOf (wsV RX7 94 RX7 yX7_refuse wsX7_refuse) := goodIn_app (goodIn_of _ (by decide +kernel)) ggX7_personOf_X7_refuse
set_option maxRecDepth 20000 in
theorem ggX7_personOf_X7_knows : GoodIn wsX7_personOf wsX7_knows := goodIn_r _ [25, 4, 5, 6, 31, 32, 33, 34, 35, 36, 37, 38, 39, 40, 41, 42, 43, 44, 45, 46, 47, 48, 49, 50, 51, 52, 53, 54, 55, 56, 57, 58, 59, 60, 61, 62, 63] (by decide +kernel) (by decide +kernel)
set_option maxRecDepth 20000 in
theorem gX7_personOf_X7_knows : GoodIn wsX7_personOf (wsV RX7 247 RX7 yX7_knows wsX7_knows) := goodIn_app (goodIn_of _ (by decide +kernel)) ggX7_personOf_X7_knows
set_option maxRecDepth 20000 in
theorem ggX7_personOf_X7_barredBy : GoodIn wsX7_personOf wsX7_barredBy := goodIn_r _ [29, 30, 4, 5, 31, 32, 33, 34, 35, 36, 37, 38, 39, 40, 41, 42, 43, 44, 45, 46, 47, 48, 49, 50, 51, 52, 53, 54, 55, 56, 57, 58, 59, 60, 61, 62, 63] (by decide +kernel) (by decide +kernel)
set_option maxRecDepth 20000 in
theorem gX7_personOf_X7_barredBy : GoodIn wsX7_personOf (wsV RX7 124 RX7 yX7_barredBy wsX7_barredBy) := goodIn_app (goodIn_of _ (by decide +kernel)) ggX7_personOf_X7_barredBy
theorem dX7_personOf_0 : decode cX7_personOf 0 = .ok (.aload_n 0, 1) := by decide +kernel
theorem dX7_personOf_1 : decode cX7_personOf 1 = .ok (.iload_n 1, 1) := by decide +kernel
theorem dX7_personOf_2 : decode cX7_personOf 2 = .ok (.invokevirtual 105, 3) := by decide +kernel
theorem dX7_personOf_5 : decode cX7_personOf 5 = .ok (.ifCond .eq 15, 3) := by decide +kernel
theorem dX7_personOf_8 : decode cX7_personOf 8 = .ok (.iload_n 2, 1) := by decide +kernel
theorem dX7_personOf_9 : decode cX7_personOf 9 = .ok (.i2l, 1) := by decide +kernel
theorem dX7_personOf_10 : decode cX7_personOf 10 = .ok (.lconst 0, 1) := by decide +kernel
theorem dX7_personOf_11 : decode cX7_personOf 11 = .ok (.ldc2_w 88, 3) := by decide +kernel
theorem dX7_personOf_14 : decode cX7_personOf 14 = .ok (.invokestatic 80, 3) := by decide +kernel
theorem dX7_personOf_17 : decode cX7_personOf 17 = .ok (.ifCond .ne 10, 3) := by decide +kernel
theorem dX7_personOf_20 : decode cX7_personOf 20 = .ok (.aload_n 0, 1) := by decide +kernel
theorem dX7_personOf_21 : decode cX7_personOf 21 = .ok (.bipush (-2), 2) := by decide +kernel
theorem dX7_personOf_23 : decode cX7_personOf 23 = .ok (.invokevirtual 94, 3) := by decide +kernel
theorem dX7_personOf_26 : decode cX7_personOf 26 = .ok (.ireturn, 1) := by decide +kernel
theorem dX7_personOf_27 : decode cX7_personOf 27 = .ok (.iload_n 2, 1) := by decide +kernel
theorem dX7_personOf_28 : decode cX7_personOf 28 = .ok (.tableswitch 92 0 6 #[44, 51, 58, 65, 72, 79, 86], 44) := by decide +kernel
theorem dX7_personOf_72 : decode cX7_personOf 72 = .ok (.aload_n 0, 1) := by decide +kernel
theorem dX7_personOf_73 : decode cX7_personOf 73 = .ok (.getfield 41, 3) := by decide +kernel
theorem dX7_personOf_76 : decode cX7_personOf 76 = .ok (.iload_n 1, 1) := by decide +kernel
theorem dX7_personOf_77 : decode cX7_personOf 77 = .ok (.iaload, 1) := by decide +kernel
theorem dX7_personOf_78 : decode cX7_personOf 78 = .ok (.ireturn, 1) := by decide +kernel
theorem dX7_personOf_79 : decode cX7_personOf 79 = .ok (.aload_n 0, 1) := by decide +kernel
theorem dX7_personOf_80 : decode cX7_personOf 80 = .ok (.getfield 44, 3) := by decide +kernel
theorem dX7_personOf_83 : decode cX7_personOf 83 = .ok (.iload_n 1, 1) := by decide +kernel
theorem dX7_personOf_84 : decode cX7_personOf 84 = .ok (.iaload, 1) := by decide +kernel
theorem dX7_personOf_85 : decode cX7_personOf 85 = .ok (.ireturn, 1) := by decide +kernel
theorem dX7_personOf_86 : decode cX7_personOf 86 = .ok (.aload_n 0, 1) := by decide +kernel
theorem dX7_personOf_87 : decode cX7_personOf 87 = .ok (.getfield 47, 3) := by decide +kernel
theorem dX7_personOf_90 : decode cX7_personOf 90 = .ok (.iload_n 1, 1) := by decide +kernel
theorem dX7_personOf_91 : decode cX7_personOf 91 = .ok (.iaload, 1) := by decide +kernel
theorem dX7_personOf_92 : decode cX7_personOf 92 = .ok (.ireturn, 1) := by decide +kernel
theorem dX7_personOf_93 : decode cX7_personOf 93 = .ok (.aload_n 0, 1) := by decide +kernel
theorem dX7_personOf_94 : decode cX7_personOf 94 = .ok (.getfield 50, 3) := by decide +kernel
theorem dX7_personOf_97 : decode cX7_personOf 97 = .ok (.iload_n 1, 1) := by decide +kernel
theorem dX7_personOf_98 : decode cX7_personOf 98 = .ok (.iaload, 1) := by decide +kernel
theorem dX7_personOf_99 : decode cX7_personOf 99 = .ok (.ireturn, 1) := by decide +kernel
theorem dX7_personOf_100 : decode cX7_personOf 100 = .ok (.aload_n 0, 1) := by decide +kernel
theorem dX7_personOf_101 : decode cX7_personOf 101 = .ok (.getfield 53, 3) := by decide +kernel
theorem dX7_personOf_104 : decode cX7_personOf 104 = .ok (.iload_n 1, 1) := by decide +kernel
theorem dX7_personOf_105 : decode cX7_personOf 105 = .ok (.iaload, 1) := by decide +kernel
theorem dX7_personOf_106 : decode cX7_personOf 106 = .ok (.ireturn, 1) := by decide +kernel
theorem dX7_personOf_107 : decode cX7_personOf 107 = .ok (.aload_n 0, 1) := by decide +kernel
theorem dX7_personOf_108 : decode cX7_personOf 108 = .ok (.getfield 56, 3) := by decide +kernel
theorem dX7_personOf_111 : decode cX7_personOf 111 = .ok (.iload_n 1, 1) := by decide +kernel
theorem dX7_personOf_112 : decode cX7_personOf 112 = .ok (.iaload, 1) := by decide +kernel
theorem dX7_personOf_113 : decode cX7_personOf 113 = .ok (.ireturn, 1) := by decide +kernel
theorem dX7_personOf_114 : decode cX7_personOf 114 = .ok (.aload_n 0, 1) := by decide +kernel
theorem dX7_personOf_115 : decode cX7_personOf 115 = .ok (.iload_n 1, 1) := by decide +kernel
theorem dX7_personOf_116 : decode cX7_personOf 116 = .ok (.invokevirtual 247, 3) := by decide +kernel
theorem dX7_personOf_119 : decode cX7_personOf 119 = .ok (.ireturn, 1) := by decide +kernel
theorem dX7_personOf_120 : decode cX7_personOf 120 = .ok (.aload_n 0, 1) := by decide +kernel
theorem dX7_personOf_121 : decode cX7_personOf 121 = .ok (.iload_n 1, 1) := by decide +kernel
theorem dX7_personOf_122 : decode cX7_personOf 122 = .ok (.invokevirtual 124, 3) := by decide +kernel
theorem dX7_personOf_125 : decode cX7_personOf 125 = .ok (.ireturn, 1) := by decide +kernel
theorem dX7_barredBy_0 : decode cX7_barredBy 0 = .ok (.aload_n 0, 1) := by decide +kernel
theorem dX7_barredBy_1 : decode cX7_barredBy 1 = .ok (.getfield 59, 3) := by decide +kernel
theorem dX7_barredBy_4 : decode cX7_barredBy 4 = .ok (.iconst 0, 1) := by decide +kernel
theorem dX7_barredBy_5 : decode cX7_barredBy 5 = .ok (.iaload, 1) := by decide +kernel
theorem dX7_barredBy_6 : decode cX7_barredBy 6 = .ok (.iconst 1, 1) := by decide +kernel
theorem dX7_barredBy_7 : decode cX7_barredBy 7 = .ok (.if_icmp .ne 19, 3) := by decide +kernel
theorem dX7_barredBy_10 : decode cX7_barredBy 10 = .ok (.aload_n 0, 1) := by decide +kernel
theorem dX7_barredBy_11 : decode cX7_barredBy 11 = .ok (.getfield 47, 3) := by decide +kernel
theorem dX7_barredBy_14 : decode cX7_barredBy 14 = .ok (.iload_n 1, 1) := by decide +kernel
theorem dX7_barredBy_15 : decode cX7_barredBy 15 = .ok (.iaload, 1) := by decide +kernel
theorem dX7_barredBy_16 : decode cX7_barredBy 16 = .ok (.aload_n 0, 1) := by decide +kernel
theorem dX7_barredBy_17 : decode cX7_barredBy 17 = .ok (.getfield 50, 3) := by decide +kernel
theorem dX7_barredBy_20 : decode cX7_barredBy 20 = .ok (.iload_n 1, 1) := by decide +kernel
theorem dX7_barredBy_21 : decode cX7_barredBy 21 = .ok (.iaload, 1) := by decide +kernel
theorem dX7_barredBy_22 : decode cX7_barredBy 22 = .ok (.ior, 1) := by decide +kernel
theorem dX7_barredBy_23 : decode cX7_barredBy 23 = .ok (.goto 9, 3) := by decide +kernel
theorem dX7_barredBy_26 : decode cX7_barredBy 26 = .ok (.aload_n 0, 1) := by decide +kernel
theorem dX7_barredBy_27 : decode cX7_barredBy 27 = .ok (.getfield 47, 3) := by decide +kernel
theorem dX7_barredBy_30 : decode cX7_barredBy 30 = .ok (.iload_n 1, 1) := by decide +kernel
theorem dX7_barredBy_31 : decode cX7_barredBy 31 = .ok (.iaload, 1) := by decide +kernel
theorem dX7_barredBy_32 : decode cX7_barredBy 32 = .ok (.ireturn, 1) := by decide +kernel
theorem dX7_knows_0 : decode cX7_knows 0 = .ok (.aload_n 0, 1) := by decide +kernel
theorem dX7_knows_1 : decode cX7_knows 1 = .ok (.getfield 47, 3) := by decide +kernel
theorem dX7_knows_4 : decode cX7_knows 4 = .ok (.iload_n 1, 1) := by decide +kernel
theorem dX7_knows_5 : decode cX7_knows 5 = .ok (.iaload, 1) := by decide +kernel
theorem dX7_knows_6 : decode cX7_knows 6 = .ok (.aload_n 0, 1) := by decide +kernel
theorem dX7_knows_7 : decode cX7_knows 7 = .ok (.getfield 50, 3) := by decide +kernel
theorem dX7_knows_10 : decode cX7_knows 10 = .ok (.iload_n 1, 1) := by decide +kernel
theorem dX7_knows_11 : decode cX7_knows 11 = .ok (.iaload, 1) := by decide +kernel
theorem dX7_knows_12 : decode cX7_knows 12 = .ok (.ior, 1) := by decide +kernel
theorem dX7_knows_13 : decode cX7_knows 13 = .ok (.aload_n 0, 1) := by decide +kernel
theorem dX7_knows_14 : decode cX7_knows 14 = .ok (.getfield 53, 3) := by decide +kernel
theorem dX7_knows_17 : decode cX7_knows 17 = .ok (.iload_n 1, 1) := by decide +kernel
theorem dX7_knows_18 : decode cX7_knows 18 = .ok (.iaload, 1) := by decide +kernel
theorem dX7_knows_19 : decode cX7_knows 19 = .ok (.ior, 1) := by decide +kernel
theorem dX7_knows_20 : decode cX7_knows 20 = .ok (.ireturn, 1) := by decide +kernel
set_option maxRecDepth 20000 in
theorem ggX7_mayOf_X7_barredBy : GoodIn wsX7_mayOf wsX7_barredBy := goodIn_r _ [12, 6, 5, 13, 21, 22, 23, 24, 25, 26, 27, 28, 29, 30, 31, 32, 33, 34, 35, 36, 37, 38, 39, 40, 41, 42, 43, 44, 45, 46, 47, 48, 49, 50, 51, 52, 53] (by decide +kernel) (by decide +kernel)
set_option maxRecDepth 20000 in
theorem gX7_mayOf_X7_barredBy : GoodIn wsX7_mayOf (wsV RX7 124 RX7 yX7_barredBy wsX7_barredBy) := goodIn_app (goodIn_of _ (by decide +kernel)) ggX7_mayOf_X7_barredBy
set_option maxRecDepth 20000 in
theorem ggX7_mayOf_X7_allSights : GoodIn wsX7_mayOf wsX7_allSights := goodIn_r _ [17, 7, 21, 22, 23, 24, 25, 26, 27, 28, 29, 30, 31, 32, 33, 34, 35, 36, 37, 38, 39, 40, 41, 42, 43, 44, 45, 46, 47, 48, 49, 50, 51, 52, 53] (by decide +kernel) (by decide +kernel)
set_option maxRecDepth 20000 in
theorem gX7_mayOf_X7_allSights : GoodIn wsX7_mayOf (wsV RX7 120 RX7 yX7_allSights wsX7_allSights) := goodIn_app (goodIn_of _ (by decide +kernel)) ggX7_mayOf_X7_allSights
set_option maxRecDepth 20000 in
theorem ggX7_mayOf_X7_has : GoodIn wsX7_mayOf wsX7_has := goodIn_r _ [20] (by decide +kernel) (by decide +kernel)
set_option maxRecDepth 20000 in
theorem gX7_mayOf_X7_has : GoodIn wsX7_mayOf (va_wsS RX7 84 yX7_has wsX7_has) := goodIn_app (goodIn_of _ (by decide +kernel)) ggX7_mayOf_X7_has
theorem dX7_mayOf_0 : decode cX7_mayOf 0 = .ok (.aload_n 0, 1) := by decide +kernel
theorem dX7_mayOf_1 : decode cX7_mayOf 1 = .ok (.iload_n 1, 1) := by decide +kernel
theorem dX7_mayOf_2 : decode cX7_mayOf 2 = .ok (.invokevirtual 124, 3) := by decide +kernel
theorem dX7_mayOf_5 : decode cX7_mayOf 5 = .ok (.istore_n 2, 1) := by decide +kernel
theorem dX7_mayOf_6 : decode cX7_mayOf 6 = .ok (.aload_n 0, 1) := by decide +kernel
theorem dX7_mayOf_7 : decode cX7_mayOf 7 = .ok (.getfield 41, 3) := by decide +kernel
theorem dX7_mayOf_10 : decode cX7_mayOf 10 = .ok (.iload_n 1, 1) := by decide +kernel
theorem dX7_mayOf_11 : decode cX7_mayOf 11 = .ok (.iaload, 1) := by decide +kernel
theorem dX7_mayOf_12 : decode cX7_mayOf 12 = .ok (.iconst 2, 1) := by decide +kernel
theorem dX7_mayOf_13 : decode cX7_mayOf 13 = .ok (.if_icmp .eq 13, 3) := by decide +kernel
theorem dX7_mayOf_16 : decode cX7_mayOf 16 = .ok (.aload_n 0, 1) := by decide +kernel
theorem dX7_mayOf_17 : decode cX7_mayOf 17 = .ok (.getfield 41, 3) := by decide +kernel
theorem dX7_mayOf_20 : decode cX7_mayOf 20 = .ok (.iload_n 1, 1) := by decide +kernel
theorem dX7_mayOf_21 : decode cX7_mayOf 21 = .ok (.iaload, 1) := by decide +kernel
theorem dX7_mayOf_22 : decode cX7_mayOf 22 = .ok (.iconst 3, 1) := by decide +kernel
theorem dX7_mayOf_23 : decode cX7_mayOf 23 = .ok (.if_icmp .ne 10, 3) := by decide +kernel
theorem dX7_mayOf_26 : decode cX7_mayOf 26 = .ok (.aload_n 0, 1) := by decide +kernel
theorem dX7_mayOf_27 : decode cX7_mayOf 27 = .ok (.invokevirtual 120, 3) := by decide +kernel
theorem dX7_mayOf_30 : decode cX7_mayOf 30 = .ok (.goto 9, 3) := by decide +kernel
theorem dX7_mayOf_33 : decode cX7_mayOf 33 = .ok (.aload_n 0, 1) := by decide +kernel
theorem dX7_mayOf_34 : decode cX7_mayOf 34 = .ok (.getfield 53, 3) := by decide +kernel
theorem dX7_mayOf_37 : decode cX7_mayOf 37 = .ok (.iload_n 1, 1) := by decide +kernel
theorem dX7_mayOf_38 : decode cX7_mayOf 38 = .ok (.iaload, 1) := by decide +kernel
theorem dX7_mayOf_39 : decode cX7_mayOf 39 = .ok (.iload_n 2, 1) := by decide +kernel
theorem dX7_mayOf_40 : decode cX7_mayOf 40 = .ok (.iconst (-1), 1) := by decide +kernel
theorem dX7_mayOf_41 : decode cX7_mayOf 41 = .ok (.ixor, 1) := by decide +kernel
theorem dX7_mayOf_42 : decode cX7_mayOf 42 = .ok (.iand, 1) := by decide +kernel
theorem dX7_mayOf_43 : decode cX7_mayOf 43 = .ok (.istore_n 3, 1) := by decide +kernel
theorem dX7_mayOf_44 : decode cX7_mayOf 44 = .ok (.aload_n 0, 1) := by decide +kernel
theorem dX7_mayOf_45 : decode cX7_mayOf 45 = .ok (.getfield 41, 3) := by decide +kernel
theorem dX7_mayOf_48 : decode cX7_mayOf 48 = .ok (.iload_n 1, 1) := by decide +kernel
theorem dX7_mayOf_49 : decode cX7_mayOf 49 = .ok (.iaload, 1) := by decide +kernel
theorem dX7_mayOf_50 : decode cX7_mayOf 50 = .ok (.iconst 1, 1) := by decide +kernel
theorem dX7_mayOf_51 : decode cX7_mayOf 51 = .ok (.if_icmp .ne 67, 3) := by decide +kernel
theorem dX7_mayOf_54 : decode cX7_mayOf 54 = .ok (.iconst 0, 1) := by decide +kernel
theorem dX7_mayOf_55 : decode cX7_mayOf 55 = .ok (.istore 4, 2) := by decide +kernel
theorem dX7_mayOf_57 : decode cX7_mayOf 57 = .ok (.iconst 0, 1) := by decide +kernel
theorem dX7_mayOf_58 : decode cX7_mayOf 58 = .ok (.istore 5, 2) := by decide +kernel
theorem dX7_mayOf_60 : decode cX7_mayOf 60 = .ok (.iload 5, 2) := by decide +kernel
theorem dX7_mayOf_62 : decode cX7_mayOf 62 = .ok (.aload_n 0, 1) := by decide +kernel
theorem dX7_mayOf_63 : decode cX7_mayOf 63 = .ok (.getfield 77, 3) := by decide +kernel
theorem dX7_mayOf_66 : decode cX7_mayOf 66 = .ok (.if_icmp .ge 47, 3) := by decide +kernel
theorem dX7_mayOf_69 : decode cX7_mayOf 69 = .ok (.iload 4, 2) := by decide +kernel
theorem dX7_mayOf_71 : decode cX7_mayOf 71 = .ok (.aload_n 0, 1) := by decide +kernel
theorem dX7_mayOf_72 : decode cX7_mayOf 72 = .ok (.getfield 56, 3) := by decide +kernel
theorem dX7_mayOf_75 : decode cX7_mayOf 75 = .ok (.iload_n 1, 1) := by decide +kernel
theorem dX7_mayOf_76 : decode cX7_mayOf 76 = .ok (.iaload, 1) := by decide +kernel
theorem dX7_mayOf_77 : decode cX7_mayOf 77 = .ok (.iload 5, 2) := by decide +kernel
theorem dX7_mayOf_79 : decode cX7_mayOf 79 = .ok (.invokestatic 84, 3) := by decide +kernel
theorem dX7_mayOf_82 : decode cX7_mayOf 82 = .ok (.ifCond .eq 21, 3) := by decide +kernel
theorem dX7_mayOf_85 : decode cX7_mayOf 85 = .ok (.aload_n 0, 1) := by decide +kernel
theorem dX7_mayOf_86 : decode cX7_mayOf 86 = .ok (.getfield 53, 3) := by decide +kernel
theorem dX7_mayOf_89 : decode cX7_mayOf 89 = .ok (.iload 5, 2) := by decide +kernel
theorem dX7_mayOf_91 : decode cX7_mayOf 91 = .ok (.iaload, 1) := by decide +kernel
theorem dX7_mayOf_92 : decode cX7_mayOf 92 = .ok (.aload_n 0, 1) := by decide +kernel
theorem dX7_mayOf_93 : decode cX7_mayOf 93 = .ok (.getfield 47, 3) := by decide +kernel
theorem dX7_mayOf_96 : decode cX7_mayOf 96 = .ok (.iload 5, 2) := by decide +kernel
theorem dX7_mayOf_98 : decode cX7_mayOf 98 = .ok (.iaload, 1) := by decide +kernel
theorem dX7_mayOf_99 : decode cX7_mayOf 99 = .ok (.ior, 1) := by decide +kernel
theorem dX7_mayOf_100 : decode cX7_mayOf 100 = .ok (.goto 4, 3) := by decide +kernel
theorem dX7_mayOf_103 : decode cX7_mayOf 103 = .ok (.iconst 0, 1) := by decide +kernel
theorem dX7_mayOf_104 : decode cX7_mayOf 104 = .ok (.ior, 1) := by decide +kernel
theorem dX7_mayOf_105 : decode cX7_mayOf 105 = .ok (.istore 4, 2) := by decide +kernel
theorem dX7_mayOf_107 : decode cX7_mayOf 107 = .ok (.iinc 5 1, 3) := by decide +kernel
theorem dX7_mayOf_110 : decode cX7_mayOf 110 = .ok (.goto (-50), 3) := by decide +kernel
theorem dX7_mayOf_113 : decode cX7_mayOf 113 = .ok (.iload_n 3, 1) := by decide +kernel
theorem dX7_mayOf_114 : decode cX7_mayOf 114 = .ok (.iload 4, 2) := by decide +kernel
theorem dX7_mayOf_116 : decode cX7_mayOf 116 = .ok (.iand, 1) := by decide +kernel
theorem dX7_mayOf_117 : decode cX7_mayOf 117 = .ok (.istore_n 3, 1) := by decide +kernel
theorem dX7_mayOf_118 : decode cX7_mayOf 118 = .ok (.aload_n 0, 1) := by decide +kernel
theorem dX7_mayOf_119 : decode cX7_mayOf 119 = .ok (.getfield 41, 3) := by decide +kernel
theorem dX7_mayOf_122 : decode cX7_mayOf 122 = .ok (.iload_n 1, 1) := by decide +kernel
theorem dX7_mayOf_123 : decode cX7_mayOf 123 = .ok (.iaload, 1) := by decide +kernel
theorem dX7_mayOf_124 : decode cX7_mayOf 124 = .ok (.iconst 3, 1) := by decide +kernel
theorem dX7_mayOf_125 : decode cX7_mayOf 125 = .ok (.if_icmp .ne 53, 3) := by decide +kernel
theorem dX7_mayOf_128 : decode cX7_mayOf 128 = .ok (.aload_n 0, 1) := by decide +kernel
theorem dX7_mayOf_129 : decode cX7_mayOf 129 = .ok (.getfield 59, 3) := by decide +kernel
theorem dX7_mayOf_132 : decode cX7_mayOf 132 = .ok (.iconst 2, 1) := by decide +kernel
theorem dX7_mayOf_133 : decode cX7_mayOf 133 = .ok (.iaload, 1) := by decide +kernel
theorem dX7_mayOf_134 : decode cX7_mayOf 134 = .ok (.istore 4, 2) := by decide +kernel
theorem dX7_mayOf_136 : decode cX7_mayOf 136 = .ok (.iconst 0, 1) := by decide +kernel
theorem dX7_mayOf_137 : decode cX7_mayOf 137 = .ok (.istore 5, 2) := by decide +kernel
theorem dX7_mayOf_139 : decode cX7_mayOf 139 = .ok (.iload 5, 2) := by decide +kernel
theorem dX7_mayOf_141 : decode cX7_mayOf 141 = .ok (.aload_n 0, 1) := by decide +kernel
theorem dX7_mayOf_142 : decode cX7_mayOf 142 = .ok (.getfield 37, 3) := by decide +kernel
theorem dX7_mayOf_145 : decode cX7_mayOf 145 = .ok (.if_icmp .ge 33, 3) := by decide +kernel
theorem dX7_mayOf_148 : decode cX7_mayOf 148 = .ok (.iload 4, 2) := by decide +kernel
theorem dX7_mayOf_150 : decode cX7_mayOf 150 = .ok (.ifCond .le 28, 3) := by decide +kernel
theorem dX7_mayOf_153 : decode cX7_mayOf 153 = .ok (.iload_n 2, 1) := by decide +kernel
theorem dX7_mayOf_154 : decode cX7_mayOf 154 = .ok (.iload 5, 2) := by decide +kernel
theorem dX7_mayOf_156 : decode cX7_mayOf 156 = .ok (.invokestatic 84, 3) := by decide +kernel
theorem dX7_mayOf_159 : decode cX7_mayOf 159 = .ok (.ifCond .eq 13, 3) := by decide +kernel
theorem dX7_mayOf_162 : decode cX7_mayOf 162 = .ok (.iload_n 3, 1) := by decide +kernel
theorem dX7_mayOf_163 : decode cX7_mayOf 163 = .ok (.iconst 1, 1) := by decide +kernel
theorem dX7_mayOf_164 : decode cX7_mayOf 164 = .ok (.iload 5, 2) := by decide +kernel
theorem dX7_mayOf_166 : decode cX7_mayOf 166 = .ok (.ishl, 1) := by decide +kernel
theorem dX7_mayOf_167 : decode cX7_mayOf 167 = .ok (.ior, 1) := by decide +kernel
theorem dX7_mayOf_168 : decode cX7_mayOf 168 = .ok (.istore_n 3, 1) := by decide +kernel
theorem dX7_mayOf_169 : decode cX7_mayOf 169 = .ok (.iinc 4 (-1), 3) := by decide +kernel
theorem dX7_mayOf_172 : decode cX7_mayOf 172 = .ok (.iinc 5 1, 3) := by decide +kernel
theorem dX7_mayOf_175 : decode cX7_mayOf 175 = .ok (.goto (-36), 3) := by decide +kernel
theorem dX7_mayOf_178 : decode cX7_mayOf 178 = .ok (.iload_n 3, 1) := by decide +kernel
theorem dX7_mayOf_179 : decode cX7_mayOf 179 = .ok (.ireturn, 1) := by decide +kernel
set_option maxRecDepth 20000 in
theorem ggX7_may_X7_isOne : GoodIn wsX7_may wsX7_isOne := goodIn_r _ [5, 6, 7, 8, 4, 9, 41, 42, 43, 44, 45, 46, 47, 48, 49, 50, 51, 52, 53, 54, 55, 56, 57, 58, 59, 60, 61, 62, 63, 64, 65, 66, 67, 68, 69, 70, 71, 72, 73] (by decide +kernel) (by decide +kernel)
set_option maxRecDepth 20000 in
theorem gX7_may_X7_isOne : GoodIn wsX7_may (wsV RX7 105 RX7 yX7_isOne wsX7_isOne) := goodIn_app (goodIn_of _ (by decide +kernel)) ggX7_may_X7_isOne
set_option maxRecDepth 20000 in
theorem ggX7_may_X7_isSight : GoodIn wsX7_may wsX7_isSight := goodIn_r _ [13, 14, 7, 8, 4, 9, 41, 42, 43, 44, 45, 46, 47, 48, 49, 50, 51, 52, 53, 54, 55, 56, 57, 58, 59, 60, 61, 62, 63, 64, 65, 66, 67, 68, 69, 70, 71, 72, 73] (by decide +kernel) (by decide +kernel)
set_option maxRecDepth 20000 in
theorem gX7_may_X7_isSight : GoodIn wsX7_may (wsV RX7 138 RX7 yX7_isSight wsX7_isSight) := goodIn_app (goodIn_of _ (by decide +kernel)) ggX7_may_X7_isSight
set_option maxRecDepth 20000 in
theorem ggX7_may_X7_refuse : GoodIn wsX7_may wsX7_refuse := goodIn_r _ [18, 19, 41, 42, 43, 44, 45, 46, 47, 48, 49, 50, 51, 52, 53, 54, 55, 56, 57, 58, 59, 60, 61, 62, 63, 64, 65, 66, 67, 68, 69, 70, 71, 72, 73] (by decide +kernel) (by decide +kernel)
set_option maxRecDepth 20000 in
theorem gX7_may_X7_refuse : GoodIn wsX7_may (wsV RX7 94 RX7 yX7_refuse wsX7_refuse) := goodIn_app (goodIn_of _ (by decide +kernel)) ggX7_may_X7_refuse
set_option maxRecDepth 20000 in
theorem ggX7_may_X7_mayOf : GoodIn wsX7_may wsX7_mayOf := goodIn_r _ [23, 24, 25, 6, 26, 27, 28, 14, 29, 30, 31, 4, 32, 33, 34, 35, 36, 37, 38, 39, 40, 41, 42, 43, 44, 45, 46, 47, 48, 49, 50, 51, 52, 53, 54, 55, 56, 57, 58, 59, 60, 61, 62, 63, 64, 65, 66, 67, 68, 69, 70, 71, 72, 73] (by decide +kernel) (by decide +kernel)
set_option maxRecDepth 20000 in
theorem gX7_may_X7_mayOf : GoodIn wsX7_may (wsV RX7 114 RX7 yX7_mayOf wsX7_mayOf) := goodIn_app (goodIn_of _ (by decide +kernel)) ggX7_may_X7_mayOf
set_option maxRecDepth 20000 in
theorem ggX7_may_X7_has : GoodIn wsX7_may wsX7_has := goodIn_r _ [40] (by decide +kernel) (by decide +kernel)
set_option maxRecDepth 20000 in
theorem gX7_may_X7_has : GoodIn wsX7_may (va_wsS RX7 84 yX7_has wsX7_has) := goodIn_app (goodIn_of _ (by decide +kernel)) ggX7_may_X7_has
theorem dX7_may_0 : decode cX7_may 0 = .ok (.aload_n 0, 1) := by decide +kernel
theorem dX7_may_1 : decode cX7_may 1 = .ok (.iload_n 1, 1) := by decide +kernel
theorem dX7_may_2 : decode cX7_may 2 = .ok (.invokevirtual 105, 3) := by decide +kernel
theorem dX7_may_5 : decode cX7_may 5 = .ok (.ifCond .eq 11, 3) := by decide +kernel
theorem dX7_may_8 : decode cX7_may 8 = .ok (.aload_n 0, 1) := by decide +kernel
theorem dX7_may_9 : decode cX7_may 9 = .ok (.iload_n 2, 1) := by decide +kernel
theorem dX7_may_10 : decode cX7_may 10 = .ok (.invokevirtual 138, 3) := by decide +kernel
theorem dX7_may_13 : decode cX7_may 13 = .ok (.ifCond .ne 10, 3) := by decide +kernel
theorem dX7_may_16 : decode cX7_may 16 = .ok (.aload_n 0, 1) := by decide +kernel
theorem dX7_may_17 : decode cX7_may 17 = .ok (.bipush (-2), 2) := by decide +kernel
theorem dX7_may_19 : decode cX7_may 19 = .ok (.invokevirtual 94, 3) := by decide +kernel
theorem dX7_may_22 : decode cX7_may 22 = .ok (.ireturn, 1) := by decide +kernel
theorem dX7_may_23 : decode cX7_may 23 = .ok (.aload_n 0, 1) := by decide +kernel
theorem dX7_may_24 : decode cX7_may 24 = .ok (.iload_n 1, 1) := by decide +kernel
theorem dX7_may_25 : decode cX7_may 25 = .ok (.invokevirtual 114, 3) := by decide +kernel
theorem dX7_may_28 : decode cX7_may 28 = .ok (.iload_n 2, 1) := by decide +kernel
theorem dX7_may_29 : decode cX7_may 29 = .ok (.invokestatic 84, 3) := by decide +kernel
theorem dX7_may_32 : decode cX7_may 32 = .ok (.ifCond .eq 7, 3) := by decide +kernel
theorem dX7_may_35 : decode cX7_may 35 = .ok (.iconst 1, 1) := by decide +kernel
theorem dX7_may_36 : decode cX7_may 36 = .ok (.goto 4, 3) := by decide +kernel
theorem dX7_may_39 : decode cX7_may 39 = .ok (.iconst 0, 1) := by decide +kernel
theorem dX7_may_40 : decode cX7_may 40 = .ok (.ireturn, 1) := by decide +kernel
set_option maxRecDepth 20000 in
theorem ggX7_mouthsOf_X7_mayOf : GoodIn wsX7_mouthsOf wsX7_mayOf := goodIn_r _ [6, 7, 8, 1, 9, 10, 11, 12, 13, 14, 15, 5, 16, 17, 18, 19, 20, 21, 22, 23, 24, 25, 26, 27, 28, 29, 30, 31, 32, 33, 34, 35, 36, 37, 38, 39, 40, 41, 42, 43, 44, 45, 46, 47, 48, 49, 50, 51, 52, 53, 54, 55, 56, 57] (by decide +kernel) (by decide +kernel)
set_option maxRecDepth 20000 in
theorem gX7_mouthsOf_X7_mayOf : GoodIn wsX7_mouthsOf (wsV RX7 114 RX7 yX7_mayOf wsX7_mayOf) := goodIn_app (goodIn_of _ (by decide +kernel)) ggX7_mouthsOf_X7_mayOf
set_option maxRecDepth 20000 in
theorem ggX7_mouthsOf_X7_has : GoodIn wsX7_mouthsOf wsX7_has := goodIn_r _ [24] (by decide +kernel) (by decide +kernel)
set_option maxRecDepth 20000 in
theorem gX7_mouthsOf_X7_has : GoodIn wsX7_mouthsOf (va_wsS RX7 84 yX7_has wsX7_has) := goodIn_app (goodIn_of _ (by decide +kernel)) ggX7_mouthsOf_X7_has
theorem dX7_mouthsOf_0 : decode cX7_mouthsOf 0 = .ok (.iconst 0, 1) := by decide +kernel
theorem dX7_mouthsOf_1 : decode cX7_mouthsOf 1 = .ok (.istore_n 2, 1) := by decide +kernel
theorem dX7_mouthsOf_2 : decode cX7_mouthsOf 2 = .ok (.iconst 0, 1) := by decide +kernel
theorem dX7_mouthsOf_3 : decode cX7_mouthsOf 3 = .ok (.istore_n 3, 1) := by decide +kernel
theorem dX7_mouthsOf_4 : decode cX7_mouthsOf 4 = .ok (.iload_n 3, 1) := by decide +kernel
theorem dX7_mouthsOf_5 : decode cX7_mouthsOf 5 = .ok (.aload_n 0, 1) := by decide +kernel
theorem dX7_mouthsOf_6 : decode cX7_mouthsOf 6 = .ok (.getfield 77, 3) := by decide +kernel
theorem dX7_mouthsOf_9 : decode cX7_mouthsOf 9 = .ok (.if_icmp .ge 31, 3) := by decide +kernel
theorem dX7_mouthsOf_12 : decode cX7_mouthsOf 12 = .ok (.iload_n 2, 1) := by decide +kernel
theorem dX7_mouthsOf_13 : decode cX7_mouthsOf 13 = .ok (.aload_n 0, 1) := by decide +kernel
theorem dX7_mouthsOf_14 : decode cX7_mouthsOf 14 = .ok (.iload_n 3, 1) := by decide +kernel
theorem dX7_mouthsOf_15 : decode cX7_mouthsOf 15 = .ok (.invokevirtual 114, 3) := by decide +kernel
theorem dX7_mouthsOf_18 : decode cX7_mouthsOf 18 = .ok (.iload_n 1, 1) := by decide +kernel
theorem dX7_mouthsOf_19 : decode cX7_mouthsOf 19 = .ok (.invokestatic 84, 3) := by decide +kernel
theorem dX7_mouthsOf_22 : decode cX7_mouthsOf 22 = .ok (.ifCond .eq 9, 3) := by decide +kernel
theorem dX7_mouthsOf_25 : decode cX7_mouthsOf 25 = .ok (.iconst 1, 1) := by decide +kernel
theorem dX7_mouthsOf_26 : decode cX7_mouthsOf 26 = .ok (.iload_n 3, 1) := by decide +kernel
theorem dX7_mouthsOf_27 : decode cX7_mouthsOf 27 = .ok (.ishl, 1) := by decide +kernel
theorem dX7_mouthsOf_28 : decode cX7_mouthsOf 28 = .ok (.goto 4, 3) := by decide +kernel
theorem dX7_mouthsOf_31 : decode cX7_mouthsOf 31 = .ok (.iconst 0, 1) := by decide +kernel
theorem dX7_mouthsOf_32 : decode cX7_mouthsOf 32 = .ok (.ior, 1) := by decide +kernel
theorem dX7_mouthsOf_33 : decode cX7_mouthsOf 33 = .ok (.istore_n 2, 1) := by decide +kernel
theorem dX7_mouthsOf_34 : decode cX7_mouthsOf 34 = .ok (.iinc 3 1, 3) := by decide +kernel
theorem dX7_mouthsOf_37 : decode cX7_mouthsOf 37 = .ok (.goto (-33), 3) := by decide +kernel
theorem dX7_mouthsOf_40 : decode cX7_mouthsOf 40 = .ok (.iload_n 2, 1) := by decide +kernel
theorem dX7_mouthsOf_41 : decode cX7_mouthsOf 41 = .ok (.ireturn, 1) := by decide +kernel
set_option maxRecDepth 20000 in
theorem ggX7_mouths_X7_isSight : GoodIn wsX7_mouths wsX7_isSight := goodIn_r _ [5, 6, 7, 8, 4, 9, 41, 42, 43, 44, 45, 46, 47, 48, 49, 50, 51, 52, 53, 54, 55, 56, 57, 58, 59, 60, 61, 62, 63, 64, 65, 66, 67, 68, 69, 70, 71, 72, 73] (by decide +kernel) (by decide +kernel)
set_option maxRecDepth 20000 in
theorem gX7_mouths_X7_isSight : GoodIn wsX7_mouths (wsV RX7 138 RX7 yX7_isSight wsX7_isSight) := goodIn_app (goodIn_of _ (by decide +kernel)) ggX7_mouths_X7_isSight
set_option maxRecDepth 20000 in
theorem ggX7_mouths_X7_mouthsOf : GoodIn wsX7_mouths wsX7_mouthsOf := goodIn_r _ [13, 14, 15, 16, 17, 4, 18, 19, 20, 21, 22, 23, 6, 24, 25, 26, 27, 28, 29, 30, 31, 32, 33, 34, 35, 41, 42, 43, 44, 45, 46, 47, 48, 49, 50, 51, 52, 53, 54, 55, 56, 57, 58, 59, 60, 61, 62, 63, 64, 65, 66, 67, 68, 69, 70, 71, 72, 73] (by decide +kernel) (by decide +kernel)
set_option maxRecDepth 20000 in
theorem gX7_mouths_X7_mouthsOf : GoodIn wsX7_mouths (wsV RX7 250 RX7 yX7_mouthsOf wsX7_mouthsOf) := goodIn_app (goodIn_of _ (by decide +kernel)) ggX7_mouths_X7_mouthsOf
set_option maxRecDepth 20000 in
theorem ggX7_mouths_X7_refuse : GoodIn wsX7_mouths wsX7_refuse := goodIn_r _ [39, 40, 41, 42, 43, 44, 45, 46, 47, 48, 49, 50, 51, 52, 53, 54, 55, 56, 57, 58, 59, 60, 61, 62, 63, 64, 65, 66, 67, 68, 69, 70, 71, 72, 73] (by decide +kernel) (by decide +kernel)
set_option maxRecDepth 20000 in
theorem gX7_mouths_X7_refuse : GoodIn wsX7_mouths (wsV RX7 94 RX7 yX7_refuse wsX7_refuse) := goodIn_app (goodIn_of _ (by decide +kernel)) ggX7_mouths_X7_refuse
theorem dX7_mouths_0 : decode cX7_mouths 0 = .ok (.aload_n 0, 1) := by decide +kernel
theorem dX7_mouths_1 : decode cX7_mouths 1 = .ok (.iload_n 1, 1) := by decide +kernel
theorem dX7_mouths_2 : decode cX7_mouths 2 = .ok (.invokevirtual 138, 3) := by decide +kernel
theorem dX7_mouths_5 : decode cX7_mouths 5 = .ok (.ifCond .eq 11, 3) := by decide +kernel
theorem dX7_mouths_8 : decode cX7_mouths 8 = .ok (.aload_n 0, 1) := by decide +kernel
theorem dX7_mouths_9 : decode cX7_mouths 9 = .ok (.iload_n 1, 1) := by decide +kernel
theorem dX7_mouths_10 : decode cX7_mouths 10 = .ok (.invokevirtual 250, 3) := by decide +kernel
theorem dX7_mouths_13 : decode cX7_mouths 13 = .ok (.goto 9, 3) := by decide +kernel
theorem dX7_mouths_16 : decode cX7_mouths 16 = .ok (.aload_n 0, 1) := by decide +kernel
theorem dX7_mouths_17 : decode cX7_mouths 17 = .ok (.bipush (-2), 2) := by decide +kernel
theorem dX7_mouths_19 : decode cX7_mouths 19 = .ok (.invokevirtual 94, 3) := by decide +kernel
theorem dX7_mouths_22 : decode cX7_mouths 22 = .ok (.ireturn, 1) := by decide +kernel
set_option maxRecDepth 20000 in
theorem ggX7_isSaid_X7_has : GoodIn wsX7_isSaid wsX7_has := goodIn_r _ [7] (by decide +kernel) (by decide +kernel)
set_option maxRecDepth 20000 in
theorem gX7_isSaid_X7_has : GoodIn wsX7_isSaid (va_wsS RX7 84 yX7_has wsX7_has) := goodIn_app (goodIn_of _ (by decide +kernel)) ggX7_isSaid_X7_has
set_option maxRecDepth 20000 in
theorem ggX7_isSaid_X7_bits : GoodIn wsX7_isSaid wsX7_bits := goodIn_r _ [10] (by decide +kernel) (by decide +kernel)
set_option maxRecDepth 20000 in
theorem gX7_isSaid_X7_bits : GoodIn wsX7_isSaid (va_wsS RX7 117 yX7_bits wsX7_bits) := goodIn_app (goodIn_of _ (by decide +kernel)) ggX7_isSaid_X7_bits
theorem dX7_isSaid_0 : decode cX7_isSaid 0 = .ok (.iconst 0, 1) := by decide +kernel
theorem dX7_isSaid_1 : decode cX7_isSaid 1 = .ok (.istore_n 3, 1) := by decide +kernel
theorem dX7_isSaid_2 : decode cX7_isSaid 2 = .ok (.iconst 0, 1) := by decide +kernel
theorem dX7_isSaid_3 : decode cX7_isSaid 3 = .ok (.istore 4, 2) := by decide +kernel
theorem dX7_isSaid_5 : decode cX7_isSaid 5 = .ok (.iload 4, 2) := by decide +kernel
theorem dX7_isSaid_7 : decode cX7_isSaid 7 = .ok (.aload_n 0, 1) := by decide +kernel
theorem dX7_isSaid_8 : decode cX7_isSaid 8 = .ok (.getfield 77, 3) := by decide +kernel
theorem dX7_isSaid_11 : decode cX7_isSaid 11 = .ok (.if_icmp .ge 51, 3) := by decide +kernel
theorem dX7_isSaid_14 : decode cX7_isSaid 14 = .ok (.aload_n 0, 1) := by decide +kernel
theorem dX7_isSaid_15 : decode cX7_isSaid 15 = .ok (.getfield 56, 3) := by decide +kernel
theorem dX7_isSaid_18 : decode cX7_isSaid 18 = .ok (.iload 4, 2) := by decide +kernel
theorem dX7_isSaid_20 : decode cX7_isSaid 20 = .ok (.iaload, 1) := by decide +kernel
theorem dX7_isSaid_21 : decode cX7_isSaid 21 = .ok (.iload_n 1, 1) := by decide +kernel
theorem dX7_isSaid_22 : decode cX7_isSaid 22 = .ok (.invokestatic 84, 3) := by decide +kernel
theorem dX7_isSaid_25 : decode cX7_isSaid 25 = .ok (.ifCond .eq 31, 3) := by decide +kernel
theorem dX7_isSaid_28 : decode cX7_isSaid 28 = .ok (.iload_n 3, 1) := by decide +kernel
theorem dX7_isSaid_29 : decode cX7_isSaid 29 = .ok (.iload_n 2, 1) := by decide +kernel
theorem dX7_isSaid_30 : decode cX7_isSaid 30 = .ok (.aload_n 0, 1) := by decide +kernel
theorem dX7_isSaid_31 : decode cX7_isSaid 31 = .ok (.getfield 53, 3) := by decide +kernel
theorem dX7_isSaid_34 : decode cX7_isSaid 34 = .ok (.iload 4, 2) := by decide +kernel
theorem dX7_isSaid_36 : decode cX7_isSaid 36 = .ok (.iaload, 1) := by decide +kernel
theorem dX7_isSaid_37 : decode cX7_isSaid 37 = .ok (.iconst (-1), 1) := by decide +kernel
theorem dX7_isSaid_38 : decode cX7_isSaid 38 = .ok (.ixor, 1) := by decide +kernel
theorem dX7_isSaid_39 : decode cX7_isSaid 39 = .ok (.iand, 1) := by decide +kernel
theorem dX7_isSaid_40 : decode cX7_isSaid 40 = .ok (.invokestatic 117, 3) := by decide +kernel
theorem dX7_isSaid_43 : decode cX7_isSaid 43 = .ok (.iadd, 1) := by decide +kernel
theorem dX7_isSaid_44 : decode cX7_isSaid 44 = .ok (.istore_n 3, 1) := by decide +kernel
theorem dX7_isSaid_45 : decode cX7_isSaid 45 = .ok (.aload_n 0, 1) := by decide +kernel
theorem dX7_isSaid_46 : decode cX7_isSaid 46 = .ok (.getfield 53, 3) := by decide +kernel
theorem dX7_isSaid_49 : decode cX7_isSaid 49 = .ok (.iload 4, 2) := by decide +kernel
theorem dX7_isSaid_51 : decode cX7_isSaid 51 = .ok (.dup2, 1) := by decide +kernel
theorem dX7_isSaid_52 : decode cX7_isSaid 52 = .ok (.iaload, 1) := by decide +kernel
theorem dX7_isSaid_53 : decode cX7_isSaid 53 = .ok (.iload_n 2, 1) := by decide +kernel
theorem dX7_isSaid_54 : decode cX7_isSaid 54 = .ok (.ior, 1) := by decide +kernel
theorem dX7_isSaid_55 : decode cX7_isSaid 55 = .ok (.iastore, 1) := by decide +kernel
theorem dX7_isSaid_56 : decode cX7_isSaid 56 = .ok (.iinc 4 1, 3) := by decide +kernel
theorem dX7_isSaid_59 : decode cX7_isSaid 59 = .ok (.goto (-54), 3) := by decide +kernel
theorem dX7_isSaid_62 : decode cX7_isSaid 62 = .ok (.iload_n 3, 1) := by decide +kernel
theorem dX7_isSaid_63 : decode cX7_isSaid 63 = .ok (.ireturn, 1) := by decide +kernel
set_option maxRecDepth 20000 in
theorem ggX7_say_X7_isOne : GoodIn wsX7_say wsX7_isOne := goodIn_r _ [5, 6, 7, 8, 4, 9, 48, 49, 50, 51, 52, 53, 54, 55, 56, 57, 58, 59, 60, 61, 62, 63, 64, 65, 66, 67, 68, 69, 70, 71, 72, 73, 74, 75, 76, 77, 78, 79, 80] (by decide +kernel) (by decide +kernel)
set_option maxRecDepth 20000 in
theorem gX7_say_X7_isOne : GoodIn wsX7_say (wsV RX7 105 RX7 yX7_isOne wsX7_isOne) := goodIn_app (goodIn_of _ (by decide +kernel)) ggX7_say_X7_isOne
set_option maxRecDepth 20000 in
theorem ggX7_say_X7_isSight : GoodIn wsX7_say wsX7_isSight := goodIn_r _ [13, 14, 7, 8, 4, 9, 48, 49, 50, 51, 52, 53, 54, 55, 56, 57, 58, 59, 60, 61, 62, 63, 64, 65, 66, 67, 68, 69, 70, 71, 72, 73, 74, 75, 76, 77, 78, 79, 80] (by decide +kernel) (by decide +kernel)
set_option maxRecDepth 20000 in
theorem gX7_say_X7_isSight : GoodIn wsX7_say (wsV RX7 138 RX7 yX7_isSight wsX7_isSight) := goodIn_app (goodIn_of _ (by decide +kernel)) ggX7_say_X7_isSight
set_option maxRecDepth 20000 in
theorem ggX7_say_X7_refuse : GoodIn wsX7_say wsX7_refuse := goodIn_r _ [18, 19, 48, 49, 50, 51, 52, 53, 54, 55, 56, 57, 58, 59, 60, 61, 62, 63, 64, 65, 66, 67, 68, 69, 70, 71, 72, 73, 74, 75, 76, 77, 78, 79, 80] (by decide +kernel) (by decide +kernel)
set_option maxRecDepth 20000 in
theorem gX7_say_X7_refuse : GoodIn wsX7_say (wsV RX7 94 RX7 yX7_refuse wsX7_refuse) := goodIn_app (goodIn_of _ (by decide +kernel)) ggX7_say_X7_refuse
set_option maxRecDepth 20000 in
theorem ggX7_say_X7_mayOf : GoodIn wsX7_say wsX7_mayOf := goodIn_r _ [23, 24, 25, 6, 26, 27, 28, 14, 29, 30, 31, 4, 32, 33, 34, 35, 36, 37, 38, 39, 40, 48, 49, 50, 51, 52, 53, 54, 55, 56, 57, 58, 59, 60, 61, 62, 63, 64, 65, 66, 67, 68, 69, 70, 71, 72, 73, 74, 75, 76, 77, 78, 79, 80] (by decide +kernel) (by decide +kernel)
set_option maxRecDepth 20000 in
theorem gX7_say_X7_mayOf : GoodIn wsX7_say (wsV RX7 114 RX7 yX7_mayOf wsX7_mayOf) := goodIn_app (goodIn_of _ (by decide +kernel)) ggX7_say_X7_mayOf
set_option maxRecDepth 20000 in
theorem ggX7_say_X7_has : GoodIn wsX7_say wsX7_has := goodIn_r _ [40] (by decide +kernel) (by decide +kernel)
set_option maxRecDepth 20000 in
theorem gX7_say_X7_has : GoodIn wsX7_say (va_wsS RX7 84 yX7_has wsX7_has) := goodIn_app (goodIn_of _ (by decide +kernel)) ggX7_say_X7_has
set_option maxRecDepth 20000 in
theorem ggX7_say_X7_isSaid : GoodIn wsX7_say wsX7_isSaid := goodIn_r _ [44, 6, 26, 25, 38, 39, 4, 40, 45, 46, 47, 48, 49, 50, 51, 52, 53, 54, 55, 56, 57, 58, 59, 60, 61, 62, 63, 64, 65, 66, 67, 68, 69, 70, 71, 72, 73, 74, 75, 76, 77, 78, 79, 80] (by decide +kernel) (by decide +kernel)
set_option maxRecDepth 20000 in
theorem gX7_say_X7_isSaid : GoodIn wsX7_say (wsV RX7 253 RX7 yX7_isSaid wsX7_isSaid) := goodIn_app (goodIn_of _ (by decide +kernel)) ggX7_say_X7_isSaid
theorem dX7_say_0 : decode cX7_say 0 = .ok (.aload_n 0, 1) := by decide +kernel
theorem dX7_say_1 : decode cX7_say 1 = .ok (.iload_n 1, 1) := by decide +kernel
theorem dX7_say_2 : decode cX7_say 2 = .ok (.invokevirtual 105, 3) := by decide +kernel
theorem dX7_say_5 : decode cX7_say 5 = .ok (.ifCond .eq 11, 3) := by decide +kernel
theorem dX7_say_8 : decode cX7_say 8 = .ok (.aload_n 0, 1) := by decide +kernel
theorem dX7_say_9 : decode cX7_say 9 = .ok (.iload_n 2, 1) := by decide +kernel
theorem dX7_say_10 : decode cX7_say 10 = .ok (.invokevirtual 138, 3) := by decide +kernel
theorem dX7_say_13 : decode cX7_say 13 = .ok (.ifCond .ne 10, 3) := by decide +kernel
theorem dX7_say_16 : decode cX7_say 16 = .ok (.aload_n 0, 1) := by decide +kernel
theorem dX7_say_17 : decode cX7_say 17 = .ok (.bipush (-2), 2) := by decide +kernel
theorem dX7_say_19 : decode cX7_say 19 = .ok (.invokevirtual 94, 3) := by decide +kernel
theorem dX7_say_22 : decode cX7_say 22 = .ok (.ireturn, 1) := by decide +kernel
theorem dX7_say_23 : decode cX7_say 23 = .ok (.aload_n 0, 1) := by decide +kernel
theorem dX7_say_24 : decode cX7_say 24 = .ok (.iload_n 1, 1) := by decide +kernel
theorem dX7_say_25 : decode cX7_say 25 = .ok (.invokevirtual 114, 3) := by decide +kernel
theorem dX7_say_28 : decode cX7_say 28 = .ok (.iload_n 2, 1) := by decide +kernel
theorem dX7_say_29 : decode cX7_say 29 = .ok (.invokestatic 84, 3) := by decide +kernel
theorem dX7_say_32 : decode cX7_say 32 = .ok (.ifCond .eq 14, 3) := by decide +kernel
theorem dX7_say_35 : decode cX7_say 35 = .ok (.aload_n 0, 1) := by decide +kernel
theorem dX7_say_36 : decode cX7_say 36 = .ok (.iload_n 1, 1) := by decide +kernel
theorem dX7_say_37 : decode cX7_say 37 = .ok (.iconst 1, 1) := by decide +kernel
theorem dX7_say_38 : decode cX7_say 38 = .ok (.iload_n 2, 1) := by decide +kernel
theorem dX7_say_39 : decode cX7_say 39 = .ok (.ishl, 1) := by decide +kernel
theorem dX7_say_40 : decode cX7_say 40 = .ok (.invokevirtual 253, 3) := by decide +kernel
theorem dX7_say_43 : decode cX7_say 43 = .ok (.goto 9, 3) := by decide +kernel
theorem dX7_say_46 : decode cX7_say 46 = .ok (.aload_n 0, 1) := by decide +kernel
theorem dX7_say_47 : decode cX7_say 47 = .ok (.bipush (-5), 2) := by decide +kernel
theorem dX7_say_49 : decode cX7_say 49 = .ok (.invokevirtual 94, 3) := by decide +kernel
theorem dX7_say_52 : decode cX7_say 52 = .ok (.ireturn, 1) := by decide +kernel
set_option maxRecDepth 20000 in
theorem ggX7_sign_X7_isOne : GoodIn wsX7_sign wsX7_isOne := goodIn_r _ [8, 9, 10, 11, 7, 12, 26, 27, 28, 29, 30, 31, 32, 33, 34, 35, 36, 37, 38, 39, 40, 41, 42, 43, 44, 45, 46, 47, 48, 49, 50, 51, 52, 53, 54, 55, 56, 57, 58] (by decide +kernel) (by decide +kernel)
set_option maxRecDepth 20000 in
theorem gX7_sign_X7_isOne : GoodIn wsX7_sign (wsV RX7 105 RX7 yX7_isOne wsX7_isOne) := goodIn_app (goodIn_of _ (by decide +kernel)) ggX7_sign_X7_isOne
set_option maxRecDepth 20000 in
theorem ggX7_sign_X7_isSight : GoodIn wsX7_sign wsX7_isSight := goodIn_r _ [16, 17, 10, 11, 7, 12, 26, 27, 28, 29, 30, 31, 32, 33, 34, 35, 36, 37, 38, 39, 40, 41, 42, 43, 44, 45, 46, 47, 48, 49, 50, 51, 52, 53, 54, 55, 56, 57, 58] (by decide +kernel) (by decide +kernel)
set_option maxRecDepth 20000 in
theorem gX7_sign_X7_isSight : GoodIn wsX7_sign (wsV RX7 138 RX7 yX7_isSight wsX7_isSight) := goodIn_app (goodIn_of _ (by decide +kernel)) ggX7_sign_X7_isSight
set_option maxRecDepth 20000 in
theorem ggX7_sign_X7_refuse : GoodIn wsX7_sign wsX7_refuse := goodIn_r _ [21, 22, 26, 27, 28, 29, 30, 31, 32, 33, 34, 35, 36, 37, 38, 39, 40, 41, 42, 43, 44, 45, 46, 47, 48, 49, 50, 51, 52, 53, 54, 55, 56, 57, 58] (by decide +kernel) (by decide +kernel)
set_option maxRecDepth 20000 in
theorem gX7_sign_X7_refuse : GoodIn wsX7_sign (wsV RX7 94 RX7 yX7_refuse wsX7_refuse) := goodIn_app (goodIn_of _ (by decide +kernel)) ggX7_sign_X7_refuse
set_option maxRecDepth 20000 in
theorem ggX7_sign_X7_has : GoodIn wsX7_sign wsX7_has := goodIn_r _ [25] (by decide +kernel) (by decide +kernel)
set_option maxRecDepth 20000 in
theorem gX7_sign_X7_has : GoodIn wsX7_sign (va_wsS RX7 84 yX7_has wsX7_has) := goodIn_app (goodIn_of _ (by decide +kernel)) ggX7_sign_X7_has
theorem dX7_sign_0 : decode cX7_sign 0 = .ok (.aload_n 0, 1) := by decide +kernel
theorem dX7_sign_1 : decode cX7_sign 1 = .ok (.iload_n 1, 1) := by decide +kernel
theorem dX7_sign_2 : decode cX7_sign 2 = .ok (.invokevirtual 105, 3) := by decide +kernel
theorem dX7_sign_5 : decode cX7_sign 5 = .ok (.ifCond .eq 19, 3) := by decide +kernel
theorem dX7_sign_8 : decode cX7_sign 8 = .ok (.aload_n 0, 1) := by decide +kernel
theorem dX7_sign_9 : decode cX7_sign 9 = .ok (.iload_n 2, 1) := by decide +kernel
theorem dX7_sign_10 : decode cX7_sign 10 = .ok (.invokevirtual 105, 3) := by decide +kernel
theorem dX7_sign_13 : decode cX7_sign 13 = .ok (.ifCond .eq 11, 3) := by decide +kernel
theorem dX7_sign_16 : decode cX7_sign 16 = .ok (.aload_n 0, 1) := by decide +kernel
theorem dX7_sign_17 : decode cX7_sign 17 = .ok (.iload_n 3, 1) := by decide +kernel
theorem dX7_sign_18 : decode cX7_sign 18 = .ok (.invokevirtual 138, 3) := by decide +kernel
theorem dX7_sign_21 : decode cX7_sign 21 = .ok (.ifCond .ne 10, 3) := by decide +kernel
theorem dX7_sign_24 : decode cX7_sign 24 = .ok (.aload_n 0, 1) := by decide +kernel
theorem dX7_sign_25 : decode cX7_sign 25 = .ok (.bipush (-2), 2) := by decide +kernel
theorem dX7_sign_27 : decode cX7_sign 27 = .ok (.invokevirtual 94, 3) := by decide +kernel
theorem dX7_sign_30 : decode cX7_sign 30 = .ok (.ireturn, 1) := by decide +kernel
theorem dX7_sign_31 : decode cX7_sign 31 = .ok (.aload_n 0, 1) := by decide +kernel
theorem dX7_sign_32 : decode cX7_sign 32 = .ok (.getfield 47, 3) := by decide +kernel
theorem dX7_sign_35 : decode cX7_sign 35 = .ok (.iload_n 1, 1) := by decide +kernel
theorem dX7_sign_36 : decode cX7_sign 36 = .ok (.iaload, 1) := by decide +kernel
theorem dX7_sign_37 : decode cX7_sign 37 = .ok (.iload_n 3, 1) := by decide +kernel
theorem dX7_sign_38 : decode cX7_sign 38 = .ok (.invokestatic 84, 3) := by decide +kernel
theorem dX7_sign_41 : decode cX7_sign 41 = .ok (.ifCond .eq 16, 3) := by decide +kernel
theorem dX7_sign_44 : decode cX7_sign 44 = .ok (.aload_n 0, 1) := by decide +kernel
theorem dX7_sign_45 : decode cX7_sign 45 = .ok (.getfield 56, 3) := by decide +kernel
theorem dX7_sign_48 : decode cX7_sign 48 = .ok (.iload_n 2, 1) := by decide +kernel
theorem dX7_sign_49 : decode cX7_sign 49 = .ok (.iaload, 1) := by decide +kernel
theorem dX7_sign_50 : decode cX7_sign 50 = .ok (.iload_n 1, 1) := by decide +kernel
theorem dX7_sign_51 : decode cX7_sign 51 = .ok (.invokestatic 84, 3) := by decide +kernel
theorem dX7_sign_54 : decode cX7_sign 54 = .ok (.ifCond .ne 10, 3) := by decide +kernel
theorem dX7_sign_57 : decode cX7_sign 57 = .ok (.aload_n 0, 1) := by decide +kernel
theorem dX7_sign_58 : decode cX7_sign 58 = .ok (.bipush (-5), 2) := by decide +kernel
theorem dX7_sign_60 : decode cX7_sign 60 = .ok (.invokevirtual 94, 3) := by decide +kernel
theorem dX7_sign_63 : decode cX7_sign 63 = .ok (.ireturn, 1) := by decide +kernel
theorem dX7_sign_64 : decode cX7_sign 64 = .ok (.aload_n 0, 1) := by decide +kernel
theorem dX7_sign_65 : decode cX7_sign 65 = .ok (.getfield 53, 3) := by decide +kernel
theorem dX7_sign_68 : decode cX7_sign 68 = .ok (.iload_n 2, 1) := by decide +kernel
theorem dX7_sign_69 : decode cX7_sign 69 = .ok (.iaload, 1) := by decide +kernel
theorem dX7_sign_70 : decode cX7_sign 70 = .ok (.iload_n 3, 1) := by decide +kernel
theorem dX7_sign_71 : decode cX7_sign 71 = .ok (.invokestatic 84, 3) := by decide +kernel
theorem dX7_sign_74 : decode cX7_sign 74 = .ok (.ifCond .eq 7, 3) := by decide +kernel
theorem dX7_sign_77 : decode cX7_sign 77 = .ok (.iconst 1, 1) := by decide +kernel
theorem dX7_sign_78 : decode cX7_sign 78 = .ok (.goto 4, 3) := by decide +kernel
theorem dX7_sign_81 : decode cX7_sign 81 = .ok (.iconst 0, 1) := by decide +kernel
theorem dX7_sign_82 : decode cX7_sign 82 = .ok (.istore 4, 2) := by decide +kernel
theorem dX7_sign_84 : decode cX7_sign 84 = .ok (.aload_n 0, 1) := by decide +kernel
theorem dX7_sign_85 : decode cX7_sign 85 = .ok (.getfield 53, 3) := by decide +kernel
theorem dX7_sign_88 : decode cX7_sign 88 = .ok (.iload_n 2, 1) := by decide +kernel
theorem dX7_sign_89 : decode cX7_sign 89 = .ok (.dup2, 1) := by decide +kernel
theorem dX7_sign_90 : decode cX7_sign 90 = .ok (.iaload, 1) := by decide +kernel
theorem dX7_sign_91 : decode cX7_sign 91 = .ok (.iconst 1, 1) := by decide +kernel
theorem dX7_sign_92 : decode cX7_sign 92 = .ok (.iload_n 3, 1) := by decide +kernel
theorem dX7_sign_93 : decode cX7_sign 93 = .ok (.ishl, 1) := by decide +kernel
theorem dX7_sign_94 : decode cX7_sign 94 = .ok (.ior, 1) := by decide +kernel
theorem dX7_sign_95 : decode cX7_sign 95 = .ok (.iastore, 1) := by decide +kernel
theorem dX7_sign_96 : decode cX7_sign 96 = .ok (.iconst 1, 1) := by decide +kernel
theorem dX7_sign_97 : decode cX7_sign 97 = .ok (.iload 4, 2) := by decide +kernel
theorem dX7_sign_99 : decode cX7_sign 99 = .ok (.isub, 1) := by decide +kernel
theorem dX7_sign_100 : decode cX7_sign 100 = .ok (.ireturn, 1) := by decide +kernel
set_option maxRecDepth 20000 in
theorem ggX7_knownNow_X7_knows : GoodIn wsX7_knownNow wsX7_knows := goodIn_r _ [6, 7, 8, 9, 13, 14, 15, 16, 17, 18, 19, 20, 21, 22, 23, 24, 25, 26, 27, 28, 29, 30, 31, 32, 33, 34, 35, 36, 37, 38, 39, 40, 41, 42, 43, 44, 45] (by decide +kernel) (by decide +kernel)
set_option maxRecDepth 20000 in
theorem gX7_knownNow_X7_knows : GoodIn wsX7_knownNow (wsV RX7 247 RX7 yX7_knows wsX7_knows) := goodIn_app (goodIn_of _ (by decide +kernel)) ggX7_knownNow_X7_knows
set_option maxRecDepth 20000 in
theorem ggX7_knownNow_X7_bits : GoodIn wsX7_knownNow wsX7_bits := goodIn_r _ [12] (by decide +kernel) (by decide +kernel)
set_option maxRecDepth 20000 in
theorem gX7_knownNow_X7_bits : GoodIn wsX7_knownNow (va_wsS RX7 117 yX7_bits wsX7_bits) := goodIn_app (goodIn_of _ (by decide +kernel)) ggX7_knownNow_X7_bits
theorem dX7_knownNow_0 : decode cX7_knownNow 0 = .ok (.iconst 0, 1) := by decide +kernel
theorem dX7_knownNow_1 : decode cX7_knownNow 1 = .ok (.istore_n 1, 1) := by decide +kernel
theorem dX7_knownNow_2 : decode cX7_knownNow 2 = .ok (.iconst 0, 1) := by decide +kernel
theorem dX7_knownNow_3 : decode cX7_knownNow 3 = .ok (.istore_n 2, 1) := by decide +kernel
theorem dX7_knownNow_4 : decode cX7_knownNow 4 = .ok (.iload_n 2, 1) := by decide +kernel
theorem dX7_knownNow_5 : decode cX7_knownNow 5 = .ok (.aload_n 0, 1) := by decide +kernel
theorem dX7_knownNow_6 : decode cX7_knownNow 6 = .ok (.getfield 77, 3) := by decide +kernel
theorem dX7_knownNow_9 : decode cX7_knownNow 9 = .ok (.if_icmp .ge 20, 3) := by decide +kernel
theorem dX7_knownNow_12 : decode cX7_knownNow 12 = .ok (.iload_n 1, 1) := by decide +kernel
theorem dX7_knownNow_13 : decode cX7_knownNow 13 = .ok (.aload_n 0, 1) := by decide +kernel
theorem dX7_knownNow_14 : decode cX7_knownNow 14 = .ok (.iload_n 2, 1) := by decide +kernel
theorem dX7_knownNow_15 : decode cX7_knownNow 15 = .ok (.invokevirtual 247, 3) := by decide +kernel
theorem dX7_knownNow_18 : decode cX7_knownNow 18 = .ok (.invokestatic 117, 3) := by decide +kernel
theorem dX7_knownNow_21 : decode cX7_knownNow 21 = .ok (.iadd, 1) := by decide +kernel
theorem dX7_knownNow_22 : decode cX7_knownNow 22 = .ok (.istore_n 1, 1) := by decide +kernel
theorem dX7_knownNow_23 : decode cX7_knownNow 23 = .ok (.iinc 2 1, 3) := by decide +kernel
theorem dX7_knownNow_26 : decode cX7_knownNow 26 = .ok (.goto (-22), 3) := by decide +kernel
theorem dX7_knownNow_29 : decode cX7_knownNow 29 = .ok (.iload_n 1, 1) := by decide +kernel
theorem dX7_knownNow_30 : decode cX7_knownNow 30 = .ok (.ireturn, 1) := by decide +kernel
set_option maxRecDepth 20000 in
theorem ggX7_known_X7_knownNow : GoodIn wsX7_known wsX7_knownNow := goodIn_r _ [5, 6, 7, 8, 9, 4, 10, 11, 12, 13, 14, 15, 16, 17, 18, 19, 20, 21, 22, 23, 24, 25, 26, 27, 28, 29, 30, 31, 32, 33, 34, 35, 36, 37, 38, 39, 40, 41, 42, 43, 44, 45, 46, 47, 48, 49] (by decide +kernel) (by decide +kernel)
set_option maxRecDepth 20000 in
theorem gX7_known_X7_knownNow : GoodIn wsX7_known (wsV RX7 257 RX7 yX7_knownNow wsX7_knownNow) := goodIn_app (goodIn_of _ (by decide +kernel)) ggX7_known_X7_knownNow
theorem dX7_known_0 : decode cX7_known 0 = .ok (.aload_n 0, 1) := by decide +kernel
theorem dX7_known_1 : decode cX7_known 1 = .ok (.invokevirtual 257, 3) := by decide +kernel
theorem dX7_known_4 : decode cX7_known 4 = .ok (.ireturn, 1) := by decide +kernel
set_option maxRecDepth 20000 in
theorem ggX7_goesRound_X7_mayOf : GoodIn wsX7_goesRound wsX7_mayOf := goodIn_r _ [12, 13, 7, 1, 5, 6, 3, 4, 14, 15, 16, 11, 17, 18, 19, 20, 21, 22, 23, 24, 25, 33, 34, 35, 36, 37, 38, 39, 40, 41, 42, 43, 44, 45, 46, 47, 48, 49, 50, 51, 52, 53, 54, 55, 56, 57, 58, 59, 60, 61, 62, 63, 64, 65] (by decide +kernel) (by decide +kernel)
set_option maxRecDepth 20000 in
theorem gX7_goesRound_X7_mayOf : GoodIn wsX7_goesRound (wsV RX7 114 RX7 yX7_mayOf wsX7_mayOf) := goodIn_app (goodIn_of _ (by decide +kernel)) ggX7_goesRound_X7_mayOf
set_option maxRecDepth 20000 in
theorem ggX7_goesRound_X7_isSaid : GoodIn wsX7_goesRound wsX7_isSaid := goodIn_r _ [29, 1, 5, 7, 23, 24, 11, 25, 30, 31, 32, 33, 34, 35, 36, 37, 38, 39, 40, 41, 42, 43, 44, 45, 46, 47, 48, 49, 50, 51, 52, 53, 54, 55, 56, 57, 58, 59, 60, 61, 62, 63, 64, 65] (by decide +kernel) (by decide +kernel)
set_option maxRecDepth 20000 in
theorem gX7_goesRound_X7_isSaid : GoodIn wsX7_goesRound (wsV RX7 253 RX7 yX7_isSaid wsX7_isSaid) := goodIn_app (goodIn_of _ (by decide +kernel)) ggX7_goesRound_X7_isSaid
set_option maxRecDepth 20000 in
theorem ggX7_goesRound_X7_has : GoodIn wsX7_goesRound wsX7_has := goodIn_r _ [25] (by decide +kernel) (by decide +kernel)
set_option maxRecDepth 20000 in
theorem gX7_goesRound_X7_has : GoodIn wsX7_goesRound (va_wsS RX7 84 yX7_has wsX7_has) := goodIn_app (goodIn_of _ (by decide +kernel)) ggX7_goesRound_X7_has
theorem dX7_goesRound_0 : decode cX7_goesRound 0 = .ok (.iconst 0, 1) := by decide +kernel
theorem dX7_goesRound_1 : decode cX7_goesRound 1 = .ok (.istore_n 1, 1) := by decide +kernel
theorem dX7_goesRound_2 : decode cX7_goesRound 2 = .ok (.iconst 0, 1) := by decide +kernel
theorem dX7_goesRound_3 : decode cX7_goesRound 3 = .ok (.istore_n 2, 1) := by decide +kernel
theorem dX7_goesRound_4 : decode cX7_goesRound 4 = .ok (.iload_n 2, 1) := by decide +kernel
theorem dX7_goesRound_5 : decode cX7_goesRound 5 = .ok (.aload_n 0, 1) := by decide +kernel
theorem dX7_goesRound_6 : decode cX7_goesRound 6 = .ok (.getfield 77, 3) := by decide +kernel
theorem dX7_goesRound_9 : decode cX7_goesRound 9 = .ok (.if_icmp .ge 20, 3) := by decide +kernel
theorem dX7_goesRound_12 : decode cX7_goesRound 12 = .ok (.aload_n 0, 1) := by decide +kernel
theorem dX7_goesRound_13 : decode cX7_goesRound 13 = .ok (.getfield 68, 3) := by decide +kernel
theorem dX7_goesRound_16 : decode cX7_goesRound 16 = .ok (.iload_n 2, 1) := by decide +kernel
theorem dX7_goesRound_17 : decode cX7_goesRound 17 = .ok (.aload_n 0, 1) := by decide +kernel
theorem dX7_goesRound_18 : decode cX7_goesRound 18 = .ok (.iload_n 2, 1) := by decide +kernel
theorem dX7_goesRound_19 : decode cX7_goesRound 19 = .ok (.invokevirtual 114, 3) := by decide +kernel
theorem dX7_goesRound_22 : decode cX7_goesRound 22 = .ok (.iastore, 1) := by decide +kernel
theorem dX7_goesRound_23 : decode cX7_goesRound 23 = .ok (.iinc 2 1, 3) := by decide +kernel
theorem dX7_goesRound_26 : decode cX7_goesRound 26 = .ok (.goto (-22), 3) := by decide +kernel
theorem dX7_goesRound_29 : decode cX7_goesRound 29 = .ok (.iconst 0, 1) := by decide +kernel
theorem dX7_goesRound_30 : decode cX7_goesRound 30 = .ok (.istore_n 2, 1) := by decide +kernel
theorem dX7_goesRound_31 : decode cX7_goesRound 31 = .ok (.iload_n 2, 1) := by decide +kernel
theorem dX7_goesRound_32 : decode cX7_goesRound 32 = .ok (.aload_n 0, 1) := by decide +kernel
theorem dX7_goesRound_33 : decode cX7_goesRound 33 = .ok (.getfield 77, 3) := by decide +kernel
theorem dX7_goesRound_36 : decode cX7_goesRound 36 = .ok (.if_icmp .ge 31, 3) := by decide +kernel
theorem dX7_goesRound_39 : decode cX7_goesRound 39 = .ok (.iload_n 1, 1) := by decide +kernel
theorem dX7_goesRound_40 : decode cX7_goesRound 40 = .ok (.aload_n 0, 1) := by decide +kernel
theorem dX7_goesRound_41 : decode cX7_goesRound 41 = .ok (.iload_n 2, 1) := by decide +kernel
theorem dX7_goesRound_42 : decode cX7_goesRound 42 = .ok (.aload_n 0, 1) := by decide +kernel
theorem dX7_goesRound_43 : decode cX7_goesRound 43 = .ok (.getfield 68, 3) := by decide +kernel
theorem dX7_goesRound_46 : decode cX7_goesRound 46 = .ok (.iload_n 2, 1) := by decide +kernel
theorem dX7_goesRound_47 : decode cX7_goesRound 47 = .ok (.iaload, 1) := by decide +kernel
theorem dX7_goesRound_48 : decode cX7_goesRound 48 = .ok (.invokevirtual 253, 3) := by decide +kernel
theorem dX7_goesRound_51 : decode cX7_goesRound 51 = .ok (.ifCond .le 7, 3) := by decide +kernel
theorem dX7_goesRound_54 : decode cX7_goesRound 54 = .ok (.iconst 1, 1) := by decide +kernel
theorem dX7_goesRound_55 : decode cX7_goesRound 55 = .ok (.goto 4, 3) := by decide +kernel
theorem dX7_goesRound_58 : decode cX7_goesRound 58 = .ok (.iconst 0, 1) := by decide +kernel
theorem dX7_goesRound_59 : decode cX7_goesRound 59 = .ok (.ior, 1) := by decide +kernel
theorem dX7_goesRound_60 : decode cX7_goesRound 60 = .ok (.istore_n 1, 1) := by decide +kernel
theorem dX7_goesRound_61 : decode cX7_goesRound 61 = .ok (.iinc 2 1, 3) := by decide +kernel
theorem dX7_goesRound_64 : decode cX7_goesRound 64 = .ok (.goto (-33), 3) := by decide +kernel
theorem dX7_goesRound_67 : decode cX7_goesRound 67 = .ok (.aload_n 0, 1) := by decide +kernel
theorem dX7_goesRound_68 : decode cX7_goesRound 68 = .ok (.getfield 59, 3) := by decide +kernel
theorem dX7_goesRound_71 : decode cX7_goesRound 71 = .ok (.iconst 1, 1) := by decide +kernel
theorem dX7_goesRound_72 : decode cX7_goesRound 72 = .ok (.iaload, 1) := by decide +kernel
theorem dX7_goesRound_73 : decode cX7_goesRound 73 = .ok (.istore_n 2, 1) := by decide +kernel
theorem dX7_goesRound_74 : decode cX7_goesRound 74 = .ok (.iconst 0, 1) := by decide +kernel
theorem dX7_goesRound_75 : decode cX7_goesRound 75 = .ok (.istore_n 3, 1) := by decide +kernel
theorem dX7_goesRound_76 : decode cX7_goesRound 76 = .ok (.iload_n 3, 1) := by decide +kernel
theorem dX7_goesRound_77 : decode cX7_goesRound 77 = .ok (.aload_n 0, 1) := by decide +kernel
theorem dX7_goesRound_78 : decode cX7_goesRound 78 = .ok (.getfield 77, 3) := by decide +kernel
theorem dX7_goesRound_81 : decode cX7_goesRound 81 = .ok (.if_icmp .ge 111, 3) := by decide +kernel
theorem dX7_goesRound_84 : decode cX7_goesRound 84 = .ok (.iconst 0, 1) := by decide +kernel
theorem dX7_goesRound_85 : decode cX7_goesRound 85 = .ok (.istore 4, 2) := by decide +kernel
theorem dX7_goesRound_87 : decode cX7_goesRound 87 = .ok (.iload 4, 2) := by decide +kernel
theorem dX7_goesRound_89 : decode cX7_goesRound 89 = .ok (.aload_n 0, 1) := by decide +kernel
theorem dX7_goesRound_90 : decode cX7_goesRound 90 = .ok (.getfield 77, 3) := by decide +kernel
theorem dX7_goesRound_93 : decode cX7_goesRound 93 = .ok (.if_icmp .ge 93, 3) := by decide +kernel
theorem dX7_goesRound_96 : decode cX7_goesRound 96 = .ok (.iconst 0, 1) := by decide +kernel
theorem dX7_goesRound_97 : decode cX7_goesRound 97 = .ok (.istore 5, 2) := by decide +kernel
theorem dX7_goesRound_99 : decode cX7_goesRound 99 = .ok (.iload 5, 2) := by decide +kernel
theorem dX7_goesRound_101 : decode cX7_goesRound 101 = .ok (.aload_n 0, 1) := by decide +kernel
theorem dX7_goesRound_102 : decode cX7_goesRound 102 = .ok (.getfield 37, 3) := by decide +kernel
theorem dX7_goesRound_105 : decode cX7_goesRound 105 = .ok (.if_icmp .ge 75, 3) := by decide +kernel
theorem dX7_goesRound_108 : decode cX7_goesRound 108 = .ok (.aload_n 0, 1) := by decide +kernel
theorem dX7_goesRound_109 : decode cX7_goesRound 109 = .ok (.getfield 56, 3) := by decide +kernel
theorem dX7_goesRound_112 : decode cX7_goesRound 112 = .ok (.iload 4, 2) := by decide +kernel
theorem dX7_goesRound_114 : decode cX7_goesRound 114 = .ok (.iaload, 1) := by decide +kernel
theorem dX7_goesRound_115 : decode cX7_goesRound 115 = .ok (.iload_n 3, 1) := by decide +kernel
theorem dX7_goesRound_116 : decode cX7_goesRound 116 = .ok (.invokestatic 84, 3) := by decide +kernel
theorem dX7_goesRound_119 : decode cX7_goesRound 119 = .ok (.ifCond .eq 61, 3) := by decide +kernel
theorem dX7_goesRound_122 : decode cX7_goesRound 122 = .ok (.iload_n 2, 1) := by decide +kernel
theorem dX7_goesRound_123 : decode cX7_goesRound 123 = .ok (.ifCond .le 51, 3) := by decide +kernel
theorem dX7_goesRound_126 : decode cX7_goesRound 126 = .ok (.aload_n 0, 1) := by decide +kernel
theorem dX7_goesRound_127 : decode cX7_goesRound 127 = .ok (.getfield 47, 3) := by decide +kernel
theorem dX7_goesRound_130 : decode cX7_goesRound 130 = .ok (.iload_n 3, 1) := by decide +kernel
theorem dX7_goesRound_131 : decode cX7_goesRound 131 = .ok (.iaload, 1) := by decide +kernel
theorem dX7_goesRound_132 : decode cX7_goesRound 132 = .ok (.iload 5, 2) := by decide +kernel
theorem dX7_goesRound_134 : decode cX7_goesRound 134 = .ok (.invokestatic 84, 3) := by decide +kernel
theorem dX7_goesRound_137 : decode cX7_goesRound 137 = .ok (.ifCond .eq 37, 3) := by decide +kernel
theorem dX7_goesRound_140 : decode cX7_goesRound 140 = .ok (.aload_n 0, 1) := by decide +kernel
theorem dX7_goesRound_141 : decode cX7_goesRound 141 = .ok (.getfield 53, 3) := by decide +kernel
theorem dX7_goesRound_144 : decode cX7_goesRound 144 = .ok (.iload 4, 2) := by decide +kernel
theorem dX7_goesRound_146 : decode cX7_goesRound 146 = .ok (.iaload, 1) := by decide +kernel
theorem dX7_goesRound_147 : decode cX7_goesRound 147 = .ok (.iload 5, 2) := by decide +kernel
theorem dX7_goesRound_149 : decode cX7_goesRound 149 = .ok (.invokestatic 84, 3) := by decide +kernel
theorem dX7_goesRound_152 : decode cX7_goesRound 152 = .ok (.ifCond .ne 22, 3) := by decide +kernel
theorem dX7_goesRound_155 : decode cX7_goesRound 155 = .ok (.aload_n 0, 1) := by decide +kernel
theorem dX7_goesRound_156 : decode cX7_goesRound 156 = .ok (.getfield 53, 3) := by decide +kernel
theorem dX7_goesRound_159 : decode cX7_goesRound 159 = .ok (.iload 4, 2) := by decide +kernel
theorem dX7_goesRound_161 : decode cX7_goesRound 161 = .ok (.dup2, 1) := by decide +kernel
theorem dX7_goesRound_162 : decode cX7_goesRound 162 = .ok (.iaload, 1) := by decide +kernel
theorem dX7_goesRound_163 : decode cX7_goesRound 163 = .ok (.iconst 1, 1) := by decide +kernel
theorem dX7_goesRound_164 : decode cX7_goesRound 164 = .ok (.iload 5, 2) := by decide +kernel
theorem dX7_goesRound_166 : decode cX7_goesRound 166 = .ok (.ishl, 1) := by decide +kernel
theorem dX7_goesRound_167 : decode cX7_goesRound 167 = .ok (.ior, 1) := by decide +kernel
theorem dX7_goesRound_168 : decode cX7_goesRound 168 = .ok (.iastore, 1) := by decide +kernel
theorem dX7_goesRound_169 : decode cX7_goesRound 169 = .ok (.iinc 2 (-1), 3) := by decide +kernel
theorem dX7_goesRound_172 : decode cX7_goesRound 172 = .ok (.iconst 1, 1) := by decide +kernel
theorem dX7_goesRound_173 : decode cX7_goesRound 173 = .ok (.istore_n 1, 1) := by decide +kernel
theorem dX7_goesRound_174 : decode cX7_goesRound 174 = .ok (.iinc 5 1, 3) := by decide +kernel
theorem dX7_goesRound_177 : decode cX7_goesRound 177 = .ok (.goto (-78), 3) := by decide +kernel
theorem dX7_goesRound_180 : decode cX7_goesRound 180 = .ok (.iinc 4 1, 3) := by decide +kernel
theorem dX7_goesRound_183 : decode cX7_goesRound 183 = .ok (.goto (-96), 3) := by decide +kernel
theorem dX7_goesRound_186 : decode cX7_goesRound 186 = .ok (.iinc 3 1, 3) := by decide +kernel
theorem dX7_goesRound_189 : decode cX7_goesRound 189 = .ok (.goto (-113), 3) := by decide +kernel
theorem dX7_goesRound_192 : decode cX7_goesRound 192 = .ok (.iload_n 1, 1) := by decide +kernel
theorem dX7_goesRound_193 : decode cX7_goesRound 193 = .ok (.ireturn, 1) := by decide +kernel
set_option maxRecDepth 20000 in
theorem ggX7_isRounds_X7_in : GoodIn wsX7_isRounds wsX7_in := goodIn_r _ [5] (by decide +kernel) (by decide +kernel)
set_option maxRecDepth 20000 in
theorem gX7_isRounds_X7_in : GoodIn wsX7_isRounds (va_wsS RX7 80 yX7_in wsX7_in) := goodIn_app (goodIn_of _ (by decide +kernel)) ggX7_isRounds_X7_in
theorem dX7_isRounds_0 : decode cX7_isRounds 0 = .ok (.iload_n 0, 1) := by decide +kernel
theorem dX7_isRounds_1 : decode cX7_isRounds 1 = .ok (.i2l, 1) := by decide +kernel
theorem dX7_isRounds_2 : decode cX7_isRounds 2 = .ok (.lconst 0, 1) := by decide +kernel
theorem dX7_isRounds_3 : decode cX7_isRounds 3 = .ok (.ldc2_w 260, 3) := by decide +kernel
theorem dX7_isRounds_6 : decode cX7_isRounds 6 = .ok (.invokestatic 80, 3) := by decide +kernel
theorem dX7_isRounds_9 : decode cX7_isRounds 9 = .ok (.ireturn, 1) := by decide +kernel
set_option maxRecDepth 20000 in
theorem ggX7_after_X7_fresh : GoodIn wsX7_after wsX7_fresh := goodIn_r _ [5, 6, 7, 8, 4, 9, 10, 11, 12, 13, 14, 15, 16, 17, 18, 19, 20, 21, 22, 23, 24, 25, 26, 27, 28, 29, 30, 31, 32, 33, 34, 35, 36, 37, 38, 39, 40, 41, 42, 43, 44, 45, 46, 47, 74, 75, 76, 77, 78, 79, 80, 81, 82, 83, 84, 85, 86, 87, 88, 89, 90, 91, 92, 93, 94, 95, 96, 97, 98, 99, 100, 101, 102, 103, 104, 105, 106] (by decide +kernel) (by decide +kernel)
set_option maxRecDepth 20000 in
theorem gX7_after_X7_fresh : GoodIn wsX7_after (wsV RX7 236 RX7 yX7_fresh wsX7_fresh) := goodIn_app (goodIn_of _ (by decide +kernel)) ggX7_after_X7_fresh
set_option maxRecDepth 20000 in
theorem ggX7_after_X7_goesRound : GoodIn wsX7_after wsX7_goesRound := goodIn_r _ [51, 43, 36, 33, 26, 32, 29, 31, 52, 53, 54, 4, 55, 27, 56, 57, 58, 59, 30, 60, 61, 62, 63, 64, 65, 66, 67, 68, 69, 70, 71, 72, 73, 74, 75, 76, 77, 78, 79, 80, 81, 82, 83, 84, 85, 86, 87, 88, 89, 90, 91, 92, 93, 94, 95, 96, 97, 98, 99, 100, 101, 102, 103, 104, 105, 106] (by decide +kernel) (by decide +kernel)
set_option maxRecDepth 20000 in
theorem gX7_after_X7_goesRound : GoodIn wsX7_after (wsV RX7 262 RX7 yX7_goesRound wsX7_goesRound) := goodIn_app (goodIn_of _ (by decide +kernel)) ggX7_after_X7_goesRound
theorem dX7_after_0 : decode cX7_after 0 = .ok (.aload_n 0, 1) := by decide +kernel
theorem dX7_after_1 : decode cX7_after 1 = .ok (.invokevirtual 236, 3) := by decide +kernel
theorem dX7_after_4 : decode cX7_after 4 = .ok (.astore_n 2, 1) := by decide +kernel
theorem dX7_after_5 : decode cX7_after 5 = .ok (.iconst 0, 1) := by decide +kernel
theorem dX7_after_6 : decode cX7_after 6 = .ok (.istore_n 3, 1) := by decide +kernel
theorem dX7_after_7 : decode cX7_after 7 = .ok (.iload_n 3, 1) := by decide +kernel
theorem dX7_after_8 : decode cX7_after 8 = .ok (.iload_n 1, 1) := by decide +kernel
theorem dX7_after_9 : decode cX7_after 9 = .ok (.if_icmp .ge 14, 3) := by decide +kernel
theorem dX7_after_12 : decode cX7_after 12 = .ok (.aload_n 2, 1) := by decide +kernel
theorem dX7_after_13 : decode cX7_after 13 = .ok (.invokevirtual 262, 3) := by decide +kernel
theorem dX7_after_16 : decode cX7_after 16 = .ok (.pop, 1) := by decide +kernel
theorem dX7_after_17 : decode cX7_after 17 = .ok (.iinc 3 1, 3) := by decide +kernel
theorem dX7_after_20 : decode cX7_after 20 = .ok (.goto (-13), 3) := by decide +kernel
theorem dX7_after_23 : decode cX7_after 23 = .ok (.aload_n 2, 1) := by decide +kernel
theorem dX7_after_24 : decode cX7_after 24 = .ok (.areturn, 1) := by decide +kernel
set_option maxRecDepth 20000 in
theorem ggX7_spread_X7_isRounds : GoodIn wsX7_spread wsX7_isRounds := goodIn_r _ [5, 6, 7, 8, 4, 9] (by decide +kernel) (by decide +kernel)
set_option maxRecDepth 20000 in
theorem gX7_spread_X7_isRounds : GoodIn wsX7_spread (va_wsS RX7 265 yX7_isRounds wsX7_isRounds) := goodIn_app (goodIn_of _ (by decide +kernel)) ggX7_spread_X7_isRounds
set_option maxRecDepth 20000 in
theorem ggX7_spread_X7_isOne : GoodIn wsX7_spread wsX7_isOne := goodIn_r _ [13, 14, 7, 8, 4, 9, 93, 94, 95, 96, 97, 98, 99, 100, 101, 102, 103, 104, 105, 106, 107, 108, 109, 110, 111, 112, 113, 114, 115, 116, 117, 118, 119, 120, 121, 122, 123, 124, 125] (by decide +kernel) (by decide +kernel)
set_option maxRecDepth 20000 in
theorem gX7_spread_X7_isOne : GoodIn wsX7_spread (wsV RX7 105 RX7 yX7_isOne wsX7_isOne) := goodIn_app (goodIn_of _ (by decide +kernel)) ggX7_spread_X7_isOne
set_option maxRecDepth 20000 in
theorem ggX7_spread_X7_after : GoodIn wsX7_spread wsX7_after := goodIn_r _ [18, 19, 20, 21, 4, 22, 23, 24, 25, 26, 27, 28, 29, 30, 31, 32, 33, 34, 35, 36, 37, 38, 39, 40, 41, 42, 43, 44, 45, 46, 47, 1, 48, 49, 50, 51, 52, 53, 54, 55, 56, 57, 58, 14, 59, 60, 61, 62, 63, 64, 65, 66, 67, 68, 69, 70, 71, 72, 73, 74, 75, 76, 77, 78, 79, 80, 81, 82, 83, 84, 85, 86, 87, 88, 93, 94, 95, 96, 97, 98, 99, 100, 101, 102, 103, 104, 105, 106, 107, 108, 109, 110, 111, 112, 113, 114, 115, 116, 117, 118, 119, 120, 121, 122, 123, 124, 125] (by decide +kernel) (by decide +kernel)
set_option maxRecDepth 20000 in
theorem gX7_spread_X7_after : GoodIn wsX7_spread (wsV RX7 268 RX7 yX7_after wsX7_after) := goodIn_app (goodIn_of _ (by decide +kernel)) ggX7_spread_X7_after
set_option maxRecDepth 20000 in
theorem ggX7_spread_X7_refuse : GoodIn wsX7_spread wsX7_refuse := goodIn_r _ [92, 42, 93, 94, 95, 96, 97, 98, 99, 100, 101, 102, 103, 104, 105, 106, 107, 108, 109, 110, 111, 112, 113, 114, 115, 116, 117, 118, 119, 120, 121, 122, 123, 124, 125] (by decide +kernel) (by decide +kernel)
set_option maxRecDepth 20000 in
theorem gX7_spread_X7_refuse : GoodIn wsX7_spread (wsV RX7 94 RX7 yX7_refuse wsX7_refuse) := goodIn_app (goodIn_of _ (by decide +kernel)) ggX7_spread_X7_refuse
theorem dX7_spread_0 : decode cX7_spread 0 = .ok (.iload_n 1, 1) := by decide +kernel
theorem dX7_spread_1 : decode cX7_spread 1 = .ok (.invokestatic 265, 3) := by decide +kernel
theorem dX7_spread_4 : decode cX7_spread 4 = .ok (.ifCond .eq 24, 3) := by decide +kernel
theorem dX7_spread_7 : decode cX7_spread 7 = .ok (.aload_n 0, 1) := by decide +kernel
theorem dX7_spread_8 : decode cX7_spread 8 = .ok (.iload_n 2, 1) := by decide +kernel
theorem dX7_spread_9 : decode cX7_spread 9 = .ok (.invokevirtual 105, 3) := by decide +kernel
theorem dX7_spread_12 : decode cX7_spread 12 = .ok (.ifCond .eq 16, 3) := by decide +kernel
theorem dX7_spread_15 : decode cX7_spread 15 = .ok (.aload_n 0, 1) := by decide +kernel
theorem dX7_spread_16 : decode cX7_spread 16 = .ok (.iload_n 1, 1) := by decide +kernel
theorem dX7_spread_17 : decode cX7_spread 17 = .ok (.invokevirtual 268, 3) := by decide +kernel
theorem dX7_spread_20 : decode cX7_spread 20 = .ok (.getfield 53, 3) := by decide +kernel
theorem dX7_spread_23 : decode cX7_spread 23 = .ok (.iload_n 2, 1) := by decide +kernel
theorem dX7_spread_24 : decode cX7_spread 24 = .ok (.iaload, 1) := by decide +kernel
theorem dX7_spread_25 : decode cX7_spread 25 = .ok (.goto 9, 3) := by decide +kernel
theorem dX7_spread_28 : decode cX7_spread 28 = .ok (.aload_n 0, 1) := by decide +kernel
theorem dX7_spread_29 : decode cX7_spread 29 = .ok (.bipush (-2), 2) := by decide +kernel
theorem dX7_spread_31 : decode cX7_spread 31 = .ok (.invokevirtual 94, 3) := by decide +kernel
theorem dX7_spread_34 : decode cX7_spread 34 = .ok (.ireturn, 1) := by decide +kernel
set_option maxRecDepth 20000 in
theorem ggX7_knownBy_X7_isRounds : GoodIn wsX7_knownBy wsX7_isRounds := goodIn_r _ [4, 5, 6, 7, 3, 8] (by decide +kernel) (by decide +kernel)
set_option maxRecDepth 20000 in
theorem gX7_knownBy_X7_isRounds : GoodIn wsX7_knownBy (va_wsS RX7 265 yX7_isRounds wsX7_isRounds) := goodIn_app (goodIn_of _ (by decide +kernel)) ggX7_knownBy_X7_isRounds
set_option maxRecDepth 20000 in
theorem ggX7_knownBy_X7_after : GoodIn wsX7_knownBy wsX7_after := goodIn_r _ [12, 13, 14, 15, 3, 16, 17, 18, 19, 20, 21, 22, 23, 24, 25, 26, 27, 28, 29, 30, 31, 32, 33, 34, 35, 36, 37, 38, 39, 40, 41, 42, 43, 44, 45, 46, 47, 48, 49, 50, 51, 52, 53, 54, 55, 56, 57, 58, 59, 60, 61, 62, 63, 64, 65, 66, 67, 68, 69, 70, 71, 72, 73, 74, 75, 76, 77, 78, 79, 80, 81, 82, 83, 84, 97, 98, 99, 100, 101, 102, 103, 104, 105, 106, 107, 108, 109, 110, 111, 112, 113, 114, 115, 116, 117, 118, 119, 120, 121, 122, 123, 124, 125, 126, 127, 128, 129] (by decide +kernel) (by decide +kernel)
set_option maxRecDepth 20000 in
theorem gX7_knownBy_X7_after : GoodIn wsX7_knownBy (wsV RX7 268 RX7 yX7_after wsX7_after) := goodIn_app (goodIn_of _ (by decide +kernel)) ggX7_knownBy_X7_after
set_option maxRecDepth 20000 in
theorem ggX7_knownBy_X7_knownNow : GoodIn wsX7_knownBy wsX7_knownNow := goodIn_r _ [88, 54, 89, 90, 91, 3, 92, 40, 41, 42, 82, 83, 84, 97, 98, 99, 100, 101, 102, 103, 104, 105, 106, 107, 108, 109, 110, 111, 112, 113, 114, 115, 116, 117, 118, 119, 120, 121, 122, 123, 124, 125, 126, 127, 128, 129] (by decide +kernel) (by decide +kernel)
set_option maxRecDepth 20000 in
theorem gX7_knownBy_X7_knownNow : GoodIn wsX7_knownBy (wsV RX7 257 RX7 yX7_knownNow wsX7_knownNow) := goodIn_app (goodIn_of _ (by decide +kernel)) ggX7_knownBy_X7_knownNow
set_option maxRecDepth 20000 in
theorem ggX7_knownBy_X7_refuse : GoodIn wsX7_knownBy wsX7_refuse := goodIn_r _ [96, 36, 97, 98, 99, 100, 101, 102, 103, 104, 105, 106, 107, 108, 109, 110, 111, 112, 113, 114, 115, 116, 117, 118, 119, 120, 121, 122, 123, 124, 125, 126, 127, 128, 129] (by decide +kernel) (by decide +kernel)
set_option maxRecDepth 20000 in
theorem gX7_knownBy_X7_refuse : GoodIn wsX7_knownBy (wsV RX7 94 RX7 yX7_refuse wsX7_refuse) := goodIn_app (goodIn_of _ (by decide +kernel)) ggX7_knownBy_X7_refuse
theorem dX7_knownBy_0 : decode cX7_knownBy 0 = .ok (.iload_n 1, 1) := by decide +kernel
theorem dX7_knownBy_1 : decode cX7_knownBy 1 = .ok (.invokestatic 265, 3) := by decide +kernel
theorem dX7_knownBy_4 : decode cX7_knownBy 4 = .ok (.ifCond .eq 14, 3) := by decide +kernel
theorem dX7_knownBy_7 : decode cX7_knownBy 7 = .ok (.aload_n 0, 1) := by decide +kernel
theorem dX7_knownBy_8 : decode cX7_knownBy 8 = .ok (.iload_n 1, 1) := by decide +kernel
theorem dX7_knownBy_9 : decode cX7_knownBy 9 = .ok (.invokevirtual 268, 3) := by decide +kernel
theorem dX7_knownBy_12 : decode cX7_knownBy 12 = .ok (.invokevirtual 257, 3) := by decide +kernel
theorem dX7_knownBy_15 : decode cX7_knownBy 15 = .ok (.goto 9, 3) := by decide +kernel
theorem dX7_knownBy_18 : decode cX7_knownBy 18 = .ok (.aload_n 0, 1) := by decide +kernel
theorem dX7_knownBy_19 : decode cX7_knownBy 19 = .ok (.bipush (-2), 2) := by decide +kernel
theorem dX7_knownBy_21 : decode cX7_knownBy 21 = .ok (.invokevirtual 94, 3) := by decide +kernel
theorem dX7_knownBy_24 : decode cX7_knownBy 24 = .ok (.ireturn, 1) := by decide +kernel
set_option maxRecDepth 20000 in
theorem ggX7_rounds_X7_fresh : GoodIn wsX7_rounds wsX7_fresh := goodIn_r _ [5, 6, 7, 8, 4, 9, 10, 11, 12, 13, 14, 15, 16, 17, 18, 19, 20, 21, 22, 23, 24, 25, 26, 27, 28, 29, 30, 31, 32, 33, 34, 35, 36, 37, 38, 39, 40, 41, 42, 43, 44, 45, 46, 47, 74, 75, 76, 77, 78, 79, 80, 81, 82, 83, 84, 85, 86, 87, 88, 89, 90, 91, 92, 93, 94, 95, 96, 97, 98, 99, 100, 101, 102, 103, 104, 105, 106] (by decide +kernel) (by decide +kernel)
set_option maxRecDepth 20000 in
theorem gX7_rounds_X7_fresh : GoodIn wsX7_rounds (wsV RX7 236 RX7 yX7_fresh wsX7_fresh) := goodIn_app (goodIn_of _ (by decide +kernel)) ggX7_rounds_X7_fresh
set_option maxRecDepth 20000 in
theorem ggX7_rounds_X7_goesRound : GoodIn wsX7_rounds wsX7_goesRound := goodIn_r _ [51, 43, 36, 33, 26, 32, 29, 31, 52, 53, 54, 4, 55, 27, 56, 57, 58, 59, 30, 60, 61, 62, 63, 64, 65, 66, 67, 68, 69, 70, 71, 72, 73, 74, 75, 76, 77, 78, 79, 80, 81, 82, 83, 84, 85, 86, 87, 88, 89, 90, 91, 92, 93, 94, 95, 96, 97, 98, 99, 100, 101, 102, 103, 104, 105, 106] (by decide +kernel) (by decide +kernel)
set_option maxRecDepth 20000 in
theorem gX7_rounds_X7_goesRound : GoodIn wsX7_rounds (wsV RX7 262 RX7 yX7_goesRound wsX7_goesRound) := goodIn_app (goodIn_of _ (by decide +kernel)) ggX7_rounds_X7_goesRound
theorem dX7_rounds_0 : decode cX7_rounds 0 = .ok (.aload_n 0, 1) := by decide +kernel
theorem dX7_rounds_1 : decode cX7_rounds 1 = .ok (.invokevirtual 236, 3) := by decide +kernel
theorem dX7_rounds_4 : decode cX7_rounds 4 = .ok (.astore_n 1, 1) := by decide +kernel
theorem dX7_rounds_5 : decode cX7_rounds 5 = .ok (.iconst 0, 1) := by decide +kernel
theorem dX7_rounds_6 : decode cX7_rounds 6 = .ok (.istore_n 2, 1) := by decide +kernel
theorem dX7_rounds_7 : decode cX7_rounds 7 = .ok (.iload_n 2, 1) := by decide +kernel
theorem dX7_rounds_8 : decode cX7_rounds 8 = .ok (.bipush 20, 2) := by decide +kernel
theorem dX7_rounds_10 : decode cX7_rounds 10 = .ok (.if_icmp .ge 16, 3) := by decide +kernel
theorem dX7_rounds_13 : decode cX7_rounds 13 = .ok (.aload_n 1, 1) := by decide +kernel
theorem dX7_rounds_14 : decode cX7_rounds 14 = .ok (.invokevirtual 262, 3) := by decide +kernel
theorem dX7_rounds_17 : decode cX7_rounds 17 = .ok (.ifCond .eq 9, 3) := by decide +kernel
theorem dX7_rounds_20 : decode cX7_rounds 20 = .ok (.iinc 2 1, 3) := by decide +kernel
theorem dX7_rounds_23 : decode cX7_rounds 23 = .ok (.goto (-16), 3) := by decide +kernel
theorem dX7_rounds_26 : decode cX7_rounds 26 = .ok (.iload_n 2, 1) := by decide +kernel
theorem dX7_rounds_27 : decode cX7_rounds 27 = .ok (.ireturn, 1) := by decide +kernel
set_option maxRecDepth 20000 in
theorem ggX7_never_X7_isSight : GoodIn wsX7_never wsX7_isSight := goodIn_r _ [6, 7, 8, 9, 5, 10, 93, 94, 95, 96, 97, 98, 99, 100, 101, 102, 103, 104, 105, 106, 107, 108, 109, 110, 111, 112, 113, 114, 115, 116, 117, 118, 119, 120, 121, 122, 123, 124, 125] (by decide +kernel) (by decide +kernel)
set_option maxRecDepth 20000 in
theorem gX7_never_X7_isSight : GoodIn wsX7_never (wsV RX7 138 RX7 yX7_isSight wsX7_isSight) := goodIn_app (goodIn_of _ (by decide +kernel)) ggX7_never_X7_isSight
set_option maxRecDepth 20000 in
theorem ggX7_never_X7_refuse : GoodIn wsX7_never wsX7_refuse := goodIn_r _ [14, 15, 93, 94, 95, 96, 97, 98, 99, 100, 101, 102, 103, 104, 105, 106, 107, 108, 109, 110, 111, 112, 113, 114, 115, 116, 117, 118, 119, 120, 121, 122, 123, 124, 125] (by decide +kernel) (by decide +kernel)
set_option maxRecDepth 20000 in
theorem gX7_never_X7_refuse : GoodIn wsX7_never (wsV RX7 94 RX7 yX7_refuse wsX7_refuse) := goodIn_app (goodIn_of _ (by decide +kernel)) ggX7_never_X7_refuse
set_option maxRecDepth 20000 in
theorem ggX7_never_X7_after : GoodIn wsX7_never wsX7_after := goodIn_r _ [19, 20, 21, 22, 5, 23, 24, 25, 26, 27, 28, 29, 30, 31, 32, 33, 34, 35, 36, 37, 38, 39, 40, 41, 42, 15, 7, 43, 44, 45, 46, 47, 48, 49, 50, 51, 52, 53, 54, 55, 56, 57, 58, 1, 59, 60, 61, 62, 63, 64, 65, 66, 67, 68, 69, 70, 71, 72, 73, 74, 75, 76, 77, 78, 79, 80, 81, 82, 83, 84, 85, 86, 87, 88, 93, 94, 95, 96, 97, 98, 99, 100, 101, 102, 103, 104, 105, 106, 107, 108, 109, 110, 111, 112, 113, 114, 115, 116, 117, 118, 119, 120, 121, 122, 123, 124, 125] (by decide +kernel) (by decide +kernel)
set_option maxRecDepth 20000 in
theorem gX7_never_X7_after : GoodIn wsX7_never (wsV RX7 268 RX7 yX7_after wsX7_after) := goodIn_app (goodIn_of _ (by decide +kernel)) ggX7_never_X7_after
set_option maxRecDepth 20000 in
theorem ggX7_never_X7_knows : GoodIn wsX7_never wsX7_knows := goodIn_r _ [92, 45, 46, 47, 93, 94, 95, 96, 97, 98, 99, 100, 101, 102, 103, 104, 105, 106, 107, 108, 109, 110, 111, 112, 113, 114, 115, 116, 117, 118, 119, 120, 121, 122, 123, 124, 125] (by decide +kernel) (by decide +kernel)
set_option maxRecDepth 20000 in
theorem gX7_never_X7_knows : GoodIn wsX7_never (wsV RX7 247 RX7 yX7_knows wsX7_knows) := goodIn_app (goodIn_of _ (by decide +kernel)) ggX7_never_X7_knows
set_option maxRecDepth 20000 in
theorem ggX7_never_X7_has : GoodIn wsX7_never wsX7_has := goodIn_r _ [81] (by decide +kernel) (by decide +kernel)
set_option maxRecDepth 20000 in
theorem gX7_never_X7_has : GoodIn wsX7_never (va_wsS RX7 84 yX7_has wsX7_has) := goodIn_app (goodIn_of _ (by decide +kernel)) ggX7_never_X7_has
theorem dX7_never_0 : decode cX7_never 0 = .ok (.aload_n 0, 1) := by decide +kernel
theorem dX7_never_1 : decode cX7_never 1 = .ok (.iload_n 1, 1) := by decide +kernel
theorem dX7_never_2 : decode cX7_never 2 = .ok (.invokevirtual 138, 3) := by decide +kernel
theorem dX7_never_5 : decode cX7_never 5 = .ok (.ifCond .ne 10, 3) := by decide +kernel
theorem dX7_never_8 : decode cX7_never 8 = .ok (.aload_n 0, 1) := by decide +kernel
theorem dX7_never_9 : decode cX7_never 9 = .ok (.bipush (-2), 2) := by decide +kernel
theorem dX7_never_11 : decode cX7_never 11 = .ok (.invokevirtual 94, 3) := by decide +kernel
theorem dX7_never_14 : decode cX7_never 14 = .ok (.ireturn, 1) := by decide +kernel
theorem dX7_never_15 : decode cX7_never 15 = .ok (.aload_n 0, 1) := by decide +kernel
theorem dX7_never_16 : decode cX7_never 16 = .ok (.bipush 20, 2) := by decide +kernel
theorem dX7_never_18 : decode cX7_never 18 = .ok (.invokevirtual 268, 3) := by decide +kernel
theorem dX7_never_21 : decode cX7_never 21 = .ok (.astore_n 2, 1) := by decide +kernel
theorem dX7_never_22 : decode cX7_never 22 = .ok (.iconst 0, 1) := by decide +kernel
theorem dX7_never_23 : decode cX7_never 23 = .ok (.istore_n 3, 1) := by decide +kernel
theorem dX7_never_24 : decode cX7_never 24 = .ok (.iconst 0, 1) := by decide +kernel
theorem dX7_never_25 : decode cX7_never 25 = .ok (.istore 4, 2) := by decide +kernel
theorem dX7_never_27 : decode cX7_never 27 = .ok (.iload 4, 2) := by decide +kernel
theorem dX7_never_29 : decode cX7_never 29 = .ok (.aload_n 0, 1) := by decide +kernel
theorem dX7_never_30 : decode cX7_never 30 = .ok (.getfield 77, 3) := by decide +kernel
theorem dX7_never_33 : decode cX7_never 33 = .ok (.if_icmp .ge 33, 3) := by decide +kernel
theorem dX7_never_36 : decode cX7_never 36 = .ok (.iload_n 3, 1) := by decide +kernel
theorem dX7_never_37 : decode cX7_never 37 = .ok (.aload_n 2, 1) := by decide +kernel
theorem dX7_never_38 : decode cX7_never 38 = .ok (.iload 4, 2) := by decide +kernel
theorem dX7_never_40 : decode cX7_never 40 = .ok (.invokevirtual 247, 3) := by decide +kernel
theorem dX7_never_43 : decode cX7_never 43 = .ok (.iload_n 1, 1) := by decide +kernel
theorem dX7_never_44 : decode cX7_never 44 = .ok (.invokestatic 84, 3) := by decide +kernel
theorem dX7_never_47 : decode cX7_never 47 = .ok (.ifCond .eq 7, 3) := by decide +kernel
theorem dX7_never_50 : decode cX7_never 50 = .ok (.iconst 0, 1) := by decide +kernel
theorem dX7_never_51 : decode cX7_never 51 = .ok (.goto 7, 3) := by decide +kernel
theorem dX7_never_54 : decode cX7_never 54 = .ok (.iconst 1, 1) := by decide +kernel
theorem dX7_never_55 : decode cX7_never 55 = .ok (.iload 4, 2) := by decide +kernel
theorem dX7_never_57 : decode cX7_never 57 = .ok (.ishl, 1) := by decide +kernel
theorem dX7_never_58 : decode cX7_never 58 = .ok (.ior, 1) := by decide +kernel
theorem dX7_never_59 : decode cX7_never 59 = .ok (.istore_n 3, 1) := by decide +kernel
theorem dX7_never_60 : decode cX7_never 60 = .ok (.iinc 4 1, 3) := by decide +kernel
theorem dX7_never_63 : decode cX7_never 63 = .ok (.goto (-36), 3) := by decide +kernel
theorem dX7_never_66 : decode cX7_never 66 = .ok (.iload_n 3, 1) := by decide +kernel
theorem dX7_never_67 : decode cX7_never 67 = .ok (.ireturn, 1) := by decide +kernel
set_option maxRecDepth 20000 in
theorem ggX7_when_X7_isOne : GoodIn wsX7_when wsX7_isOne := goodIn_r _ [5, 6, 7, 8, 4, 9, 93, 94, 95, 96, 97, 98, 99, 100, 101, 102, 103, 104, 105, 106, 107, 108, 109, 110, 111, 112, 113, 114, 115, 116, 117, 118, 119, 120, 121, 122, 123, 124, 125] (by decide +kernel) (by decide +kernel)
set_option maxRecDepth 20000 in
theorem gX7_when_X7_isOne : GoodIn wsX7_when (wsV RX7 105 RX7 yX7_isOne wsX7_isOne) := goodIn_app (goodIn_of _ (by decide +kernel)) ggX7_when_X7_isOne
set_option maxRecDepth 20000 in
theorem ggX7_when_X7_isSight : GoodIn wsX7_when wsX7_isSight := goodIn_r _ [13, 14, 7, 8, 4, 9, 93, 94, 95, 96, 97, 98, 99, 100, 101, 102, 103, 104, 105, 106, 107, 108, 109, 110, 111, 112, 113, 114, 115, 116, 117, 118, 119, 120, 121, 122, 123, 124, 125] (by decide +kernel) (by decide +kernel)
set_option maxRecDepth 20000 in
theorem gX7_when_X7_isSight : GoodIn wsX7_when (wsV RX7 138 RX7 yX7_isSight wsX7_isSight) := goodIn_app (goodIn_of _ (by decide +kernel)) ggX7_when_X7_isSight
set_option maxRecDepth 20000 in
theorem ggX7_when_X7_refuse : GoodIn wsX7_when wsX7_refuse := goodIn_r _ [18, 19, 93, 94, 95, 96, 97, 98, 99, 100, 101, 102, 103, 104, 105, 106, 107, 108, 109, 110, 111, 112, 113, 114, 115, 116, 117, 118, 119, 120, 121, 122, 123, 124, 125] (by decide +kernel) (by decide +kernel)
set_option maxRecDepth 20000 in
theorem gX7_when_X7_refuse : GoodIn wsX7_when (wsV RX7 94 RX7 yX7_refuse wsX7_refuse) := goodIn_app (goodIn_of _ (by decide +kernel)) ggX7_when_X7_refuse
set_option maxRecDepth 20000 in
theorem ggX7_when_X7_fresh : GoodIn wsX7_when wsX7_fresh := goodIn_r _ [23, 24, 25, 26, 4, 27, 28, 29, 30, 31, 32, 33, 34, 35, 36, 37, 38, 39, 40, 41, 42, 19, 14, 43, 44, 45, 46, 47, 48, 49, 50, 51, 52, 53, 54, 55, 56, 57, 58, 6, 59, 60, 61, 62, 93, 94, 95, 96, 97, 98, 99, 100, 101, 102, 103, 104, 105, 106, 107, 108, 109, 110, 111, 112, 113, 114, 115, 116, 117, 118, 119, 120, 121, 122, 123, 124, 125] (by decide +kernel) (by decide +kernel)
set_option maxRecDepth 20000 in
theorem gX7_when_X7_fresh : GoodIn wsX7_when (wsV RX7 236 RX7 yX7_fresh wsX7_fresh) := goodIn_app (goodIn_of _ (by decide +kernel)) ggX7_when_X7_fresh
set_option maxRecDepth 20000 in
theorem ggX7_when_X7_knows : GoodIn wsX7_when wsX7_knows := goodIn_r _ [66, 45, 46, 47, 93, 94, 95, 96, 97, 98, 99, 100, 101, 102, 103, 104, 105, 106, 107, 108, 109, 110, 111, 112, 113, 114, 115, 116, 117, 118, 119, 120, 121, 122, 123, 124, 125] (by decide +kernel) (by decide +kernel)
set_option maxRecDepth 20000 in
theorem gX7_when_X7_knows : GoodIn wsX7_when (wsV RX7 247 RX7 yX7_knows wsX7_knows) := goodIn_app (goodIn_of _ (by decide +kernel)) ggX7_when_X7_knows
set_option maxRecDepth 20000 in
theorem ggX7_when_X7_has : GoodIn wsX7_when wsX7_has := goodIn_r _ [69] (by decide +kernel) (by decide +kernel)
set_option maxRecDepth 20000 in
theorem gX7_when_X7_has : GoodIn wsX7_when (va_wsS RX7 84 yX7_has wsX7_has) := goodIn_app (goodIn_of _ (by decide +kernel)) ggX7_when_X7_has
set_option maxRecDepth 20000 in
theorem ggX7_when_X7_goesRound : GoodIn wsX7_when wsX7_goesRound := goodIn_r _ [73, 6, 52, 49, 14, 48, 45, 47, 74, 75, 76, 4, 77, 43, 78, 79, 80, 81, 46, 82, 83, 84, 85, 67, 68, 69, 86, 87, 88, 89, 90, 91, 92, 93, 94, 95, 96, 97, 98, 99, 100, 101, 102, 103, 104, 105, 106, 107, 108, 109, 110, 111, 112, 113, 114, 115, 116, 117, 118, 119, 120, 121, 122, 123, 124, 125] (by decide +kernel) (by decide +kernel)
set_option maxRecDepth 20000 in
theorem gX7_when_X7_goesRound : GoodIn wsX7_when (wsV RX7 262 RX7 yX7_goesRound wsX7_goesRound) := goodIn_app (goodIn_of _ (by decide +kernel)) ggX7_when_X7_goesRound
theorem dX7_when_0 : decode cX7_when 0 = .ok (.aload_n 0, 1) := by decide +kernel
theorem dX7_when_1 : decode cX7_when 1 = .ok (.iload_n 1, 1) := by decide +kernel
theorem dX7_when_2 : decode cX7_when 2 = .ok (.invokevirtual 105, 3) := by decide +kernel
theorem dX7_when_5 : decode cX7_when 5 = .ok (.ifCond .eq 11, 3) := by decide +kernel
theorem dX7_when_8 : decode cX7_when 8 = .ok (.aload_n 0, 1) := by decide +kernel
theorem dX7_when_9 : decode cX7_when 9 = .ok (.iload_n 2, 1) := by decide +kernel
theorem dX7_when_10 : decode cX7_when 10 = .ok (.invokevirtual 138, 3) := by decide +kernel
theorem dX7_when_13 : decode cX7_when 13 = .ok (.ifCond .ne 10, 3) := by decide +kernel
theorem dX7_when_16 : decode cX7_when 16 = .ok (.aload_n 0, 1) := by decide +kernel
theorem dX7_when_17 : decode cX7_when 17 = .ok (.bipush (-2), 2) := by decide +kernel
theorem dX7_when_19 : decode cX7_when 19 = .ok (.invokevirtual 94, 3) := by decide +kernel
theorem dX7_when_22 : decode cX7_when 22 = .ok (.ireturn, 1) := by decide +kernel
theorem dX7_when_23 : decode cX7_when 23 = .ok (.aload_n 0, 1) := by decide +kernel
theorem dX7_when_24 : decode cX7_when 24 = .ok (.invokevirtual 236, 3) := by decide +kernel
theorem dX7_when_27 : decode cX7_when 27 = .ok (.astore_n 3, 1) := by decide +kernel
theorem dX7_when_28 : decode cX7_when 28 = .ok (.iconst 0, 1) := by decide +kernel
theorem dX7_when_29 : decode cX7_when 29 = .ok (.istore 4, 2) := by decide +kernel
theorem dX7_when_31 : decode cX7_when 31 = .ok (.iload 4, 2) := by decide +kernel
theorem dX7_when_33 : decode cX7_when 33 = .ok (.bipush 20, 2) := by decide +kernel
theorem dX7_when_35 : decode cX7_when 35 = .ok (.if_icmp .gt 29, 3) := by decide +kernel
theorem dX7_when_38 : decode cX7_when 38 = .ok (.aload_n 3, 1) := by decide +kernel
theorem dX7_when_39 : decode cX7_when 39 = .ok (.iload_n 1, 1) := by decide +kernel
theorem dX7_when_40 : decode cX7_when 40 = .ok (.invokevirtual 247, 3) := by decide +kernel
theorem dX7_when_43 : decode cX7_when 43 = .ok (.iload_n 2, 1) := by decide +kernel
theorem dX7_when_44 : decode cX7_when 44 = .ok (.invokestatic 84, 3) := by decide +kernel
theorem dX7_when_47 : decode cX7_when 47 = .ok (.ifCond .eq 6, 3) := by decide +kernel
theorem dX7_when_50 : decode cX7_when 50 = .ok (.iload 4, 2) := by decide +kernel
theorem dX7_when_52 : decode cX7_when 52 = .ok (.ireturn, 1) := by decide +kernel
theorem dX7_when_53 : decode cX7_when 53 = .ok (.aload_n 3, 1) := by decide +kernel
theorem dX7_when_54 : decode cX7_when 54 = .ok (.invokevirtual 262, 3) := by decide +kernel
theorem dX7_when_57 : decode cX7_when 57 = .ok (.pop, 1) := by decide +kernel
theorem dX7_when_58 : decode cX7_when 58 = .ok (.iinc 4 1, 3) := by decide +kernel
theorem dX7_when_61 : decode cX7_when 61 = .ok (.goto (-30), 3) := by decide +kernel
theorem dX7_when_64 : decode cX7_when 64 = .ok (.iconst (-1), 1) := by decide +kernel
theorem dX7_when_65 : decode cX7_when 65 = .ok (.ireturn, 1) := by decide +kernel
set_option maxRecDepth 20000 in
theorem ggX7_isStopped_X7_fresh : GoodIn wsX7_isStopped wsX7_fresh := goodIn_r _ [7, 8, 9, 10, 6, 11, 12, 13, 14, 15, 16, 17, 18, 19, 20, 21, 22, 23, 24, 25, 26, 27, 28, 2, 29, 30, 31, 32, 33, 34, 35, 36, 37, 38, 39, 40, 41, 42, 43, 1, 44, 45, 46, 47, 82, 83, 84, 85, 86, 87, 88, 89, 90, 91, 92, 93, 94, 95, 96, 97, 98, 99, 100, 101, 102, 103, 104, 105, 106, 107, 108, 109, 110, 111, 112, 113, 114] (by decide +kernel) (by decide +kernel)
set_option maxRecDepth 20000 in
theorem gX7_isStopped_X7_fresh : GoodIn wsX7_isStopped (wsV RX7 236 RX7 yX7_fresh wsX7_fresh) := goodIn_app (goodIn_of _ (by decide +kernel)) ggX7_isStopped_X7_fresh
set_option maxRecDepth 20000 in
theorem ggX7_isStopped_X7_has : GoodIn wsX7_isStopped wsX7_has := goodIn_r _ [50] (by decide +kernel) (by decide +kernel)
set_option maxRecDepth 20000 in
theorem gX7_isStopped_X7_has : GoodIn wsX7_isStopped (va_wsS RX7 84 yX7_has wsX7_has) := goodIn_app (goodIn_of _ (by decide +kernel)) ggX7_isStopped_X7_has
set_option maxRecDepth 20000 in
theorem ggX7_isStopped_X7_sees : GoodIn wsX7_isStopped wsX7_sees := goodIn_r _ [54, 30, 31, 82, 83, 84, 85, 86, 87, 88, 89, 90, 91, 92, 93, 94, 95, 96, 97, 98, 99, 100, 101, 102, 103, 104, 105, 106, 107, 108, 109, 110, 111, 112, 113, 114] (by decide +kernel) (by decide +kernel)
set_option maxRecDepth 20000 in
theorem gX7_isStopped_X7_sees : GoodIn wsX7_isStopped (wsV RX7 143 RX7 yX7_sees wsX7_sees) := goodIn_app (goodIn_of _ (by decide +kernel)) ggX7_isStopped_X7_sees
set_option maxRecDepth 20000 in
theorem ggX7_isStopped_X7_mouthsOf : GoodIn wsX7_isStopped wsX7_mouthsOf := goodIn_r _ [58, 1, 59, 60, 61, 6, 62, 2, 32, 33, 30, 34, 28, 63, 64, 65, 66, 31, 67, 68, 69, 70, 48, 49, 50, 82, 83, 84, 85, 86, 87, 88, 89, 90, 91, 92, 93, 94, 95, 96, 97, 98, 99, 100, 101, 102, 103, 104, 105, 106, 107, 108, 109, 110, 111, 112, 113, 114] (by decide +kernel) (by decide +kernel)
set_option maxRecDepth 20000 in
theorem gX7_isStopped_X7_mouthsOf : GoodIn wsX7_isStopped (wsV RX7 250 RX7 yX7_mouthsOf wsX7_mouthsOf) := goodIn_app (goodIn_of _ (by decide +kernel)) ggX7_isStopped_X7_mouthsOf
set_option maxRecDepth 20000 in
theorem ggX7_isStopped_X7_goesRound : GoodIn wsX7_isStopped wsX7_goesRound := goodIn_r _ [74, 1, 37, 34, 28, 33, 30, 32, 59, 60, 61, 6, 62, 2, 63, 64, 65, 66, 31, 67, 68, 69, 70, 48, 49, 50, 75, 76, 77, 78, 79, 80, 81, 82, 83, 84, 85, 86, 87, 88, 89, 90, 91, 92, 93, 94, 95, 96, 97, 98, 99, 100, 101, 102, 103, 104, 105, 106, 107, 108, 109, 110, 111, 112, 113, 114] (by decide +kernel) (by decide +kernel)
set_option maxRecDepth 20000 in
theorem gX7_isStopped_X7_goesRound : GoodIn wsX7_isStopped (wsV RX7 262 RX7 yX7_goesRound wsX7_goesRound) := goodIn_app (goodIn_of _ (by decide +kernel)) ggX7_isStopped_X7_goesRound
theorem dX7_isStopped_0 : decode cX7_isStopped 0 = .ok (.aload_n 0, 1) := by decide +kernel
theorem dX7_isStopped_1 : decode cX7_isStopped 1 = .ok (.invokevirtual 236, 3) := by decide +kernel
theorem dX7_isStopped_4 : decode cX7_isStopped 4 = .ok (.astore 4, 2) := by decide +kernel
theorem dX7_isStopped_6 : decode cX7_isStopped 6 = .ok (.iconst 0, 1) := by decide +kernel
theorem dX7_isStopped_7 : decode cX7_isStopped 7 = .ok (.istore 5, 2) := by decide +kernel
theorem dX7_isStopped_9 : decode cX7_isStopped 9 = .ok (.iload 5, 2) := by decide +kernel
theorem dX7_isStopped_11 : decode cX7_isStopped 11 = .ok (.aload_n 0, 1) := by decide +kernel
theorem dX7_isStopped_12 : decode cX7_isStopped 12 = .ok (.getfield 77, 3) := by decide +kernel
theorem dX7_isStopped_15 : decode cX7_isStopped 15 = .ok (.if_icmp .ge 40, 3) := by decide +kernel
theorem dX7_isStopped_18 : decode cX7_isStopped 18 = .ok (.iload_n 1, 1) := by decide +kernel
theorem dX7_isStopped_19 : decode cX7_isStopped 19 = .ok (.iload 5, 2) := by decide +kernel
theorem dX7_isStopped_21 : decode cX7_isStopped 21 = .ok (.invokestatic 84, 3) := by decide +kernel
theorem dX7_isStopped_24 : decode cX7_isStopped 24 = .ok (.ifCond .eq 25, 3) := by decide +kernel
theorem dX7_isStopped_27 : decode cX7_isStopped 27 = .ok (.aload_n 0, 1) := by decide +kernel
theorem dX7_isStopped_28 : decode cX7_isStopped 28 = .ok (.getfield 41, 3) := by decide +kernel
theorem dX7_isStopped_31 : decode cX7_isStopped 31 = .ok (.iload 5, 2) := by decide +kernel
theorem dX7_isStopped_33 : decode cX7_isStopped 33 = .ok (.iaload, 1) := by decide +kernel
theorem dX7_isStopped_34 : decode cX7_isStopped 34 = .ok (.iconst 4, 1) := by decide +kernel
theorem dX7_isStopped_35 : decode cX7_isStopped 35 = .ok (.if_icmp .ne 5, 3) := by decide +kernel
theorem dX7_isStopped_38 : decode cX7_isStopped 38 = .ok (.iconst 0, 1) := by decide +kernel
theorem dX7_isStopped_39 : decode cX7_isStopped 39 = .ok (.ireturn, 1) := by decide +kernel
theorem dX7_isStopped_40 : decode cX7_isStopped 40 = .ok (.aload 4, 2) := by decide +kernel
theorem dX7_isStopped_42 : decode cX7_isStopped 42 = .ok (.iload 5, 2) := by decide +kernel
theorem dX7_isStopped_44 : decode cX7_isStopped 44 = .ok (.iload_n 2, 1) := by decide +kernel
theorem dX7_isStopped_45 : decode cX7_isStopped 45 = .ok (.iconst 2, 1) := by decide +kernel
theorem dX7_isStopped_46 : decode cX7_isStopped 46 = .ok (.invokevirtual 143, 3) := by decide +kernel
theorem dX7_isStopped_49 : decode cX7_isStopped 49 = .ok (.iinc 5 1, 3) := by decide +kernel
theorem dX7_isStopped_52 : decode cX7_isStopped 52 = .ok (.goto (-43), 3) := by decide +kernel
theorem dX7_isStopped_55 : decode cX7_isStopped 55 = .ok (.iconst 0, 1) := by decide +kernel
theorem dX7_isStopped_56 : decode cX7_isStopped 56 = .ok (.istore 5, 2) := by decide +kernel
theorem dX7_isStopped_58 : decode cX7_isStopped 58 = .ok (.iload 5, 2) := by decide +kernel
theorem dX7_isStopped_60 : decode cX7_isStopped 60 = .ok (.iload_n 3, 1) := by decide +kernel
theorem dX7_isStopped_61 : decode cX7_isStopped 61 = .ok (.if_icmp .ge 26, 3) := by decide +kernel
theorem dX7_isStopped_64 : decode cX7_isStopped 64 = .ok (.aload 4, 2) := by decide +kernel
theorem dX7_isStopped_66 : decode cX7_isStopped 66 = .ok (.iload_n 2, 1) := by decide +kernel
theorem dX7_isStopped_67 : decode cX7_isStopped 67 = .ok (.invokevirtual 250, 3) := by decide +kernel
theorem dX7_isStopped_70 : decode cX7_isStopped 70 = .ok (.ifCond .eq 5, 3) := by decide +kernel
theorem dX7_isStopped_73 : decode cX7_isStopped 73 = .ok (.iconst 0, 1) := by decide +kernel
theorem dX7_isStopped_74 : decode cX7_isStopped 74 = .ok (.ireturn, 1) := by decide +kernel
theorem dX7_isStopped_75 : decode cX7_isStopped 75 = .ok (.aload 4, 2) := by decide +kernel
theorem dX7_isStopped_77 : decode cX7_isStopped 77 = .ok (.invokevirtual 262, 3) := by decide +kernel
theorem dX7_isStopped_80 : decode cX7_isStopped 80 = .ok (.pop, 1) := by decide +kernel
theorem dX7_isStopped_81 : decode cX7_isStopped 81 = .ok (.iinc 5 1, 3) := by decide +kernel
theorem dX7_isStopped_84 : decode cX7_isStopped 84 = .ok (.goto (-26), 3) := by decide +kernel
theorem dX7_isStopped_87 : decode cX7_isStopped 87 = .ok (.aload 4, 2) := by decide +kernel
theorem dX7_isStopped_89 : decode cX7_isStopped 89 = .ok (.iload_n 2, 1) := by decide +kernel
theorem dX7_isStopped_90 : decode cX7_isStopped 90 = .ok (.invokevirtual 250, 3) := by decide +kernel
theorem dX7_isStopped_93 : decode cX7_isStopped 93 = .ok (.ifCond .ne 7, 3) := by decide +kernel
theorem dX7_isStopped_96 : decode cX7_isStopped 96 = .ok (.iconst 1, 1) := by decide +kernel
theorem dX7_isStopped_97 : decode cX7_isStopped 97 = .ok (.goto 4, 3) := by decide +kernel
theorem dX7_isStopped_100 : decode cX7_isStopped 100 = .ok (.iconst 0, 1) := by decide +kernel
theorem dX7_isStopped_101 : decode cX7_isStopped 101 = .ok (.ireturn, 1) := by decide +kernel
set_option maxRecDepth 20000 in
theorem ggX7_stop_X7_isSight : GoodIn wsX7_stop wsX7_isSight := goodIn_r _ [6, 7, 8, 9, 5, 10, 101, 102, 103, 104, 105, 106, 107, 108, 109, 110, 111, 112, 113, 114, 115, 116, 117, 118, 119, 120, 121, 122, 123, 124, 125, 126, 127, 128, 129, 130, 131, 132, 133] (by decide +kernel) (by decide +kernel)
set_option maxRecDepth 20000 in
theorem gX7_stop_X7_isSight : GoodIn wsX7_stop (wsV RX7 138 RX7 yX7_isSight wsX7_isSight) := goodIn_app (goodIn_of _ (by decide +kernel)) ggX7_stop_X7_isSight
set_option maxRecDepth 20000 in
theorem ggX7_stop_X7_isRounds : GoodIn wsX7_stop wsX7_isRounds := goodIn_r _ [13, 14, 8, 9, 5, 10] (by decide +kernel) (by decide +kernel)
set_option maxRecDepth 20000 in
theorem gX7_stop_X7_isRounds : GoodIn wsX7_stop (va_wsS RX7 265 yX7_isRounds wsX7_isRounds) := goodIn_app (goodIn_of _ (by decide +kernel)) ggX7_stop_X7_isRounds
set_option maxRecDepth 20000 in
theorem ggX7_stop_X7_refuse : GoodIn wsX7_stop wsX7_refuse := goodIn_r _ [18, 19, 101, 102, 103, 104, 105, 106, 107, 108, 109, 110, 111, 112, 113, 114, 115, 116, 117, 118, 119, 120, 121, 122, 123, 124, 125, 126, 127, 128, 129, 130, 131, 132, 133] (by decide +kernel) (by decide +kernel)
set_option maxRecDepth 20000 in
theorem gX7_stop_X7_refuse : GoodIn wsX7_stop (wsV RX7 94 RX7 yX7_refuse wsX7_refuse) := goodIn_app (goodIn_of _ (by decide +kernel)) ggX7_stop_X7_refuse
set_option maxRecDepth 20000 in
theorem ggX7_stop_X7_bits : GoodIn wsX7_stop wsX7_bits := goodIn_r _ [22] (by decide +kernel) (by decide +kernel)
set_option maxRecDepth 20000 in
theorem gX7_stop_X7_bits : GoodIn wsX7_stop (va_wsS RX7 117 yX7_bits wsX7_bits) := goodIn_app (goodIn_of _ (by decide +kernel)) ggX7_stop_X7_bits
set_option maxRecDepth 20000 in
theorem ggX7_stop_X7_isStopped : GoodIn wsX7_stop wsX7_isStopped := goodIn_r _ [26, 1, 27, 28, 29, 30, 5, 31, 32, 33, 34, 35, 36, 37, 38, 39, 40, 41, 42, 43, 44, 45, 46, 47, 48, 49, 50, 19, 7, 51, 52, 53, 54, 55, 56, 57, 58, 59, 60, 61, 62, 63, 64, 65, 66, 67, 68, 69, 70, 71, 72, 73, 74, 75, 76, 77, 78, 79, 80, 81, 82, 83, 84, 85, 86, 87, 88, 89, 90, 91, 92, 93, 94, 95, 96, 97, 98, 99, 100, 20, 21, 22, 101, 102, 103, 104, 105, 106, 107, 108, 109, 110, 111, 112, 113, 114, 115, 116, 117, 118, 119, 120, 121, 122, 123, 124, 125, 126, 127, 128, 129, 130, 131, 132, 133] (by decide +kernel) (by decide +kernel)
set_option maxRecDepth 20000 in
theorem gX7_stop_X7_isStopped : GoodIn wsX7_stop (wsV RX7 272 RX7 yX7_isStopped wsX7_isStopped) := goodIn_app (goodIn_of _ (by decide +kernel)) ggX7_stop_X7_isStopped
theorem dX7_stop_0 : decode cX7_stop 0 = .ok (.aload_n 0, 1) := by decide +kernel
theorem dX7_stop_1 : decode cX7_stop 1 = .ok (.iload_n 1, 1) := by decide +kernel
theorem dX7_stop_2 : decode cX7_stop 2 = .ok (.invokevirtual 138, 3) := by decide +kernel
theorem dX7_stop_5 : decode cX7_stop 5 = .ok (.ifCond .eq 10, 3) := by decide +kernel
theorem dX7_stop_8 : decode cX7_stop 8 = .ok (.iload_n 2, 1) := by decide +kernel
theorem dX7_stop_9 : decode cX7_stop 9 = .ok (.invokestatic 265, 3) := by decide +kernel
theorem dX7_stop_12 : decode cX7_stop 12 = .ok (.ifCond .ne 10, 3) := by decide +kernel
theorem dX7_stop_15 : decode cX7_stop 15 = .ok (.aload_n 0, 1) := by decide +kernel
theorem dX7_stop_16 : decode cX7_stop 16 = .ok (.bipush (-2), 2) := by decide +kernel
theorem dX7_stop_18 : decode cX7_stop 18 = .ok (.invokevirtual 94, 3) := by decide +kernel
theorem dX7_stop_21 : decode cX7_stop 21 = .ok (.ireturn, 1) := by decide +kernel
theorem dX7_stop_22 : decode cX7_stop 22 = .ok (.iconst (-1), 1) := by decide +kernel
theorem dX7_stop_23 : decode cX7_stop 23 = .ok (.istore_n 3, 1) := by decide +kernel
theorem dX7_stop_24 : decode cX7_stop 24 = .ok (.iconst 0, 1) := by decide +kernel
theorem dX7_stop_25 : decode cX7_stop 25 = .ok (.istore 4, 2) := by decide +kernel
theorem dX7_stop_27 : decode cX7_stop 27 = .ok (.iload 4, 2) := by decide +kernel
theorem dX7_stop_29 : decode cX7_stop 29 = .ok (.iconst 1, 1) := by decide +kernel
theorem dX7_stop_30 : decode cX7_stop 30 = .ok (.aload_n 0, 1) := by decide +kernel
theorem dX7_stop_31 : decode cX7_stop 31 = .ok (.getfield 77, 3) := by decide +kernel
theorem dX7_stop_34 : decode cX7_stop 34 = .ok (.ishl, 1) := by decide +kernel
theorem dX7_stop_35 : decode cX7_stop 35 = .ok (.if_icmp .ge 40, 3) := by decide +kernel
theorem dX7_stop_38 : decode cX7_stop 38 = .ok (.iload_n 3, 1) := by decide +kernel
theorem dX7_stop_39 : decode cX7_stop 39 = .ok (.iconst (-1), 1) := by decide +kernel
theorem dX7_stop_40 : decode cX7_stop 40 = .ok (.if_icmp .eq 15, 3) := by decide +kernel
theorem dX7_stop_43 : decode cX7_stop 43 = .ok (.iload 4, 2) := by decide +kernel
theorem dX7_stop_45 : decode cX7_stop 45 = .ok (.invokestatic 117, 3) := by decide +kernel
theorem dX7_stop_48 : decode cX7_stop 48 = .ok (.iload_n 3, 1) := by decide +kernel
theorem dX7_stop_49 : decode cX7_stop 49 = .ok (.invokestatic 117, 3) := by decide +kernel
theorem dX7_stop_52 : decode cX7_stop 52 = .ok (.if_icmp .ge 17, 3) := by decide +kernel
theorem dX7_stop_55 : decode cX7_stop 55 = .ok (.aload_n 0, 1) := by decide +kernel
theorem dX7_stop_56 : decode cX7_stop 56 = .ok (.iload 4, 2) := by decide +kernel
theorem dX7_stop_58 : decode cX7_stop 58 = .ok (.iload_n 1, 1) := by decide +kernel
theorem dX7_stop_59 : decode cX7_stop 59 = .ok (.iload_n 2, 1) := by decide +kernel
theorem dX7_stop_60 : decode cX7_stop 60 = .ok (.invokevirtual 272, 3) := by decide +kernel
theorem dX7_stop_63 : decode cX7_stop 63 = .ok (.ifCond .eq 6, 3) := by decide +kernel
theorem dX7_stop_66 : decode cX7_stop 66 = .ok (.iload 4, 2) := by decide +kernel
theorem dX7_stop_68 : decode cX7_stop 68 = .ok (.istore_n 3, 1) := by decide +kernel
theorem dX7_stop_69 : decode cX7_stop 69 = .ok (.iinc 4 1, 3) := by decide +kernel
theorem dX7_stop_72 : decode cX7_stop 72 = .ok (.goto (-45), 3) := by decide +kernel
theorem dX7_stop_75 : decode cX7_stop 75 = .ok (.iload_n 3, 1) := by decide +kernel
theorem dX7_stop_76 : decode cX7_stop 76 = .ok (.ireturn, 1) := by decide +kernel
set_option maxRecDepth 20000 in
theorem ggX7_first_X7_isSight : GoodIn wsX7_first wsX7_isSight := goodIn_r _ [7, 8, 9, 10, 6, 11, 93, 94, 95, 96, 97, 98, 99, 100, 101, 102, 103, 104, 105, 106, 107, 108, 109, 110, 111, 112, 113, 114, 115, 116, 117, 118, 119, 120, 121, 122, 123, 124, 125] (by decide +kernel) (by decide +kernel)
set_option maxRecDepth 20000 in
theorem gX7_first_X7_isSight : GoodIn wsX7_first (wsV RX7 138 RX7 yX7_isSight wsX7_isSight) := goodIn_app (goodIn_of _ (by decide +kernel)) ggX7_first_X7_isSight
set_option maxRecDepth 20000 in
theorem ggX7_first_X7_isRounds : GoodIn wsX7_first wsX7_isRounds := goodIn_r _ [14, 15, 9, 10, 6, 11] (by decide +kernel) (by decide +kernel)
set_option maxRecDepth 20000 in
theorem gX7_first_X7_isRounds : GoodIn wsX7_first (va_wsS RX7 265 yX7_isRounds wsX7_isRounds) := goodIn_app (goodIn_of _ (by decide +kernel)) ggX7_first_X7_isRounds
set_option maxRecDepth 20000 in
theorem ggX7_first_X7_refuse : GoodIn wsX7_first wsX7_refuse := goodIn_r _ [19, 20, 93, 94, 95, 96, 97, 98, 99, 100, 101, 102, 103, 104, 105, 106, 107, 108, 109, 110, 111, 112, 113, 114, 115, 116, 117, 118, 119, 120, 121, 122, 123, 124, 125] (by decide +kernel) (by decide +kernel)
set_option maxRecDepth 20000 in
theorem gX7_first_X7_refuse : GoodIn wsX7_first (wsV RX7 94 RX7 yX7_refuse wsX7_refuse) := goodIn_app (goodIn_of _ (by decide +kernel)) ggX7_first_X7_refuse
set_option maxRecDepth 20000 in
theorem ggX7_first_X7_fresh : GoodIn wsX7_first wsX7_fresh := goodIn_r _ [24, 25, 26, 27, 6, 28, 29, 30, 31, 32, 33, 34, 35, 36, 37, 38, 39, 40, 41, 42, 43, 20, 8, 44, 45, 46, 47, 2, 48, 49, 50, 51, 52, 53, 54, 55, 56, 57, 58, 1, 59, 60, 61, 62, 93, 94, 95, 96, 97, 98, 99, 100, 101, 102, 103, 104, 105, 106, 107, 108, 109, 110, 111, 112, 113, 114, 115, 116, 117, 118, 119, 120, 121, 122, 123, 124, 125] (by decide +kernel) (by decide +kernel)
set_option maxRecDepth 20000 in
theorem gX7_first_X7_fresh : GoodIn wsX7_first (wsV RX7 236 RX7 yX7_fresh wsX7_fresh) := goodIn_app (goodIn_of _ (by decide +kernel)) ggX7_first_X7_fresh
set_option maxRecDepth 20000 in
theorem ggX7_first_X7_goesRound : GoodIn wsX7_first wsX7_goesRound := goodIn_r _ [66, 1, 52, 49, 8, 48, 46, 2, 67, 68, 69, 6, 70, 44, 71, 72, 73, 74, 47, 75, 76, 77, 78, 79, 80, 81, 82, 83, 84, 85, 86, 87, 88, 93, 94, 95, 96, 97, 98, 99, 100, 101, 102, 103, 104, 105, 106, 107, 108, 109, 110, 111, 112, 113, 114, 115, 116, 117, 118, 119, 120, 121, 122, 123, 124, 125] (by decide +kernel) (by decide +kernel)
set_option maxRecDepth 20000 in
theorem gX7_first_X7_goesRound : GoodIn wsX7_first (wsV RX7 262 RX7 yX7_goesRound wsX7_goesRound) := goodIn_app (goodIn_of _ (by decide +kernel)) ggX7_first_X7_goesRound
set_option maxRecDepth 20000 in
theorem ggX7_first_X7_knows : GoodIn wsX7_first wsX7_knows := goodIn_r _ [92, 46, 47, 2, 93, 94, 95, 96, 97, 98, 99, 100, 101, 102, 103, 104, 105, 106, 107, 108, 109, 110, 111, 112, 113, 114, 115, 116, 117, 118, 119, 120, 121, 122, 123, 124, 125] (by decide +kernel) (by decide +kernel)
set_option maxRecDepth 20000 in
theorem gX7_first_X7_knows : GoodIn wsX7_first (wsV RX7 247 RX7 yX7_knows wsX7_knows) := goodIn_app (goodIn_of _ (by decide +kernel)) ggX7_first_X7_knows
set_option maxRecDepth 20000 in
theorem ggX7_first_X7_has : GoodIn wsX7_first wsX7_has := goodIn_r _ [81] (by decide +kernel) (by decide +kernel)
set_option maxRecDepth 20000 in
theorem gX7_first_X7_has : GoodIn wsX7_first (va_wsS RX7 84 yX7_has wsX7_has) := goodIn_app (goodIn_of _ (by decide +kernel)) ggX7_first_X7_has
theorem dX7_first_0 : decode cX7_first 0 = .ok (.aload_n 0, 1) := by decide +kernel
theorem dX7_first_1 : decode cX7_first 1 = .ok (.iload_n 1, 1) := by decide +kernel
theorem dX7_first_2 : decode cX7_first 2 = .ok (.invokevirtual 138, 3) := by decide +kernel
theorem dX7_first_5 : decode cX7_first 5 = .ok (.ifCond .eq 10, 3) := by decide +kernel
theorem dX7_first_8 : decode cX7_first 8 = .ok (.iload_n 2, 1) := by decide +kernel
theorem dX7_first_9 : decode cX7_first 9 = .ok (.invokestatic 265, 3) := by decide +kernel
theorem dX7_first_12 : decode cX7_first 12 = .ok (.ifCond .ne 10, 3) := by decide +kernel
theorem dX7_first_15 : decode cX7_first 15 = .ok (.aload_n 0, 1) := by decide +kernel
theorem dX7_first_16 : decode cX7_first 16 = .ok (.bipush (-2), 2) := by decide +kernel
theorem dX7_first_18 : decode cX7_first 18 = .ok (.invokevirtual 94, 3) := by decide +kernel
theorem dX7_first_21 : decode cX7_first 21 = .ok (.ireturn, 1) := by decide +kernel
theorem dX7_first_22 : decode cX7_first 22 = .ok (.aload_n 0, 1) := by decide +kernel
theorem dX7_first_23 : decode cX7_first 23 = .ok (.getfield 77, 3) := by decide +kernel
theorem dX7_first_26 : decode cX7_first 26 = .ok (.ifCond .ne 10, 3) := by decide +kernel
theorem dX7_first_29 : decode cX7_first 29 = .ok (.aload_n 0, 1) := by decide +kernel
theorem dX7_first_30 : decode cX7_first 30 = .ok (.bipush (-5), 2) := by decide +kernel
theorem dX7_first_32 : decode cX7_first 32 = .ok (.invokevirtual 94, 3) := by decide +kernel
theorem dX7_first_35 : decode cX7_first 35 = .ok (.ireturn, 1) := by decide +kernel
theorem dX7_first_36 : decode cX7_first 36 = .ok (.iconst 0, 1) := by decide +kernel
theorem dX7_first_37 : decode cX7_first 37 = .ok (.istore_n 3, 1) := by decide +kernel
theorem dX7_first_38 : decode cX7_first 38 = .ok (.iconst (-1), 1) := by decide +kernel
theorem dX7_first_39 : decode cX7_first 39 = .ok (.istore 4, 2) := by decide +kernel
theorem dX7_first_41 : decode cX7_first 41 = .ok (.iconst 0, 1) := by decide +kernel
theorem dX7_first_42 : decode cX7_first 42 = .ok (.istore 5, 2) := by decide +kernel
theorem dX7_first_44 : decode cX7_first 44 = .ok (.iload 5, 2) := by decide +kernel
theorem dX7_first_46 : decode cX7_first 46 = .ok (.aload_n 0, 1) := by decide +kernel
theorem dX7_first_47 : decode cX7_first 47 = .ok (.getfield 77, 3) := by decide +kernel
theorem dX7_first_50 : decode cX7_first 50 = .ok (.if_icmp .ge 109, 3) := by decide +kernel
theorem dX7_first_53 : decode cX7_first 53 = .ok (.aload_n 0, 1) := by decide +kernel
theorem dX7_first_54 : decode cX7_first 54 = .ok (.invokevirtual 236, 3) := by decide +kernel
theorem dX7_first_57 : decode cX7_first 57 = .ok (.astore 6, 2) := by decide +kernel
theorem dX7_first_59 : decode cX7_first 59 = .ok (.aload 6, 2) := by decide +kernel
theorem dX7_first_61 : decode cX7_first 61 = .ok (.getfield 53, 3) := by decide +kernel
theorem dX7_first_64 : decode cX7_first 64 = .ok (.iload 5, 2) := by decide +kernel
theorem dX7_first_66 : decode cX7_first 66 = .ok (.dup2, 1) := by decide +kernel
theorem dX7_first_67 : decode cX7_first 67 = .ok (.iaload, 1) := by decide +kernel
theorem dX7_first_68 : decode cX7_first 68 = .ok (.iconst 1, 1) := by decide +kernel
theorem dX7_first_69 : decode cX7_first 69 = .ok (.iload_n 1, 1) := by decide +kernel
theorem dX7_first_70 : decode cX7_first 70 = .ok (.ishl, 1) := by decide +kernel
theorem dX7_first_71 : decode cX7_first 71 = .ok (.ior, 1) := by decide +kernel
theorem dX7_first_72 : decode cX7_first 72 = .ok (.iastore, 1) := by decide +kernel
theorem dX7_first_73 : decode cX7_first 73 = .ok (.iconst 0, 1) := by decide +kernel
theorem dX7_first_74 : decode cX7_first 74 = .ok (.istore 7, 2) := by decide +kernel
theorem dX7_first_76 : decode cX7_first 76 = .ok (.iload 7, 2) := by decide +kernel
theorem dX7_first_78 : decode cX7_first 78 = .ok (.iload_n 2, 1) := by decide +kernel
theorem dX7_first_79 : decode cX7_first 79 = .ok (.if_icmp .ge 15, 3) := by decide +kernel
theorem dX7_first_82 : decode cX7_first 82 = .ok (.aload 6, 2) := by decide +kernel
theorem dX7_first_84 : decode cX7_first 84 = .ok (.invokevirtual 262, 3) := by decide +kernel
theorem dX7_first_87 : decode cX7_first 87 = .ok (.pop, 1) := by decide +kernel
theorem dX7_first_88 : decode cX7_first 88 = .ok (.iinc 7 1, 3) := by decide +kernel
theorem dX7_first_91 : decode cX7_first 91 = .ok (.goto (-15), 3) := by decide +kernel
theorem dX7_first_94 : decode cX7_first 94 = .ok (.iconst 0, 1) := by decide +kernel
theorem dX7_first_95 : decode cX7_first 95 = .ok (.istore 7, 2) := by decide +kernel
theorem dX7_first_97 : decode cX7_first 97 = .ok (.iconst 0, 1) := by decide +kernel
theorem dX7_first_98 : decode cX7_first 98 = .ok (.istore 8, 2) := by decide +kernel
theorem dX7_first_100 : decode cX7_first 100 = .ok (.iload 8, 2) := by decide +kernel
theorem dX7_first_102 : decode cX7_first 102 = .ok (.aload_n 0, 1) := by decide +kernel
theorem dX7_first_103 : decode cX7_first 103 = .ok (.getfield 77, 3) := by decide +kernel
theorem dX7_first_106 : decode cX7_first 106 = .ok (.if_icmp .ge 33, 3) := by decide +kernel
theorem dX7_first_109 : decode cX7_first 109 = .ok (.iload 7, 2) := by decide +kernel
theorem dX7_first_111 : decode cX7_first 111 = .ok (.aload 6, 2) := by decide +kernel
theorem dX7_first_113 : decode cX7_first 113 = .ok (.iload 8, 2) := by decide +kernel
theorem dX7_first_115 : decode cX7_first 115 = .ok (.invokevirtual 247, 3) := by decide +kernel
theorem dX7_first_118 : decode cX7_first 118 = .ok (.iload_n 1, 1) := by decide +kernel
theorem dX7_first_119 : decode cX7_first 119 = .ok (.invokestatic 84, 3) := by decide +kernel
theorem dX7_first_122 : decode cX7_first 122 = .ok (.ifCond .eq 7, 3) := by decide +kernel
theorem dX7_first_125 : decode cX7_first 125 = .ok (.iconst 1, 1) := by decide +kernel
theorem dX7_first_126 : decode cX7_first 126 = .ok (.goto 4, 3) := by decide +kernel
theorem dX7_first_129 : decode cX7_first 129 = .ok (.iconst 0, 1) := by decide +kernel
theorem dX7_first_130 : decode cX7_first 130 = .ok (.iadd, 1) := by decide +kernel
theorem dX7_first_131 : decode cX7_first 131 = .ok (.istore 7, 2) := by decide +kernel
theorem dX7_first_133 : decode cX7_first 133 = .ok (.iinc 8 1, 3) := by decide +kernel
theorem dX7_first_136 : decode cX7_first 136 = .ok (.goto (-36), 3) := by decide +kernel
theorem dX7_first_139 : decode cX7_first 139 = .ok (.iload 7, 2) := by decide +kernel
theorem dX7_first_141 : decode cX7_first 141 = .ok (.iload 4, 2) := by decide +kernel
theorem dX7_first_143 : decode cX7_first 143 = .ok (.if_icmp .le 10, 3) := by decide +kernel
theorem dX7_first_146 : decode cX7_first 146 = .ok (.iload 5, 2) := by decide +kernel
theorem dX7_first_148 : decode cX7_first 148 = .ok (.istore_n 3, 1) := by decide +kernel
theorem dX7_first_149 : decode cX7_first 149 = .ok (.iload 7, 2) := by decide +kernel
theorem dX7_first_151 : decode cX7_first 151 = .ok (.istore 4, 2) := by decide +kernel
theorem dX7_first_153 : decode cX7_first 153 = .ok (.iinc 5 1, 3) := by decide +kernel
theorem dX7_first_156 : decode cX7_first 156 = .ok (.goto (-112), 3) := by decide +kernel
theorem dX7_first_159 : decode cX7_first 159 = .ok (.iload_n 3, 1) := by decide +kernel
theorem dX7_first_160 : decode cX7_first 160 = .ok (.ireturn, 1) := by decide +kernel
set_option maxRecDepth 20000 in
theorem ggX7_seekOrder_X7_fresh : GoodIn wsX7_seekOrder wsX7_fresh := goodIn_r _ [9, 10, 11, 12, 8, 13, 14, 15, 16, 17, 18, 19, 20, 21, 22, 23, 24, 25, 26, 27, 28, 29, 30, 31, 32, 33, 34, 35, 36, 37, 38, 39, 40, 2, 4, 41, 42, 43, 44, 1, 45, 46, 47, 48, 82, 83, 84, 85, 86, 87, 88, 89, 90, 91, 92, 93, 94, 95, 96, 97, 98, 99, 100, 101, 102, 103, 104, 105, 106, 107, 108, 109, 110, 111, 112, 113, 114] (by decide +kernel) (by decide +kernel)
set_option maxRecDepth 20000 in
theorem gX7_seekOrder_X7_fresh : GoodIn wsX7_seekOrder (wsV RX7 236 RX7 yX7_fresh wsX7_fresh) := goodIn_app (goodIn_of _ (by decide +kernel)) ggX7_seekOrder_X7_fresh
set_option maxRecDepth 20000 in
theorem ggX7_seekOrder_X7_mayOf : GoodIn wsX7_seekOrder wsX7_mayOf := goodIn_r _ [52, 31, 35, 1, 36, 33, 37, 30, 53, 54, 55, 8, 56, 34, 57, 58, 59, 60, 61, 62, 63, 82, 83, 84, 85, 86, 87, 88, 89, 90, 91, 92, 93, 94, 95, 96, 97, 98, 99, 100, 101, 102, 103, 104, 105, 106, 107, 108, 109, 110, 111, 112, 113, 114] (by decide +kernel) (by decide +kernel)
set_option maxRecDepth 20000 in
theorem gX7_seekOrder_X7_mayOf : GoodIn wsX7_seekOrder (wsV RX7 114 RX7 yX7_mayOf wsX7_mayOf) := goodIn_app (goodIn_of _ (by decide +kernel)) ggX7_seekOrder_X7_mayOf
set_option maxRecDepth 20000 in
theorem ggX7_seekOrder_X7_isSaid : GoodIn wsX7_seekOrder wsX7_isSaid := goodIn_r _ [67, 1, 36, 35, 61, 62, 8, 63, 68, 69, 70, 82, 83, 84, 85, 86, 87, 88, 89, 90, 91, 92, 93, 94, 95, 96, 97, 98, 99, 100, 101, 102, 103, 104, 105, 106, 107, 108, 109, 110, 111, 112, 113, 114] (by decide +kernel) (by decide +kernel)
set_option maxRecDepth 20000 in
theorem gX7_seekOrder_X7_isSaid : GoodIn wsX7_seekOrder (wsV RX7 253 RX7 yX7_isSaid wsX7_isSaid) := goodIn_app (goodIn_of _ (by decide +kernel)) ggX7_seekOrder_X7_isSaid
set_option maxRecDepth 20000 in
theorem ggX7_seekOrder_X7_knownNow : GoodIn wsX7_seekOrder wsX7_knownNow := goodIn_r _ [74, 1, 75, 76, 77, 8, 78, 33, 34, 35, 68, 69, 70, 82, 83, 84, 85, 86, 87, 88, 89, 90, 91, 92, 93, 94, 95, 96, 97, 98, 99, 100, 101, 102, 103, 104, 105, 106, 107, 108, 109, 110, 111, 112, 113, 114] (by decide +kernel) (by decide +kernel)
set_option maxRecDepth 20000 in
theorem gX7_seekOrder_X7_knownNow : GoodIn wsX7_seekOrder (wsV RX7 257 RX7 yX7_knownNow wsX7_knownNow) := goodIn_app (goodIn_of _ (by decide +kernel)) ggX7_seekOrder_X7_knownNow
set_option maxRecDepth 20000 in
theorem ggX7_seekOrder_X7_has : GoodIn wsX7_seekOrder wsX7_has := goodIn_r _ [63] (by decide +kernel) (by decide +kernel)
set_option maxRecDepth 20000 in
theorem gX7_seekOrder_X7_has : GoodIn wsX7_seekOrder (va_wsS RX7 84 yX7_has wsX7_has) := goodIn_app (goodIn_of _ (by decide +kernel)) ggX7_seekOrder_X7_has
set_option maxRecDepth 20000 in
theorem ggX7_seekOrder_X7_seekOrder : GoodIn wsX7_seekOrder wsX7_seekOrder := goodIn_r _ [0, 1, 2, 3, 4, 5, 6, 7, 8, 9, 10, 11, 12, 13, 14, 15, 16, 17, 18, 19, 20, 21, 22, 23, 24, 25, 26, 27, 28, 29, 30, 31, 32, 33, 34, 35, 36, 37, 38, 39, 40, 41, 42, 43, 44, 45, 46, 47, 48, 49, 50, 51, 52, 53, 54, 55, 56, 57, 58, 59, 60, 61, 62, 63, 64, 65, 66, 67, 68, 69, 70, 71, 72, 73, 74, 75, 76, 77, 78, 79, 80, 81, 82, 83, 84, 85, 86, 87, 88, 89, 90, 91, 92, 93, 94, 95, 96, 97, 98, 99, 100, 101, 102, 103, 104, 105, 106, 107, 108, 109, 110, 111, 112, 113, 114] (by decide +kernel) (by decide +kernel)
set_option maxRecDepth 20000 in
theorem gX7_seekOrder_X7_seekOrder : GoodIn wsX7_seekOrder (wsV RX7 278 RX7 yX7_seekOrder wsX7_seekOrder) := goodIn_app (goodIn_of _ (by decide +kernel)) ggX7_seekOrder_X7_seekOrder
theorem dX7_seekOrder_0 : decode cX7_seekOrder 0 = .ok (.iload_n 1, 1) := by decide +kernel
theorem dX7_seekOrder_1 : decode cX7_seekOrder 1 = .ok (.aload_n 0, 1) := by decide +kernel
theorem dX7_seekOrder_2 : decode cX7_seekOrder 2 = .ok (.getfield 77, 3) := by decide +kernel
theorem dX7_seekOrder_5 : decode cX7_seekOrder 5 = .ok (.if_icmp .ne 103, 3) := by decide +kernel
theorem dX7_seekOrder_8 : decode cX7_seekOrder 8 = .ok (.aload_n 0, 1) := by decide +kernel
theorem dX7_seekOrder_9 : decode cX7_seekOrder 9 = .ok (.invokevirtual 236, 3) := by decide +kernel
theorem dX7_seekOrder_12 : decode cX7_seekOrder 12 = .ok (.astore_n 3, 1) := by decide +kernel
theorem dX7_seekOrder_13 : decode cX7_seekOrder 13 = .ok (.iconst 0, 1) := by decide +kernel
theorem dX7_seekOrder_14 : decode cX7_seekOrder 14 = .ok (.istore 4, 2) := by decide +kernel
theorem dX7_seekOrder_16 : decode cX7_seekOrder 16 = .ok (.iload 4, 2) := by decide +kernel
theorem dX7_seekOrder_18 : decode cX7_seekOrder 18 = .ok (.aload_n 0, 1) := by decide +kernel
theorem dX7_seekOrder_19 : decode cX7_seekOrder 19 = .ok (.getfield 77, 3) := by decide +kernel
theorem dX7_seekOrder_22 : decode cX7_seekOrder 22 = .ok (.if_icmp .ge 32, 3) := by decide +kernel
theorem dX7_seekOrder_25 : decode cX7_seekOrder 25 = .ok (.aload_n 3, 1) := by decide +kernel
theorem dX7_seekOrder_26 : decode cX7_seekOrder 26 = .ok (.aload_n 0, 1) := by decide +kernel
theorem dX7_seekOrder_27 : decode cX7_seekOrder 27 = .ok (.getfield 71, 3) := by decide +kernel
theorem dX7_seekOrder_30 : decode cX7_seekOrder 30 = .ok (.iload 4, 2) := by decide +kernel
theorem dX7_seekOrder_32 : decode cX7_seekOrder 32 = .ok (.iaload, 1) := by decide +kernel
theorem dX7_seekOrder_33 : decode cX7_seekOrder 33 = .ok (.aload_n 3, 1) := by decide +kernel
theorem dX7_seekOrder_34 : decode cX7_seekOrder 34 = .ok (.aload_n 0, 1) := by decide +kernel
theorem dX7_seekOrder_35 : decode cX7_seekOrder 35 = .ok (.getfield 71, 3) := by decide +kernel
theorem dX7_seekOrder_38 : decode cX7_seekOrder 38 = .ok (.iload 4, 2) := by decide +kernel
theorem dX7_seekOrder_40 : decode cX7_seekOrder 40 = .ok (.iaload, 1) := by decide +kernel
theorem dX7_seekOrder_41 : decode cX7_seekOrder 41 = .ok (.invokevirtual 114, 3) := by decide +kernel
theorem dX7_seekOrder_44 : decode cX7_seekOrder 44 = .ok (.invokevirtual 253, 3) := by decide +kernel
theorem dX7_seekOrder_47 : decode cX7_seekOrder 47 = .ok (.pop, 1) := by decide +kernel
theorem dX7_seekOrder_48 : decode cX7_seekOrder 48 = .ok (.iinc 4 1, 3) := by decide +kernel
theorem dX7_seekOrder_51 : decode cX7_seekOrder 51 = .ok (.goto (-35), 3) := by decide +kernel
theorem dX7_seekOrder_54 : decode cX7_seekOrder 54 = .ok (.aload_n 3, 1) := by decide +kernel
theorem dX7_seekOrder_55 : decode cX7_seekOrder 55 = .ok (.invokevirtual 257, 3) := by decide +kernel
theorem dX7_seekOrder_58 : decode cX7_seekOrder 58 = .ok (.istore 4, 2) := by decide +kernel
theorem dX7_seekOrder_60 : decode cX7_seekOrder 60 = .ok (.iload 4, 2) := by decide +kernel
theorem dX7_seekOrder_62 : decode cX7_seekOrder 62 = .ok (.aload_n 0, 1) := by decide +kernel
theorem dX7_seekOrder_63 : decode cX7_seekOrder 63 = .ok (.getfield 275, 3) := by decide +kernel
theorem dX7_seekOrder_66 : decode cX7_seekOrder 66 = .ok (.if_icmp .le 41, 3) := by decide +kernel
theorem dX7_seekOrder_69 : decode cX7_seekOrder 69 = .ok (.aload_n 0, 1) := by decide +kernel
theorem dX7_seekOrder_70 : decode cX7_seekOrder 70 = .ok (.iload 4, 2) := by decide +kernel
theorem dX7_seekOrder_72 : decode cX7_seekOrder 72 = .ok (.putfield 275, 3) := by decide +kernel
theorem dX7_seekOrder_75 : decode cX7_seekOrder 75 = .ok (.iconst 0, 1) := by decide +kernel
theorem dX7_seekOrder_76 : decode cX7_seekOrder 76 = .ok (.istore 5, 2) := by decide +kernel
theorem dX7_seekOrder_78 : decode cX7_seekOrder 78 = .ok (.iload 5, 2) := by decide +kernel
theorem dX7_seekOrder_80 : decode cX7_seekOrder 80 = .ok (.aload_n 0, 1) := by decide +kernel
theorem dX7_seekOrder_81 : decode cX7_seekOrder 81 = .ok (.getfield 77, 3) := by decide +kernel
theorem dX7_seekOrder_84 : decode cX7_seekOrder 84 = .ok (.if_icmp .ge 23, 3) := by decide +kernel
theorem dX7_seekOrder_87 : decode cX7_seekOrder 87 = .ok (.aload_n 0, 1) := by decide +kernel
theorem dX7_seekOrder_88 : decode cX7_seekOrder 88 = .ok (.getfield 74, 3) := by decide +kernel
theorem dX7_seekOrder_91 : decode cX7_seekOrder 91 = .ok (.iload 5, 2) := by decide +kernel
theorem dX7_seekOrder_93 : decode cX7_seekOrder 93 = .ok (.aload_n 0, 1) := by decide +kernel
theorem dX7_seekOrder_94 : decode cX7_seekOrder 94 = .ok (.getfield 71, 3) := by decide +kernel
theorem dX7_seekOrder_97 : decode cX7_seekOrder 97 = .ok (.iload 5, 2) := by decide +kernel
theorem dX7_seekOrder_99 : decode cX7_seekOrder 99 = .ok (.iaload, 1) := by decide +kernel
theorem dX7_seekOrder_100 : decode cX7_seekOrder 100 = .ok (.iastore, 1) := by decide +kernel
theorem dX7_seekOrder_101 : decode cX7_seekOrder 101 = .ok (.iinc 5 1, 3) := by decide +kernel
theorem dX7_seekOrder_104 : decode cX7_seekOrder 104 = .ok (.goto (-26), 3) := by decide +kernel
theorem dX7_seekOrder_107 : decode cX7_seekOrder 107 = .ok (.return_, 1) := by decide +kernel
theorem dX7_seekOrder_108 : decode cX7_seekOrder 108 = .ok (.iconst 0, 1) := by decide +kernel
theorem dX7_seekOrder_109 : decode cX7_seekOrder 109 = .ok (.istore_n 3, 1) := by decide +kernel
theorem dX7_seekOrder_110 : decode cX7_seekOrder 110 = .ok (.iload_n 3, 1) := by decide +kernel
theorem dX7_seekOrder_111 : decode cX7_seekOrder 111 = .ok (.aload_n 0, 1) := by decide +kernel
theorem dX7_seekOrder_112 : decode cX7_seekOrder 112 = .ok (.getfield 77, 3) := by decide +kernel
theorem dX7_seekOrder_115 : decode cX7_seekOrder 115 = .ok (.if_icmp .ge 36, 3) := by decide +kernel
theorem dX7_seekOrder_118 : decode cX7_seekOrder 118 = .ok (.iload_n 2, 1) := by decide +kernel
theorem dX7_seekOrder_119 : decode cX7_seekOrder 119 = .ok (.iload_n 3, 1) := by decide +kernel
theorem dX7_seekOrder_120 : decode cX7_seekOrder 120 = .ok (.invokestatic 84, 3) := by decide +kernel
theorem dX7_seekOrder_123 : decode cX7_seekOrder 123 = .ok (.ifCond .ne 22, 3) := by decide +kernel
theorem dX7_seekOrder_126 : decode cX7_seekOrder 126 = .ok (.aload_n 0, 1) := by decide +kernel
theorem dX7_seekOrder_127 : decode cX7_seekOrder 127 = .ok (.getfield 71, 3) := by decide +kernel
theorem dX7_seekOrder_130 : decode cX7_seekOrder 130 = .ok (.iload_n 1, 1) := by decide +kernel
theorem dX7_seekOrder_131 : decode cX7_seekOrder 131 = .ok (.iload_n 3, 1) := by decide +kernel
theorem dX7_seekOrder_132 : decode cX7_seekOrder 132 = .ok (.iastore, 1) := by decide +kernel
theorem dX7_seekOrder_133 : decode cX7_seekOrder 133 = .ok (.aload_n 0, 1) := by decide +kernel
theorem dX7_seekOrder_134 : decode cX7_seekOrder 134 = .ok (.iload_n 1, 1) := by decide +kernel
theorem dX7_seekOrder_135 : decode cX7_seekOrder 135 = .ok (.iconst 1, 1) := by decide +kernel
theorem dX7_seekOrder_136 : decode cX7_seekOrder 136 = .ok (.iadd, 1) := by decide +kernel
theorem dX7_seekOrder_137 : decode cX7_seekOrder 137 = .ok (.iload_n 2, 1) := by decide +kernel
theorem dX7_seekOrder_138 : decode cX7_seekOrder 138 = .ok (.iconst 1, 1) := by decide +kernel
theorem dX7_seekOrder_139 : decode cX7_seekOrder 139 = .ok (.iload_n 3, 1) := by decide +kernel
theorem dX7_seekOrder_140 : decode cX7_seekOrder 140 = .ok (.ishl, 1) := by decide +kernel
theorem dX7_seekOrder_141 : decode cX7_seekOrder 141 = .ok (.ior, 1) := by decide +kernel
theorem dX7_seekOrder_142 : decode cX7_seekOrder 142 = .ok (.invokevirtual 278, 3) := by decide +kernel
theorem dX7_seekOrder_145 : decode cX7_seekOrder 145 = .ok (.iinc 3 1, 3) := by decide +kernel
theorem dX7_seekOrder_148 : decode cX7_seekOrder 148 = .ok (.goto (-38), 3) := by decide +kernel
theorem dX7_seekOrder_151 : decode cX7_seekOrder 151 = .ok (.return_, 1) := by decide +kernel
set_option maxRecDepth 20000 in
theorem ggX7_order_X7_in : GoodIn wsX7_order wsX7_in := goodIn_r _ [8] (by decide +kernel) (by decide +kernel)
set_option maxRecDepth 20000 in
theorem gX7_order_X7_in : GoodIn wsX7_order (va_wsS RX7 80 yX7_in wsX7_in) := goodIn_app (goodIn_of _ (by decide +kernel)) ggX7_order_X7_in
set_option maxRecDepth 20000 in
theorem ggX7_order_X7_refuse : GoodIn wsX7_order wsX7_refuse := goodIn_r _ [12, 13, 91, 92, 93, 94, 95, 96, 97, 98, 99, 100, 101, 102, 103, 104, 105, 106, 107, 108, 109, 110, 111, 112, 113, 114, 115, 116, 117, 118, 119, 120, 121, 122, 123] (by decide +kernel) (by decide +kernel)
set_option maxRecDepth 20000 in
theorem gX7_order_X7_refuse : GoodIn wsX7_order (wsV RX7 94 RX7 yX7_refuse wsX7_refuse) := goodIn_app (goodIn_of _ (by decide +kernel)) ggX7_order_X7_refuse
set_option maxRecDepth 20000 in
theorem ggX7_order_X7_seekOrder : GoodIn wsX7_order wsX7_seekOrder := goodIn_r _ [17, 2, 18, 3, 4, 19, 20, 21, 7, 22, 23, 24, 25, 26, 27, 28, 29, 30, 31, 32, 33, 34, 35, 36, 37, 38, 39, 40, 41, 13, 42, 43, 44, 45, 46, 47, 48, 49, 50, 51, 52, 53, 54, 55, 56, 57, 58, 59, 60, 61, 62, 63, 64, 65, 66, 67, 68, 69, 70, 71, 72, 73, 74, 75, 76, 77, 78, 79, 80, 81, 82, 83, 84, 85, 86, 87, 88, 89, 90, 14, 15, 16, 91, 92, 93, 94, 95, 96, 97, 98, 99, 100, 101, 102, 103, 104, 105, 106, 107, 108, 109, 110, 111, 112, 113, 114, 115, 116, 117, 118, 119, 120, 121, 122, 123] (by decide +kernel) (by decide +kernel)
set_option maxRecDepth 20000 in
theorem gX7_order_X7_seekOrder : GoodIn wsX7_order (wsV RX7 278 RX7 yX7_seekOrder wsX7_seekOrder) := goodIn_app (goodIn_of _ (by decide +kernel)) ggX7_order_X7_seekOrder
theorem dX7_order_0 : decode cX7_order 0 = .ok (.iload_n 1, 1) := by decide +kernel
theorem dX7_order_1 : decode cX7_order 1 = .ok (.i2l, 1) := by decide +kernel
theorem dX7_order_2 : decode cX7_order 2 = .ok (.ldc2_w 281, 3) := by decide +kernel
theorem dX7_order_5 : decode cX7_order 5 = .ok (.aload_n 0, 1) := by decide +kernel
theorem dX7_order_6 : decode cX7_order 6 = .ok (.getfield 77, 3) := by decide +kernel
theorem dX7_order_9 : decode cX7_order 9 = .ok (.iconst 1, 1) := by decide +kernel
theorem dX7_order_10 : decode cX7_order 10 = .ok (.isub, 1) := by decide +kernel
theorem dX7_order_11 : decode cX7_order 11 = .ok (.i2l, 1) := by decide +kernel
theorem dX7_order_12 : decode cX7_order 12 = .ok (.invokestatic 80, 3) := by decide +kernel
theorem dX7_order_15 : decode cX7_order 15 = .ok (.ifCond .ne 10, 3) := by decide +kernel
theorem dX7_order_18 : decode cX7_order 18 = .ok (.aload_n 0, 1) := by decide +kernel
theorem dX7_order_19 : decode cX7_order 19 = .ok (.bipush (-2), 2) := by decide +kernel
theorem dX7_order_21 : decode cX7_order 21 = .ok (.invokevirtual 94, 3) := by decide +kernel
theorem dX7_order_24 : decode cX7_order 24 = .ok (.ireturn, 1) := by decide +kernel
theorem dX7_order_25 : decode cX7_order 25 = .ok (.aload_n 0, 1) := by decide +kernel
theorem dX7_order_26 : decode cX7_order 26 = .ok (.iconst (-1), 1) := by decide +kernel
theorem dX7_order_27 : decode cX7_order 27 = .ok (.putfield 275, 3) := by decide +kernel
theorem dX7_order_30 : decode cX7_order 30 = .ok (.aload_n 0, 1) := by decide +kernel
theorem dX7_order_31 : decode cX7_order 31 = .ok (.iconst 0, 1) := by decide +kernel
theorem dX7_order_32 : decode cX7_order 32 = .ok (.iconst 0, 1) := by decide +kernel
theorem dX7_order_33 : decode cX7_order 33 = .ok (.invokevirtual 278, 3) := by decide +kernel
theorem dX7_order_36 : decode cX7_order 36 = .ok (.iload_n 1, 1) := by decide +kernel
theorem dX7_order_37 : decode cX7_order 37 = .ok (.iconst (-1), 1) := by decide +kernel
theorem dX7_order_38 : decode cX7_order 38 = .ok (.if_icmp .ne 10, 3) := by decide +kernel
theorem dX7_order_41 : decode cX7_order 41 = .ok (.aload_n 0, 1) := by decide +kernel
theorem dX7_order_42 : decode cX7_order 42 = .ok (.getfield 275, 3) := by decide +kernel
theorem dX7_order_45 : decode cX7_order 45 = .ok (.goto 9, 3) := by decide +kernel
theorem dX7_order_48 : decode cX7_order 48 = .ok (.aload_n 0, 1) := by decide +kernel
theorem dX7_order_49 : decode cX7_order 49 = .ok (.getfield 74, 3) := by decide +kernel
theorem dX7_order_52 : decode cX7_order 52 = .ok (.iload_n 1, 1) := by decide +kernel
theorem dX7_order_53 : decode cX7_order 53 = .ok (.iaload, 1) := by decide +kernel
theorem dX7_order_54 : decode cX7_order 54 = .ok (.ireturn, 1) := by decide +kernel
set_option maxRecDepth 20000 in
theorem ggX7_knownTo_X7_knows : GoodIn wsX7_knownTo wsX7_knows := goodIn_r _ [6, 7, 8, 9, 13, 14, 15, 16, 17, 18, 19, 20, 21, 22, 23, 24, 25, 26, 27, 28, 29, 30, 31, 32, 33, 34, 35, 36, 37, 38, 39, 40, 41, 42, 43, 44, 45] (by decide +kernel) (by decide +kernel)
set_option maxRecDepth 20000 in
theorem gX7_knownTo_X7_knows : GoodIn wsX7_knownTo (wsV RX7 247 RX7 yX7_knows wsX7_knows) := goodIn_app (goodIn_of _ (by decide +kernel)) ggX7_knownTo_X7_knows
set_option maxRecDepth 20000 in
theorem ggX7_knownTo_X7_bits : GoodIn wsX7_knownTo wsX7_bits := goodIn_r _ [12] (by decide +kernel) (by decide +kernel)
set_option maxRecDepth 20000 in
theorem gX7_knownTo_X7_bits : GoodIn wsX7_knownTo (va_wsS RX7 117 yX7_bits wsX7_bits) := goodIn_app (goodIn_of _ (by decide +kernel)) ggX7_knownTo_X7_bits
theorem dX7_knownTo_0 : decode cX7_knownTo 0 = .ok (.iconst 0, 1) := by decide +kernel
theorem dX7_knownTo_1 : decode cX7_knownTo 1 = .ok (.istore_n 2, 1) := by decide +kernel
theorem dX7_knownTo_2 : decode cX7_knownTo 2 = .ok (.iconst 0, 1) := by decide +kernel
theorem dX7_knownTo_3 : decode cX7_knownTo 3 = .ok (.istore_n 3, 1) := by decide +kernel
theorem dX7_knownTo_4 : decode cX7_knownTo 4 = .ok (.iload_n 3, 1) := by decide +kernel
theorem dX7_knownTo_5 : decode cX7_knownTo 5 = .ok (.aload_n 0, 1) := by decide +kernel
theorem dX7_knownTo_6 : decode cX7_knownTo 6 = .ok (.getfield 77, 3) := by decide +kernel
theorem dX7_knownTo_9 : decode cX7_knownTo 9 = .ok (.if_icmp .ge 29, 3) := by decide +kernel
theorem dX7_knownTo_12 : decode cX7_knownTo 12 = .ok (.iload_n 2, 1) := by decide +kernel
theorem dX7_knownTo_13 : decode cX7_knownTo 13 = .ok (.iload_n 3, 1) := by decide +kernel
theorem dX7_knownTo_14 : decode cX7_knownTo 14 = .ok (.iload_n 1, 1) := by decide +kernel
theorem dX7_knownTo_15 : decode cX7_knownTo 15 = .ok (.if_icmp .ne 7, 3) := by decide +kernel
theorem dX7_knownTo_18 : decode cX7_knownTo 18 = .ok (.iconst 0, 1) := by decide +kernel
theorem dX7_knownTo_19 : decode cX7_knownTo 19 = .ok (.goto 11, 3) := by decide +kernel
theorem dX7_knownTo_22 : decode cX7_knownTo 22 = .ok (.aload_n 0, 1) := by decide +kernel
theorem dX7_knownTo_23 : decode cX7_knownTo 23 = .ok (.iload_n 3, 1) := by decide +kernel
theorem dX7_knownTo_24 : decode cX7_knownTo 24 = .ok (.invokevirtual 247, 3) := by decide +kernel
theorem dX7_knownTo_27 : decode cX7_knownTo 27 = .ok (.invokestatic 117, 3) := by decide +kernel
theorem dX7_knownTo_30 : decode cX7_knownTo 30 = .ok (.iadd, 1) := by decide +kernel
theorem dX7_knownTo_31 : decode cX7_knownTo 31 = .ok (.istore_n 2, 1) := by decide +kernel
theorem dX7_knownTo_32 : decode cX7_knownTo 32 = .ok (.iinc 3 1, 3) := by decide +kernel
theorem dX7_knownTo_35 : decode cX7_knownTo 35 = .ok (.goto (-31), 3) := by decide +kernel
theorem dX7_knownTo_38 : decode cX7_knownTo 38 = .ok (.iload_n 2, 1) := by decide +kernel
theorem dX7_knownTo_39 : decode cX7_knownTo 39 = .ok (.ireturn, 1) := by decide +kernel
set_option maxRecDepth 20000 in
theorem ggX7_worth_X7_isOne : GoodIn wsX7_worth wsX7_isOne := goodIn_r _ [7, 2, 8, 9, 6, 10, 101, 102, 103, 104, 105, 106, 107, 108, 109, 110, 111, 112, 113, 114, 115, 116, 117, 118, 119, 120, 121, 122, 123, 124, 125, 126, 127, 128, 129, 130, 131, 132, 133] (by decide +kernel) (by decide +kernel)
set_option maxRecDepth 20000 in
theorem gX7_worth_X7_isOne : GoodIn wsX7_worth (wsV RX7 105 RX7 yX7_isOne wsX7_isOne) := goodIn_app (goodIn_of _ (by decide +kernel)) ggX7_worth_X7_isOne
set_option maxRecDepth 20000 in
theorem ggX7_worth_X7_isRounds : GoodIn wsX7_worth wsX7_isRounds := goodIn_r _ [13, 14, 8, 9, 6, 10] (by decide +kernel) (by decide +kernel)
set_option maxRecDepth 20000 in
theorem gX7_worth_X7_isRounds : GoodIn wsX7_worth (va_wsS RX7 265 yX7_isRounds wsX7_isRounds) := goodIn_app (goodIn_of _ (by decide +kernel)) ggX7_worth_X7_isRounds
set_option maxRecDepth 20000 in
theorem ggX7_worth_X7_refuse : GoodIn wsX7_worth wsX7_refuse := goodIn_r _ [18, 19, 101, 102, 103, 104, 105, 106, 107, 108, 109, 110, 111, 112, 113, 114, 115, 116, 117, 118, 119, 120, 121, 122, 123, 124, 125, 126, 127, 128, 129, 130, 131, 132, 133] (by decide +kernel) (by decide +kernel)
set_option maxRecDepth 20000 in
theorem gX7_worth_X7_refuse : GoodIn wsX7_worth (wsV RX7 94 RX7 yX7_refuse wsX7_refuse) := goodIn_app (goodIn_of _ (by decide +kernel)) ggX7_worth_X7_refuse
set_option maxRecDepth 20000 in
theorem ggX7_worth_X7_after : GoodIn wsX7_worth wsX7_after := goodIn_r _ [23, 24, 25, 26, 6, 27, 28, 29, 30, 31, 32, 33, 34, 35, 36, 37, 38, 39, 40, 41, 42, 43, 44, 45, 46, 19, 47, 48, 49, 50, 51, 52, 1, 53, 54, 55, 56, 57, 58, 59, 60, 61, 62, 2, 63, 64, 65, 66, 67, 68, 69, 70, 71, 72, 73, 74, 75, 76, 77, 78, 79, 80, 81, 82, 83, 84, 85, 86, 87, 88, 89, 90, 91, 92, 101, 102, 103, 104, 105, 106, 107, 108, 109, 110, 111, 112, 113, 114, 115, 116, 117, 118, 119, 120, 121, 122, 123, 124, 125, 126, 127, 128, 129, 130, 131, 132, 133] (by decide +kernel) (by decide +kernel)
set_option maxRecDepth 20000 in
theorem gX7_worth_X7_after : GoodIn wsX7_worth (wsV RX7 268 RX7 yX7_after wsX7_after) := goodIn_app (goodIn_of _ (by decide +kernel)) ggX7_worth_X7_after
set_option maxRecDepth 20000 in
theorem ggX7_worth_X7_knownTo : GoodIn wsX7_worth wsX7_knownTo := goodIn_r _ [96, 2, 97, 98, 99, 6, 100, 50, 51, 52, 90, 91, 92, 101, 102, 103, 104, 105, 106, 107, 108, 109, 110, 111, 112, 113, 114, 115, 116, 117, 118, 119, 120, 121, 122, 123, 124, 125, 126, 127, 128, 129, 130, 131, 132, 133] (by decide +kernel) (by decide +kernel)
set_option maxRecDepth 20000 in
theorem gX7_worth_X7_knownTo : GoodIn wsX7_worth (wsV RX7 283 RX7 yX7_knownTo wsX7_knownTo) := goodIn_app (goodIn_of _ (by decide +kernel)) ggX7_worth_X7_knownTo
set_option maxRecDepth 20000 in
theorem ggX7_worth_X7_fresh : GoodIn wsX7_worth wsX7_fresh := goodIn_r _ [27, 28, 29, 30, 6, 31, 32, 33, 34, 35, 36, 37, 38, 39, 40, 41, 42, 43, 44, 45, 46, 19, 47, 48, 49, 50, 51, 52, 1, 53, 54, 55, 56, 57, 58, 59, 60, 61, 62, 2, 63, 64, 65, 66, 101, 102, 103, 104, 105, 106, 107, 108, 109, 110, 111, 112, 113, 114, 115, 116, 117, 118, 119, 120, 121, 122, 123, 124, 125, 126, 127, 128, 129, 130, 131, 132, 133] (by decide +kernel) (by decide +kernel)
set_option maxRecDepth 20000 in
theorem gX7_worth_X7_fresh : GoodIn wsX7_worth (wsV RX7 236 RX7 yX7_fresh wsX7_fresh) := goodIn_app (goodIn_of _ (by decide +kernel)) ggX7_worth_X7_fresh
set_option maxRecDepth 20000 in
theorem ggX7_worth_X7_goesRound : GoodIn wsX7_worth wsX7_goesRound := goodIn_r _ [70, 2, 56, 53, 47, 1, 50, 52, 71, 72, 73, 6, 74, 48, 75, 76, 77, 78, 51, 79, 80, 81, 82, 83, 84, 85, 86, 87, 88, 89, 90, 91, 92, 101, 102, 103, 104, 105, 106, 107, 108, 109, 110, 111, 112, 113, 114, 115, 116, 117, 118, 119, 120, 121, 122, 123, 124, 125, 126, 127, 128, 129, 130, 131, 132, 133] (by decide +kernel) (by decide +kernel)
set_option maxRecDepth 20000 in
theorem gX7_worth_X7_goesRound : GoodIn wsX7_worth (wsV RX7 262 RX7 yX7_goesRound wsX7_goesRound) := goodIn_app (goodIn_of _ (by decide +kernel)) ggX7_worth_X7_goesRound
theorem dX7_worth_0 : decode cX7_worth 0 = .ok (.aload_n 0, 1) := by decide +kernel
theorem dX7_worth_1 : decode cX7_worth 1 = .ok (.iload_n 1, 1) := by decide +kernel
theorem dX7_worth_2 : decode cX7_worth 2 = .ok (.invokevirtual 105, 3) := by decide +kernel
theorem dX7_worth_5 : decode cX7_worth 5 = .ok (.ifCond .eq 10, 3) := by decide +kernel
theorem dX7_worth_8 : decode cX7_worth 8 = .ok (.iload_n 2, 1) := by decide +kernel
theorem dX7_worth_9 : decode cX7_worth 9 = .ok (.invokestatic 265, 3) := by decide +kernel
theorem dX7_worth_12 : decode cX7_worth 12 = .ok (.ifCond .ne 10, 3) := by decide +kernel
theorem dX7_worth_15 : decode cX7_worth 15 = .ok (.aload_n 0, 1) := by decide +kernel
theorem dX7_worth_16 : decode cX7_worth 16 = .ok (.bipush (-2), 2) := by decide +kernel
theorem dX7_worth_18 : decode cX7_worth 18 = .ok (.invokevirtual 94, 3) := by decide +kernel
theorem dX7_worth_21 : decode cX7_worth 21 = .ok (.ireturn, 1) := by decide +kernel
theorem dX7_worth_22 : decode cX7_worth 22 = .ok (.aload_n 0, 1) := by decide +kernel
theorem dX7_worth_23 : decode cX7_worth 23 = .ok (.iload_n 2, 1) := by decide +kernel
theorem dX7_worth_24 : decode cX7_worth 24 = .ok (.invokevirtual 268, 3) := by decide +kernel
theorem dX7_worth_27 : decode cX7_worth 27 = .ok (.iload_n 1, 1) := by decide +kernel
theorem dX7_worth_28 : decode cX7_worth 28 = .ok (.invokevirtual 283, 3) := by decide +kernel
theorem dX7_worth_31 : decode cX7_worth 31 = .ok (.istore_n 3, 1) := by decide +kernel
theorem dX7_worth_32 : decode cX7_worth 32 = .ok (.aload_n 0, 1) := by decide +kernel
theorem dX7_worth_33 : decode cX7_worth 33 = .ok (.invokevirtual 236, 3) := by decide +kernel
theorem dX7_worth_36 : decode cX7_worth 36 = .ok (.astore 4, 2) := by decide +kernel
theorem dX7_worth_38 : decode cX7_worth 38 = .ok (.aload 4, 2) := by decide +kernel
theorem dX7_worth_40 : decode cX7_worth 40 = .ok (.getfield 56, 3) := by decide +kernel
theorem dX7_worth_43 : decode cX7_worth 43 = .ok (.iload_n 1, 1) := by decide +kernel
theorem dX7_worth_44 : decode cX7_worth 44 = .ok (.iconst 0, 1) := by decide +kernel
theorem dX7_worth_45 : decode cX7_worth 45 = .ok (.iastore, 1) := by decide +kernel
theorem dX7_worth_46 : decode cX7_worth 46 = .ok (.iconst 0, 1) := by decide +kernel
theorem dX7_worth_47 : decode cX7_worth 47 = .ok (.istore 5, 2) := by decide +kernel
theorem dX7_worth_49 : decode cX7_worth 49 = .ok (.iload 5, 2) := by decide +kernel
theorem dX7_worth_51 : decode cX7_worth 51 = .ok (.aload_n 0, 1) := by decide +kernel
theorem dX7_worth_52 : decode cX7_worth 52 = .ok (.getfield 77, 3) := by decide +kernel
theorem dX7_worth_55 : decode cX7_worth 55 = .ok (.if_icmp .ge 25, 3) := by decide +kernel
theorem dX7_worth_58 : decode cX7_worth 58 = .ok (.aload 4, 2) := by decide +kernel
theorem dX7_worth_60 : decode cX7_worth 60 = .ok (.getfield 56, 3) := by decide +kernel
theorem dX7_worth_63 : decode cX7_worth 63 = .ok (.iload 5, 2) := by decide +kernel
theorem dX7_worth_65 : decode cX7_worth 65 = .ok (.dup2, 1) := by decide +kernel
theorem dX7_worth_66 : decode cX7_worth 66 = .ok (.iaload, 1) := by decide +kernel
theorem dX7_worth_67 : decode cX7_worth 67 = .ok (.iconst 1, 1) := by decide +kernel
theorem dX7_worth_68 : decode cX7_worth 68 = .ok (.iload_n 1, 1) := by decide +kernel
theorem dX7_worth_69 : decode cX7_worth 69 = .ok (.ishl, 1) := by decide +kernel
theorem dX7_worth_70 : decode cX7_worth 70 = .ok (.iconst (-1), 1) := by decide +kernel
theorem dX7_worth_71 : decode cX7_worth 71 = .ok (.ixor, 1) := by decide +kernel
theorem dX7_worth_72 : decode cX7_worth 72 = .ok (.iand, 1) := by decide +kernel
theorem dX7_worth_73 : decode cX7_worth 73 = .ok (.iastore, 1) := by decide +kernel
theorem dX7_worth_74 : decode cX7_worth 74 = .ok (.iinc 5 1, 3) := by decide +kernel
theorem dX7_worth_77 : decode cX7_worth 77 = .ok (.goto (-28), 3) := by decide +kernel
theorem dX7_worth_80 : decode cX7_worth 80 = .ok (.iconst 0, 1) := by decide +kernel
theorem dX7_worth_81 : decode cX7_worth 81 = .ok (.istore 5, 2) := by decide +kernel
theorem dX7_worth_83 : decode cX7_worth 83 = .ok (.iload 5, 2) := by decide +kernel
theorem dX7_worth_85 : decode cX7_worth 85 = .ok (.iload_n 2, 1) := by decide +kernel
theorem dX7_worth_86 : decode cX7_worth 86 = .ok (.if_icmp .ge 15, 3) := by decide +kernel
theorem dX7_worth_89 : decode cX7_worth 89 = .ok (.aload 4, 2) := by decide +kernel
theorem dX7_worth_91 : decode cX7_worth 91 = .ok (.invokevirtual 262, 3) := by decide +kernel
theorem dX7_worth_94 : decode cX7_worth 94 = .ok (.pop, 1) := by decide +kernel
theorem dX7_worth_95 : decode cX7_worth 95 = .ok (.iinc 5 1, 3) := by decide +kernel
theorem dX7_worth_98 : decode cX7_worth 98 = .ok (.goto (-15), 3) := by decide +kernel
theorem dX7_worth_101 : decode cX7_worth 101 = .ok (.iload_n 3, 1) := by decide +kernel
theorem dX7_worth_102 : decode cX7_worth 102 = .ok (.aload 4, 2) := by decide +kernel
theorem dX7_worth_104 : decode cX7_worth 104 = .ok (.iload_n 1, 1) := by decide +kernel
theorem dX7_worth_105 : decode cX7_worth 105 = .ok (.invokevirtual 283, 3) := by decide +kernel
theorem dX7_worth_108 : decode cX7_worth 108 = .ok (.isub, 1) := by decide +kernel
theorem dX7_worth_109 : decode cX7_worth 109 = .ok (.ireturn, 1) := by decide +kernel
set_option maxRecDepth 20000 in
theorem ggX7_chain_X7_isOne : GoodIn wsX7_chain wsX7_isOne := goodIn_r _ [7, 1, 8, 9, 6, 10, 35, 36, 37, 38, 39, 40, 41, 42, 43, 44, 45, 46, 47, 48, 49, 50, 51, 52, 53, 54, 55, 56, 57, 58, 59, 60, 61, 62, 63, 64, 65, 66, 67] (by decide +kernel) (by decide +kernel)
set_option maxRecDepth 20000 in
theorem gX7_chain_X7_isOne : GoodIn wsX7_chain (wsV RX7 105 RX7 yX7_isOne wsX7_isOne) := goodIn_app (goodIn_of _ (by decide +kernel)) ggX7_chain_X7_isOne
set_option maxRecDepth 20000 in
theorem ggX7_chain_X7_isSight : GoodIn wsX7_chain wsX7_isSight := goodIn_r _ [14, 15, 8, 9, 6, 10, 35, 36, 37, 38, 39, 40, 41, 42, 43, 44, 45, 46, 47, 48, 49, 50, 51, 52, 53, 54, 55, 56, 57, 58, 59, 60, 61, 62, 63, 64, 65, 66, 67] (by decide +kernel) (by decide +kernel)
set_option maxRecDepth 20000 in
theorem gX7_chain_X7_isSight : GoodIn wsX7_chain (wsV RX7 138 RX7 yX7_isSight wsX7_isSight) := goodIn_app (goodIn_of _ (by decide +kernel)) ggX7_chain_X7_isSight
set_option maxRecDepth 20000 in
theorem ggX7_chain_X7_refuse : GoodIn wsX7_chain wsX7_refuse := goodIn_r _ [19, 20, 35, 36, 37, 38, 39, 40, 41, 42, 43, 44, 45, 46, 47, 48, 49, 50, 51, 52, 53, 54, 55, 56, 57, 58, 59, 60, 61, 62, 63, 64, 65, 66, 67] (by decide +kernel) (by decide +kernel)
set_option maxRecDepth 20000 in
theorem gX7_chain_X7_refuse : GoodIn wsX7_chain (wsV RX7 94 RX7 yX7_refuse wsX7_refuse) := goodIn_app (goodIn_of _ (by decide +kernel)) ggX7_chain_X7_refuse
set_option maxRecDepth 20000 in
theorem ggX7_chain_X7_has : GoodIn wsX7_chain wsX7_has := goodIn_r _ [23] (by decide +kernel) (by decide +kernel)
set_option maxRecDepth 20000 in
theorem gX7_chain_X7_has : GoodIn wsX7_chain (va_wsS RX7 84 yX7_has wsX7_has) := goodIn_app (goodIn_of _ (by decide +kernel)) ggX7_chain_X7_has
set_option maxRecDepth 20000 in
theorem ggX7_chain_X7_barredOf : GoodIn wsX7_chain wsX7_barredOf := goodIn_r _ [27, 1, 28, 29, 30, 6, 31, 32, 33, 34, 21, 22, 23, 35, 36, 37, 38, 39, 40, 41, 42, 43, 44, 45, 46, 47, 48, 49, 50, 51, 52, 53, 54, 55, 56, 57, 58, 59, 60, 61, 62, 63, 64, 65, 66, 67] (by decide +kernel) (by decide +kernel)
set_option maxRecDepth 20000 in
theorem gX7_chain_X7_barredOf : GoodIn wsX7_chain (wsV RX7 286 RX7 yX7_barredOf wsX7_barredOf) := goodIn_app (goodIn_of _ (by decide +kernel)) ggX7_chain_X7_barredOf
theorem dX7_chain_0 : decode cX7_chain 0 = .ok (.aload_n 0, 1) := by decide +kernel
theorem dX7_chain_1 : decode cX7_chain 1 = .ok (.iload_n 1, 1) := by decide +kernel
theorem dX7_chain_2 : decode cX7_chain 2 = .ok (.invokevirtual 105, 3) := by decide +kernel
theorem dX7_chain_5 : decode cX7_chain 5 = .ok (.ifCond .eq 19, 3) := by decide +kernel
theorem dX7_chain_8 : decode cX7_chain 8 = .ok (.aload_n 0, 1) := by decide +kernel
theorem dX7_chain_9 : decode cX7_chain 9 = .ok (.iload_n 2, 1) := by decide +kernel
theorem dX7_chain_10 : decode cX7_chain 10 = .ok (.invokevirtual 105, 3) := by decide +kernel
theorem dX7_chain_13 : decode cX7_chain 13 = .ok (.ifCond .eq 11, 3) := by decide +kernel
theorem dX7_chain_16 : decode cX7_chain 16 = .ok (.aload_n 0, 1) := by decide +kernel
theorem dX7_chain_17 : decode cX7_chain 17 = .ok (.iload_n 3, 1) := by decide +kernel
theorem dX7_chain_18 : decode cX7_chain 18 = .ok (.invokevirtual 138, 3) := by decide +kernel
theorem dX7_chain_21 : decode cX7_chain 21 = .ok (.ifCond .ne 10, 3) := by decide +kernel
theorem dX7_chain_24 : decode cX7_chain 24 = .ok (.aload_n 0, 1) := by decide +kernel
theorem dX7_chain_25 : decode cX7_chain 25 = .ok (.bipush (-2), 2) := by decide +kernel
theorem dX7_chain_27 : decode cX7_chain 27 = .ok (.invokevirtual 94, 3) := by decide +kernel
theorem dX7_chain_30 : decode cX7_chain 30 = .ok (.ireturn, 1) := by decide +kernel
theorem dX7_chain_31 : decode cX7_chain 31 = .ok (.iconst 1, 1) := by decide +kernel
theorem dX7_chain_32 : decode cX7_chain 32 = .ok (.iload_n 1, 1) := by decide +kernel
theorem dX7_chain_33 : decode cX7_chain 33 = .ok (.ishl, 1) := by decide +kernel
theorem dX7_chain_34 : decode cX7_chain 34 = .ok (.istore 4, 2) := by decide +kernel
theorem dX7_chain_36 : decode cX7_chain 36 = .ok (.iload 4, 2) := by decide +kernel
theorem dX7_chain_38 : decode cX7_chain 38 = .ok (.istore 5, 2) := by decide +kernel
theorem dX7_chain_40 : decode cX7_chain 40 = .ok (.iconst 0, 1) := by decide +kernel
theorem dX7_chain_41 : decode cX7_chain 41 = .ok (.istore 6, 2) := by decide +kernel
theorem dX7_chain_43 : decode cX7_chain 43 = .ok (.iload 6, 2) := by decide +kernel
theorem dX7_chain_45 : decode cX7_chain 45 = .ok (.aload_n 0, 1) := by decide +kernel
theorem dX7_chain_46 : decode cX7_chain 46 = .ok (.getfield 77, 3) := by decide +kernel
theorem dX7_chain_49 : decode cX7_chain 49 = .ok (.if_icmp .gt 88, 3) := by decide +kernel
theorem dX7_chain_52 : decode cX7_chain 52 = .ok (.iload 4, 2) := by decide +kernel
theorem dX7_chain_54 : decode cX7_chain 54 = .ok (.iload_n 2, 1) := by decide +kernel
theorem dX7_chain_55 : decode cX7_chain 55 = .ok (.invokestatic 84, 3) := by decide +kernel
theorem dX7_chain_58 : decode cX7_chain 58 = .ok (.ifCond .eq 6, 3) := by decide +kernel
theorem dX7_chain_61 : decode cX7_chain 61 = .ok (.iload 6, 2) := by decide +kernel
theorem dX7_chain_63 : decode cX7_chain 63 = .ok (.ireturn, 1) := by decide +kernel
theorem dX7_chain_64 : decode cX7_chain 64 = .ok (.iload 4, 2) := by decide +kernel
theorem dX7_chain_66 : decode cX7_chain 66 = .ok (.istore 7, 2) := by decide +kernel
theorem dX7_chain_68 : decode cX7_chain 68 = .ok (.iconst 0, 1) := by decide +kernel
theorem dX7_chain_69 : decode cX7_chain 69 = .ok (.istore 8, 2) := by decide +kernel
theorem dX7_chain_71 : decode cX7_chain 71 = .ok (.iload 8, 2) := by decide +kernel
theorem dX7_chain_73 : decode cX7_chain 73 = .ok (.aload_n 0, 1) := by decide +kernel
theorem dX7_chain_74 : decode cX7_chain 74 = .ok (.getfield 77, 3) := by decide +kernel
theorem dX7_chain_77 : decode cX7_chain 77 = .ok (.if_icmp .ge 35, 3) := by decide +kernel
theorem dX7_chain_80 : decode cX7_chain 80 = .ok (.iload 7, 2) := by decide +kernel
theorem dX7_chain_82 : decode cX7_chain 82 = .ok (.aload_n 0, 1) := by decide +kernel
theorem dX7_chain_83 : decode cX7_chain 83 = .ok (.getfield 56, 3) := by decide +kernel
theorem dX7_chain_86 : decode cX7_chain 86 = .ok (.iload 8, 2) := by decide +kernel
theorem dX7_chain_88 : decode cX7_chain 88 = .ok (.iaload, 1) := by decide +kernel
theorem dX7_chain_89 : decode cX7_chain 89 = .ok (.iload 5, 2) := by decide +kernel
theorem dX7_chain_91 : decode cX7_chain 91 = .ok (.iand, 1) := by decide +kernel
theorem dX7_chain_92 : decode cX7_chain 92 = .ok (.ifCond .eq 10, 3) := by decide +kernel
theorem dX7_chain_95 : decode cX7_chain 95 = .ok (.iconst 1, 1) := by decide +kernel
theorem dX7_chain_96 : decode cX7_chain 96 = .ok (.iload 8, 2) := by decide +kernel
theorem dX7_chain_98 : decode cX7_chain 98 = .ok (.ishl, 1) := by decide +kernel
theorem dX7_chain_99 : decode cX7_chain 99 = .ok (.goto 4, 3) := by decide +kernel
theorem dX7_chain_102 : decode cX7_chain 102 = .ok (.iconst 0, 1) := by decide +kernel
theorem dX7_chain_103 : decode cX7_chain 103 = .ok (.ior, 1) := by decide +kernel
theorem dX7_chain_104 : decode cX7_chain 104 = .ok (.istore 7, 2) := by decide +kernel
theorem dX7_chain_106 : decode cX7_chain 106 = .ok (.iinc 8 1, 3) := by decide +kernel
theorem dX7_chain_109 : decode cX7_chain 109 = .ok (.goto (-38), 3) := by decide +kernel
theorem dX7_chain_112 : decode cX7_chain 112 = .ok (.iload 5, 2) := by decide +kernel
theorem dX7_chain_114 : decode cX7_chain 114 = .ok (.iload 7, 2) := by decide +kernel
theorem dX7_chain_116 : decode cX7_chain 116 = .ok (.aload_n 0, 1) := by decide +kernel
theorem dX7_chain_117 : decode cX7_chain 117 = .ok (.iload_n 3, 1) := by decide +kernel
theorem dX7_chain_118 : decode cX7_chain 118 = .ok (.invokevirtual 286, 3) := by decide +kernel
theorem dX7_chain_121 : decode cX7_chain 121 = .ok (.iconst (-1), 1) := by decide +kernel
theorem dX7_chain_122 : decode cX7_chain 122 = .ok (.ixor, 1) := by decide +kernel
theorem dX7_chain_123 : decode cX7_chain 123 = .ok (.iand, 1) := by decide +kernel
theorem dX7_chain_124 : decode cX7_chain 124 = .ok (.ior, 1) := by decide +kernel
theorem dX7_chain_125 : decode cX7_chain 125 = .ok (.istore 5, 2) := by decide +kernel
theorem dX7_chain_127 : decode cX7_chain 127 = .ok (.iload 7, 2) := by decide +kernel
theorem dX7_chain_129 : decode cX7_chain 129 = .ok (.istore 4, 2) := by decide +kernel
theorem dX7_chain_131 : decode cX7_chain 131 = .ok (.iinc 6 1, 3) := by decide +kernel
theorem dX7_chain_134 : decode cX7_chain 134 = .ok (.goto (-91), 3) := by decide +kernel
theorem dX7_chain_137 : decode cX7_chain 137 = .ok (.iconst (-1), 1) := by decide +kernel
theorem dX7_chain_138 : decode cX7_chain 138 = .ok (.ireturn, 1) := by decide +kernel
set_option maxRecDepth 20000 in
theorem ggX7_blind_X7_isOne : GoodIn wsX7_blind wsX7_isOne := goodIn_r _ [10, 11, 12, 13, 9, 14, 102, 103, 104, 105, 106, 107, 108, 109, 110, 111, 112, 113, 114, 115, 116, 117, 118, 119, 120, 121, 122, 123, 124, 125, 126, 127, 128, 129, 130, 131, 132, 133, 134] (by decide +kernel) (by decide +kernel)
set_option maxRecDepth 20000 in
theorem gX7_blind_X7_isOne : GoodIn wsX7_blind (wsV RX7 105 RX7 yX7_isOne wsX7_isOne) := goodIn_app (goodIn_of _ (by decide +kernel)) ggX7_blind_X7_isOne
set_option maxRecDepth 20000 in
theorem ggX7_blind_X7_isRounds : GoodIn wsX7_blind wsX7_isRounds := goodIn_r _ [17, 18, 12, 13, 9, 14] (by decide +kernel) (by decide +kernel)
set_option maxRecDepth 20000 in
theorem gX7_blind_X7_isRounds : GoodIn wsX7_blind (va_wsS RX7 265 yX7_isRounds wsX7_isRounds) := goodIn_app (goodIn_of _ (by decide +kernel)) ggX7_blind_X7_isRounds
set_option maxRecDepth 20000 in
theorem ggX7_blind_X7_refuse : GoodIn wsX7_blind wsX7_refuse := goodIn_r _ [22, 23, 102, 103, 104, 105, 106, 107, 108, 109, 110, 111, 112, 113, 114, 115, 116, 117, 118, 119, 120, 121, 122, 123, 124, 125, 126, 127, 128, 129, 130, 131, 132, 133, 134] (by decide +kernel) (by decide +kernel)
set_option maxRecDepth 20000 in
theorem gX7_blind_X7_refuse : GoodIn wsX7_blind (wsV RX7 94 RX7 yX7_refuse wsX7_refuse) := goodIn_app (goodIn_of _ (by decide +kernel)) ggX7_blind_X7_refuse
set_option maxRecDepth 20000 in
theorem ggX7_blind_X7_after : GoodIn wsX7_blind wsX7_after := goodIn_r _ [27, 28, 29, 30, 9, 31, 32, 33, 34, 35, 36, 37, 38, 39, 40, 41, 42, 43, 44, 45, 46, 47, 48, 49, 50, 23, 51, 2, 52, 4, 5, 3, 53, 54, 55, 56, 57, 58, 59, 60, 61, 62, 63, 11, 64, 65, 66, 67, 68, 69, 70, 71, 72, 73, 74, 75, 76, 77, 78, 79, 80, 81, 82, 83, 84, 85, 86, 87, 88, 89, 90, 91, 92, 93, 102, 103, 104, 105, 106, 107, 108, 109, 110, 111, 112, 113, 114, 115, 116, 117, 118, 119, 120, 121, 122, 123, 124, 125, 126, 127, 128, 129, 130, 131, 132, 133, 134] (by decide +kernel) (by decide +kernel)
set_option maxRecDepth 20000 in
theorem gX7_blind_X7_after : GoodIn wsX7_blind (wsV RX7 268 RX7 yX7_after wsX7_after) := goodIn_app (goodIn_of _ (by decide +kernel)) ggX7_blind_X7_after
set_option maxRecDepth 20000 in
theorem ggX7_blind_X7_knownNow : GoodIn wsX7_blind wsX7_knownNow := goodIn_r _ [97, 11, 98, 99, 100, 9, 101, 4, 5, 3, 91, 92, 93, 102, 103, 104, 105, 106, 107, 108, 109, 110, 111, 112, 113, 114, 115, 116, 117, 118, 119, 120, 121, 122, 123, 124, 125, 126, 127, 128, 129, 130, 131, 132, 133, 134] (by decide +kernel) (by decide +kernel)
set_option maxRecDepth 20000 in
theorem gX7_blind_X7_knownNow : GoodIn wsX7_blind (wsV RX7 257 RX7 yX7_knownNow wsX7_knownNow) := goodIn_app (goodIn_of _ (by decide +kernel)) ggX7_blind_X7_knownNow
set_option maxRecDepth 20000 in
theorem ggX7_blind_X7_fresh : GoodIn wsX7_blind wsX7_fresh := goodIn_r _ [31, 32, 33, 34, 9, 35, 36, 37, 38, 39, 40, 41, 42, 43, 44, 45, 46, 47, 48, 49, 50, 23, 51, 2, 52, 4, 5, 3, 53, 54, 55, 56, 57, 58, 59, 60, 61, 62, 63, 11, 64, 65, 66, 67, 102, 103, 104, 105, 106, 107, 108, 109, 110, 111, 112, 113, 114, 115, 116, 117, 118, 119, 120, 121, 122, 123, 124, 125, 126, 127, 128, 129, 130, 131, 132, 133, 134] (by decide +kernel) (by decide +kernel)
set_option maxRecDepth 20000 in
theorem gX7_blind_X7_fresh : GoodIn wsX7_blind (wsV RX7 236 RX7 yX7_fresh wsX7_fresh) := goodIn_app (goodIn_of _ (by decide +kernel)) ggX7_blind_X7_fresh
set_option maxRecDepth 20000 in
theorem ggX7_blind_X7_goesRound : GoodIn wsX7_blind wsX7_goesRound := goodIn_r _ [71, 11, 57, 54, 51, 53, 4, 3, 72, 73, 74, 9, 75, 2, 76, 77, 78, 79, 5, 80, 81, 82, 83, 84, 85, 86, 87, 88, 89, 90, 91, 92, 93, 102, 103, 104, 105, 106, 107, 108, 109, 110, 111, 112, 113, 114, 115, 116, 117, 118, 119, 120, 121, 122, 123, 124, 125, 126, 127, 128, 129, 130, 131, 132, 133, 134] (by decide +kernel) (by decide +kernel)
set_option maxRecDepth 20000 in
theorem gX7_blind_X7_goesRound : GoodIn wsX7_blind (wsV RX7 262 RX7 yX7_goesRound wsX7_goesRound) := goodIn_app (goodIn_of _ (by decide +kernel)) ggX7_blind_X7_goesRound
theorem dX7_blind_0 : decode cX7_blind 0 = .ok (.aload_n 0, 1) := by decide +kernel
theorem dX7_blind_1 : decode cX7_blind 1 = .ok (.iload_n 1, 1) := by decide +kernel
theorem dX7_blind_2 : decode cX7_blind 2 = .ok (.invokevirtual 105, 3) := by decide +kernel
theorem dX7_blind_5 : decode cX7_blind 5 = .ok (.ifCond .eq 10, 3) := by decide +kernel
theorem dX7_blind_8 : decode cX7_blind 8 = .ok (.iload_n 2, 1) := by decide +kernel
theorem dX7_blind_9 : decode cX7_blind 9 = .ok (.invokestatic 265, 3) := by decide +kernel
theorem dX7_blind_12 : decode cX7_blind 12 = .ok (.ifCond .ne 14, 3) := by decide +kernel
theorem dX7_blind_15 : decode cX7_blind 15 = .ok (.ldc_w 289, 3) := by decide +kernel
theorem dX7_blind_18 : decode cX7_blind 18 = .ok (.aload_n 0, 1) := by decide +kernel
theorem dX7_blind_19 : decode cX7_blind 19 = .ok (.bipush (-2), 2) := by decide +kernel
theorem dX7_blind_21 : decode cX7_blind 21 = .ok (.invokevirtual 94, 3) := by decide +kernel
theorem dX7_blind_24 : decode cX7_blind 24 = .ok (.iadd, 1) := by decide +kernel
theorem dX7_blind_25 : decode cX7_blind 25 = .ok (.ireturn, 1) := by decide +kernel
theorem dX7_blind_26 : decode cX7_blind 26 = .ok (.aload_n 0, 1) := by decide +kernel
theorem dX7_blind_27 : decode cX7_blind 27 = .ok (.iload_n 2, 1) := by decide +kernel
theorem dX7_blind_28 : decode cX7_blind 28 = .ok (.invokevirtual 268, 3) := by decide +kernel
theorem dX7_blind_31 : decode cX7_blind 31 = .ok (.invokevirtual 257, 3) := by decide +kernel
theorem dX7_blind_34 : decode cX7_blind 34 = .ok (.istore_n 3, 1) := by decide +kernel
theorem dX7_blind_35 : decode cX7_blind 35 = .ok (.aload_n 0, 1) := by decide +kernel
theorem dX7_blind_36 : decode cX7_blind 36 = .ok (.invokevirtual 236, 3) := by decide +kernel
theorem dX7_blind_39 : decode cX7_blind 39 = .ok (.astore 4, 2) := by decide +kernel
theorem dX7_blind_41 : decode cX7_blind 41 = .ok (.aload 4, 2) := by decide +kernel
theorem dX7_blind_43 : decode cX7_blind 43 = .ok (.getfield 41, 3) := by decide +kernel
theorem dX7_blind_46 : decode cX7_blind 46 = .ok (.iload_n 1, 1) := by decide +kernel
theorem dX7_blind_47 : decode cX7_blind 47 = .ok (.iconst 4, 1) := by decide +kernel
theorem dX7_blind_48 : decode cX7_blind 48 = .ok (.iastore, 1) := by decide +kernel
theorem dX7_blind_49 : decode cX7_blind 49 = .ok (.aload 4, 2) := by decide +kernel
theorem dX7_blind_51 : decode cX7_blind 51 = .ok (.getfield 53, 3) := by decide +kernel
theorem dX7_blind_54 : decode cX7_blind 54 = .ok (.iload_n 1, 1) := by decide +kernel
theorem dX7_blind_55 : decode cX7_blind 55 = .ok (.dup2, 1) := by decide +kernel
theorem dX7_blind_56 : decode cX7_blind 56 = .ok (.iaload, 1) := by decide +kernel
theorem dX7_blind_57 : decode cX7_blind 57 = .ok (.aload 4, 2) := by decide +kernel
theorem dX7_blind_59 : decode cX7_blind 59 = .ok (.getfield 47, 3) := by decide +kernel
theorem dX7_blind_62 : decode cX7_blind 62 = .ok (.iload_n 1, 1) := by decide +kernel
theorem dX7_blind_63 : decode cX7_blind 63 = .ok (.iaload, 1) := by decide +kernel
theorem dX7_blind_64 : decode cX7_blind 64 = .ok (.aload 4, 2) := by decide +kernel
theorem dX7_blind_66 : decode cX7_blind 66 = .ok (.getfield 50, 3) := by decide +kernel
theorem dX7_blind_69 : decode cX7_blind 69 = .ok (.iload_n 1, 1) := by decide +kernel
theorem dX7_blind_70 : decode cX7_blind 70 = .ok (.iaload, 1) := by decide +kernel
theorem dX7_blind_71 : decode cX7_blind 71 = .ok (.ior, 1) := by decide +kernel
theorem dX7_blind_72 : decode cX7_blind 72 = .ok (.ior, 1) := by decide +kernel
theorem dX7_blind_73 : decode cX7_blind 73 = .ok (.iastore, 1) := by decide +kernel
theorem dX7_blind_74 : decode cX7_blind 74 = .ok (.aload 4, 2) := by decide +kernel
theorem dX7_blind_76 : decode cX7_blind 76 = .ok (.getfield 47, 3) := by decide +kernel
theorem dX7_blind_79 : decode cX7_blind 79 = .ok (.iload_n 1, 1) := by decide +kernel
theorem dX7_blind_80 : decode cX7_blind 80 = .ok (.iconst 0, 1) := by decide +kernel
theorem dX7_blind_81 : decode cX7_blind 81 = .ok (.iastore, 1) := by decide +kernel
theorem dX7_blind_82 : decode cX7_blind 82 = .ok (.aload 4, 2) := by decide +kernel
theorem dX7_blind_84 : decode cX7_blind 84 = .ok (.getfield 50, 3) := by decide +kernel
theorem dX7_blind_87 : decode cX7_blind 87 = .ok (.iload_n 1, 1) := by decide +kernel
theorem dX7_blind_88 : decode cX7_blind 88 = .ok (.iconst 0, 1) := by decide +kernel
theorem dX7_blind_89 : decode cX7_blind 89 = .ok (.iastore, 1) := by decide +kernel
theorem dX7_blind_90 : decode cX7_blind 90 = .ok (.iconst 0, 1) := by decide +kernel
theorem dX7_blind_91 : decode cX7_blind 91 = .ok (.istore 5, 2) := by decide +kernel
theorem dX7_blind_93 : decode cX7_blind 93 = .ok (.iload 5, 2) := by decide +kernel
theorem dX7_blind_95 : decode cX7_blind 95 = .ok (.iload_n 2, 1) := by decide +kernel
theorem dX7_blind_96 : decode cX7_blind 96 = .ok (.if_icmp .ge 15, 3) := by decide +kernel
theorem dX7_blind_99 : decode cX7_blind 99 = .ok (.aload 4, 2) := by decide +kernel
theorem dX7_blind_101 : decode cX7_blind 101 = .ok (.invokevirtual 262, 3) := by decide +kernel
theorem dX7_blind_104 : decode cX7_blind 104 = .ok (.pop, 1) := by decide +kernel
theorem dX7_blind_105 : decode cX7_blind 105 = .ok (.iinc 5 1, 3) := by decide +kernel
theorem dX7_blind_108 : decode cX7_blind 108 = .ok (.goto (-15), 3) := by decide +kernel
theorem dX7_blind_111 : decode cX7_blind 111 = .ok (.aload 4, 2) := by decide +kernel
theorem dX7_blind_113 : decode cX7_blind 113 = .ok (.invokevirtual 257, 3) := by decide +kernel
theorem dX7_blind_116 : decode cX7_blind 116 = .ok (.iload_n 3, 1) := by decide +kernel
theorem dX7_blind_117 : decode cX7_blind 117 = .ok (.isub, 1) := by decide +kernel
theorem dX7_blind_118 : decode cX7_blind 118 = .ok (.ireturn, 1) := by decide +kernel
set_option maxRecDepth 20000 in
theorem ggX7_knownBehind_X7_fresh : GoodIn wsX7_knownBehind wsX7_fresh := goodIn_r _ [6, 7, 8, 9, 5, 10, 11, 12, 13, 14, 15, 16, 17, 18, 19, 20, 21, 22, 23, 24, 25, 26, 27, 28, 29, 30, 31, 32, 33, 1, 34, 35, 36, 37, 38, 39, 40, 41, 42, 43, 44, 45, 46, 47, 82, 83, 84, 85, 86, 87, 88, 89, 90, 91, 92, 93, 94, 95, 96, 97, 98, 99, 100, 101, 102, 103, 104, 105, 106, 107, 108, 109, 110, 111, 112, 113, 114] (by decide +kernel) (by decide +kernel)
set_option maxRecDepth 20000 in
theorem gX7_knownBehind_X7_fresh : GoodIn wsX7_knownBehind (wsV RX7 236 RX7 yX7_fresh wsX7_fresh) := goodIn_app (goodIn_of _ (by decide +kernel)) ggX7_knownBehind_X7_fresh
set_option maxRecDepth 20000 in
theorem ggX7_knownBehind_X7_goesRound : GoodIn wsX7_knownBehind wsX7_goesRound := goodIn_r _ [51, 43, 36, 1, 27, 33, 30, 32, 52, 53, 54, 5, 55, 28, 56, 57, 58, 59, 31, 60, 61, 62, 63, 64, 65, 66, 67, 68, 69, 70, 71, 72, 73, 82, 83, 84, 85, 86, 87, 88, 89, 90, 91, 92, 93, 94, 95, 96, 97, 98, 99, 100, 101, 102, 103, 104, 105, 106, 107, 108, 109, 110, 111, 112, 113, 114] (by decide +kernel) (by decide +kernel)
set_option maxRecDepth 20000 in
theorem gX7_knownBehind_X7_goesRound : GoodIn wsX7_knownBehind (wsV RX7 262 RX7 yX7_goesRound wsX7_goesRound) := goodIn_app (goodIn_of _ (by decide +kernel)) ggX7_knownBehind_X7_goesRound
set_option maxRecDepth 20000 in
theorem ggX7_knownBehind_X7_knownNow : GoodIn wsX7_knownBehind wsX7_knownNow := goodIn_r _ [77, 43, 78, 79, 80, 5, 81, 30, 31, 32, 71, 72, 73, 82, 83, 84, 85, 86, 87, 88, 89, 90, 91, 92, 93, 94, 95, 96, 97, 98, 99, 100, 101, 102, 103, 104, 105, 106, 107, 108, 109, 110, 111, 112, 113, 114] (by decide +kernel) (by decide +kernel)
set_option maxRecDepth 20000 in
theorem gX7_knownBehind_X7_knownNow : GoodIn wsX7_knownBehind (wsV RX7 257 RX7 yX7_knownNow wsX7_knownNow) := goodIn_app (goodIn_of _ (by decide +kernel)) ggX7_knownBehind_X7_knownNow
theorem dX7_knownBehind_0 : decode cX7_knownBehind 0 = .ok (.aload_n 0, 1) := by decide +kernel
theorem dX7_knownBehind_1 : decode cX7_knownBehind 1 = .ok (.invokevirtual 236, 3) := by decide +kernel
theorem dX7_knownBehind_4 : decode cX7_knownBehind 4 = .ok (.astore_n 3, 1) := by decide +kernel
theorem dX7_knownBehind_5 : decode cX7_knownBehind 5 = .ok (.aload_n 3, 1) := by decide +kernel
theorem dX7_knownBehind_6 : decode cX7_knownBehind 6 = .ok (.getfield 59, 3) := by decide +kernel
theorem dX7_knownBehind_9 : decode cX7_knownBehind 9 = .ok (.iconst 0, 1) := by decide +kernel
theorem dX7_knownBehind_10 : decode cX7_knownBehind 10 = .ok (.iload_n 1, 1) := by decide +kernel
theorem dX7_knownBehind_11 : decode cX7_knownBehind 11 = .ok (.iastore, 1) := by decide +kernel
theorem dX7_knownBehind_12 : decode cX7_knownBehind 12 = .ok (.iconst 0, 1) := by decide +kernel
theorem dX7_knownBehind_13 : decode cX7_knownBehind 13 = .ok (.istore 4, 2) := by decide +kernel
theorem dX7_knownBehind_15 : decode cX7_knownBehind 15 = .ok (.iload 4, 2) := by decide +kernel
theorem dX7_knownBehind_17 : decode cX7_knownBehind 17 = .ok (.iload_n 2, 1) := by decide +kernel
theorem dX7_knownBehind_18 : decode cX7_knownBehind 18 = .ok (.if_icmp .ge 14, 3) := by decide +kernel
theorem dX7_knownBehind_21 : decode cX7_knownBehind 21 = .ok (.aload_n 3, 1) := by decide +kernel
theorem dX7_knownBehind_22 : decode cX7_knownBehind 22 = .ok (.invokevirtual 262, 3) := by decide +kernel
theorem dX7_knownBehind_25 : decode cX7_knownBehind 25 = .ok (.pop, 1) := by decide +kernel
theorem dX7_knownBehind_26 : decode cX7_knownBehind 26 = .ok (.iinc 4 1, 3) := by decide +kernel
theorem dX7_knownBehind_29 : decode cX7_knownBehind 29 = .ok (.goto (-14), 3) := by decide +kernel
theorem dX7_knownBehind_32 : decode cX7_knownBehind 32 = .ok (.aload_n 3, 1) := by decide +kernel
theorem dX7_knownBehind_33 : decode cX7_knownBehind 33 = .ok (.invokevirtual 257, 3) := by decide +kernel
theorem dX7_knownBehind_36 : decode cX7_knownBehind 36 = .ok (.ireturn, 1) := by decide +kernel
set_option maxRecDepth 20000 in
theorem ggX7_dusk_X7_isRounds : GoodIn wsX7_dusk wsX7_isRounds := goodIn_r _ [5, 6, 7, 8, 4, 9] (by decide +kernel) (by decide +kernel)
set_option maxRecDepth 20000 in
theorem gX7_dusk_X7_isRounds : GoodIn wsX7_dusk (va_wsS RX7 265 yX7_isRounds wsX7_isRounds) := goodIn_app (goodIn_of _ (by decide +kernel)) ggX7_dusk_X7_isRounds
set_option maxRecDepth 20000 in
theorem ggX7_dusk_X7_knownBehind : GoodIn wsX7_dusk wsX7_knownBehind := goodIn_r _ [13, 14, 15, 16, 17, 4, 18, 19, 20, 21, 22, 23, 24, 25, 26, 27, 28, 29, 30, 31, 32, 33, 34, 35, 36, 37, 38, 39, 40, 41, 42, 43, 44, 45, 46, 47, 48, 49, 50, 51, 52, 53, 54, 55, 56, 57, 58, 59, 60, 61, 62, 63, 64, 65, 66, 67, 68, 69, 70, 71, 72, 73, 74, 75, 76, 77, 78, 79, 80, 81, 82, 83, 84, 85, 86, 87, 88, 89, 90, 91, 92, 93, 98, 99, 100, 101, 102, 103, 104, 105, 106, 107, 108, 109, 110, 111, 112, 113, 114, 115, 116, 117, 118, 119, 120, 121, 122, 123, 124, 125, 126, 127, 128, 129, 130] (by decide +kernel) (by decide +kernel)
set_option maxRecDepth 20000 in
theorem gX7_dusk_X7_knownBehind : GoodIn wsX7_dusk (wsV RX7 290 RX7 yX7_knownBehind wsX7_knownBehind) := goodIn_app (goodIn_of _ (by decide +kernel)) ggX7_dusk_X7_knownBehind
set_option maxRecDepth 20000 in
theorem ggX7_dusk_X7_refuse : GoodIn wsX7_dusk wsX7_refuse := goodIn_r _ [97, 38, 98, 99, 100, 101, 102, 103, 104, 105, 106, 107, 108, 109, 110, 111, 112, 113, 114, 115, 116, 117, 118, 119, 120, 121, 122, 123, 124, 125, 126, 127, 128, 129, 130] (by decide +kernel) (by decide +kernel)
set_option maxRecDepth 20000 in
theorem gX7_dusk_X7_refuse : GoodIn wsX7_dusk (wsV RX7 94 RX7 yX7_refuse wsX7_refuse) := goodIn_app (goodIn_of _ (by decide +kernel)) ggX7_dusk_X7_refuse
theorem dX7_dusk_0 : decode cX7_dusk 0 = .ok (.iload_n 1, 1) := by decide +kernel
theorem dX7_dusk_1 : decode cX7_dusk 1 = .ok (.invokestatic 265, 3) := by decide +kernel
theorem dX7_dusk_4 : decode cX7_dusk 4 = .ok (.ifCond .eq 19, 3) := by decide +kernel
theorem dX7_dusk_7 : decode cX7_dusk 7 = .ok (.aload_n 0, 1) := by decide +kernel
theorem dX7_dusk_8 : decode cX7_dusk 8 = .ok (.iconst 0, 1) := by decide +kernel
theorem dX7_dusk_9 : decode cX7_dusk 9 = .ok (.iload_n 1, 1) := by decide +kernel
theorem dX7_dusk_10 : decode cX7_dusk 10 = .ok (.invokevirtual 290, 3) := by decide +kernel
theorem dX7_dusk_13 : decode cX7_dusk 13 = .ok (.aload_n 0, 1) := by decide +kernel
theorem dX7_dusk_14 : decode cX7_dusk 14 = .ok (.iconst 1, 1) := by decide +kernel
theorem dX7_dusk_15 : decode cX7_dusk 15 = .ok (.iload_n 1, 1) := by decide +kernel
theorem dX7_dusk_16 : decode cX7_dusk 16 = .ok (.invokevirtual 290, 3) := by decide +kernel
theorem dX7_dusk_19 : decode cX7_dusk 19 = .ok (.isub, 1) := by decide +kernel
theorem dX7_dusk_20 : decode cX7_dusk 20 = .ok (.goto 13, 3) := by decide +kernel
theorem dX7_dusk_23 : decode cX7_dusk 23 = .ok (.ldc_w 289, 3) := by decide +kernel
theorem dX7_dusk_26 : decode cX7_dusk 26 = .ok (.aload_n 0, 1) := by decide +kernel
theorem dX7_dusk_27 : decode cX7_dusk 27 = .ok (.bipush (-2), 2) := by decide +kernel
theorem dX7_dusk_29 : decode cX7_dusk 29 = .ok (.invokevirtual 94, 3) := by decide +kernel
theorem dX7_dusk_32 : decode cX7_dusk 32 = .ok (.iadd, 1) := by decide +kernel
theorem dX7_dusk_33 : decode cX7_dusk 33 = .ok (.ireturn, 1) := by decide +kernel
set_option maxRecDepth 20000 in
theorem ggX7_pairsNow_X7_has : GoodIn wsX7_pairsNow wsX7_has := goodIn_r _ [6] (by decide +kernel) (by decide +kernel)
set_option maxRecDepth 20000 in
theorem gX7_pairsNow_X7_has : GoodIn wsX7_pairsNow (va_wsS RX7 84 yX7_has wsX7_has) := goodIn_app (goodIn_of _ (by decide +kernel)) ggX7_pairsNow_X7_has
theorem dX7_pairsNow_0 : decode cX7_pairsNow 0 = .ok (.iconst 0, 1) := by decide +kernel
theorem dX7_pairsNow_1 : decode cX7_pairsNow 1 = .ok (.istore_n 1, 1) := by decide +kernel
theorem dX7_pairsNow_2 : decode cX7_pairsNow 2 = .ok (.iconst 0, 1) := by decide +kernel
theorem dX7_pairsNow_3 : decode cX7_pairsNow 3 = .ok (.istore_n 2, 1) := by decide +kernel
theorem dX7_pairsNow_4 : decode cX7_pairsNow 4 = .ok (.iload_n 2, 1) := by decide +kernel
theorem dX7_pairsNow_5 : decode cX7_pairsNow 5 = .ok (.aload_n 0, 1) := by decide +kernel
theorem dX7_pairsNow_6 : decode cX7_pairsNow 6 = .ok (.getfield 77, 3) := by decide +kernel
theorem dX7_pairsNow_9 : decode cX7_pairsNow 9 = .ok (.if_icmp .ge 56, 3) := by decide +kernel
theorem dX7_pairsNow_12 : decode cX7_pairsNow 12 = .ok (.iconst 0, 1) := by decide +kernel
theorem dX7_pairsNow_13 : decode cX7_pairsNow 13 = .ok (.istore_n 3, 1) := by decide +kernel
theorem dX7_pairsNow_14 : decode cX7_pairsNow 14 = .ok (.iload_n 3, 1) := by decide +kernel
theorem dX7_pairsNow_15 : decode cX7_pairsNow 15 = .ok (.iload_n 2, 1) := by decide +kernel
theorem dX7_pairsNow_16 : decode cX7_pairsNow 16 = .ok (.if_icmp .ge 43, 3) := by decide +kernel
theorem dX7_pairsNow_19 : decode cX7_pairsNow 19 = .ok (.iload_n 1, 1) := by decide +kernel
theorem dX7_pairsNow_20 : decode cX7_pairsNow 20 = .ok (.aload_n 0, 1) := by decide +kernel
theorem dX7_pairsNow_21 : decode cX7_pairsNow 21 = .ok (.getfield 56, 3) := by decide +kernel
theorem dX7_pairsNow_24 : decode cX7_pairsNow 24 = .ok (.iload_n 2, 1) := by decide +kernel
theorem dX7_pairsNow_25 : decode cX7_pairsNow 25 = .ok (.iaload, 1) := by decide +kernel
theorem dX7_pairsNow_26 : decode cX7_pairsNow 26 = .ok (.iload_n 3, 1) := by decide +kernel
theorem dX7_pairsNow_27 : decode cX7_pairsNow 27 = .ok (.invokestatic 84, 3) := by decide +kernel
theorem dX7_pairsNow_30 : decode cX7_pairsNow 30 = .ok (.ifCond .eq 20, 3) := by decide +kernel
theorem dX7_pairsNow_33 : decode cX7_pairsNow 33 = .ok (.aload_n 0, 1) := by decide +kernel
theorem dX7_pairsNow_34 : decode cX7_pairsNow 34 = .ok (.getfield 56, 3) := by decide +kernel
theorem dX7_pairsNow_37 : decode cX7_pairsNow 37 = .ok (.iload_n 3, 1) := by decide +kernel
theorem dX7_pairsNow_38 : decode cX7_pairsNow 38 = .ok (.iaload, 1) := by decide +kernel
theorem dX7_pairsNow_39 : decode cX7_pairsNow 39 = .ok (.iload_n 2, 1) := by decide +kernel
theorem dX7_pairsNow_40 : decode cX7_pairsNow 40 = .ok (.invokestatic 84, 3) := by decide +kernel
theorem dX7_pairsNow_43 : decode cX7_pairsNow 43 = .ok (.ifCond .eq 7, 3) := by decide +kernel
theorem dX7_pairsNow_46 : decode cX7_pairsNow 46 = .ok (.iconst 1, 1) := by decide +kernel
theorem dX7_pairsNow_47 : decode cX7_pairsNow 47 = .ok (.goto 4, 3) := by decide +kernel
theorem dX7_pairsNow_50 : decode cX7_pairsNow 50 = .ok (.iconst 0, 1) := by decide +kernel
theorem dX7_pairsNow_51 : decode cX7_pairsNow 51 = .ok (.iadd, 1) := by decide +kernel
theorem dX7_pairsNow_52 : decode cX7_pairsNow 52 = .ok (.istore_n 1, 1) := by decide +kernel
theorem dX7_pairsNow_53 : decode cX7_pairsNow 53 = .ok (.iinc 3 1, 3) := by decide +kernel
theorem dX7_pairsNow_56 : decode cX7_pairsNow 56 = .ok (.goto (-42), 3) := by decide +kernel
theorem dX7_pairsNow_59 : decode cX7_pairsNow 59 = .ok (.iinc 2 1, 3) := by decide +kernel
theorem dX7_pairsNow_62 : decode cX7_pairsNow 62 = .ok (.goto (-58), 3) := by decide +kernel
theorem dX7_pairsNow_65 : decode cX7_pairsNow 65 = .ok (.iload_n 1, 1) := by decide +kernel
theorem dX7_pairsNow_66 : decode cX7_pairsNow 66 = .ok (.ireturn, 1) := by decide +kernel
set_option maxRecDepth 20000 in
theorem ggX7_pairs_X7_pairsNow : GoodIn wsX7_pairs wsX7_pairsNow := goodIn_r _ [5, 6, 7, 8, 9, 4, 10, 11, 12, 13, 14, 15, 16, 17, 18, 19, 20, 21, 22, 23, 24, 25, 26, 27, 28, 29, 30, 31, 32, 33, 34, 35, 36, 37, 38, 39, 40, 41, 42, 43] (by decide +kernel) (by decide +kernel)
set_option maxRecDepth 20000 in
theorem gX7_pairs_X7_pairsNow : GoodIn wsX7_pairs (wsV RX7 293 RX7 yX7_pairsNow wsX7_pairsNow) := goodIn_app (goodIn_of _ (by decide +kernel)) ggX7_pairs_X7_pairsNow
theorem dX7_pairs_0 : decode cX7_pairs 0 = .ok (.aload_n 0, 1) := by decide +kernel
theorem dX7_pairs_1 : decode cX7_pairs 1 = .ok (.invokevirtual 293, 3) := by decide +kernel
theorem dX7_pairs_4 : decode cX7_pairs 4 = .ok (.ireturn, 1) := by decide +kernel
theorem dX7_alone_0 : decode cX7_alone 0 = .ok (.iconst 0, 1) := by decide +kernel
theorem dX7_alone_1 : decode cX7_alone 1 = .ok (.istore_n 1, 1) := by decide +kernel
theorem dX7_alone_2 : decode cX7_alone 2 = .ok (.iconst 0, 1) := by decide +kernel
theorem dX7_alone_3 : decode cX7_alone 3 = .ok (.istore_n 2, 1) := by decide +kernel
theorem dX7_alone_4 : decode cX7_alone 4 = .ok (.iload_n 2, 1) := by decide +kernel
theorem dX7_alone_5 : decode cX7_alone 5 = .ok (.aload_n 0, 1) := by decide +kernel
theorem dX7_alone_6 : decode cX7_alone 6 = .ok (.getfield 77, 3) := by decide +kernel
theorem dX7_alone_9 : decode cX7_alone 9 = .ok (.if_icmp .ge 18, 3) := by decide +kernel
theorem dX7_alone_12 : decode cX7_alone 12 = .ok (.iload_n 1, 1) := by decide +kernel
theorem dX7_alone_13 : decode cX7_alone 13 = .ok (.aload_n 0, 1) := by decide +kernel
theorem dX7_alone_14 : decode cX7_alone 14 = .ok (.getfield 56, 3) := by decide +kernel
theorem dX7_alone_17 : decode cX7_alone 17 = .ok (.iload_n 2, 1) := by decide +kernel
theorem dX7_alone_18 : decode cX7_alone 18 = .ok (.iaload, 1) := by decide +kernel
theorem dX7_alone_19 : decode cX7_alone 19 = .ok (.ior, 1) := by decide +kernel
theorem dX7_alone_20 : decode cX7_alone 20 = .ok (.istore_n 1, 1) := by decide +kernel
theorem dX7_alone_21 : decode cX7_alone 21 = .ok (.iinc 2 1, 3) := by decide +kernel
theorem dX7_alone_24 : decode cX7_alone 24 = .ok (.goto (-20), 3) := by decide +kernel
theorem dX7_alone_27 : decode cX7_alone 27 = .ok (.iconst 1, 1) := by decide +kernel
theorem dX7_alone_28 : decode cX7_alone 28 = .ok (.aload_n 0, 1) := by decide +kernel
theorem dX7_alone_29 : decode cX7_alone 29 = .ok (.getfield 77, 3) := by decide +kernel
theorem dX7_alone_32 : decode cX7_alone 32 = .ok (.ishl, 1) := by decide +kernel
theorem dX7_alone_33 : decode cX7_alone 33 = .ok (.iconst 1, 1) := by decide +kernel
theorem dX7_alone_34 : decode cX7_alone 34 = .ok (.isub, 1) := by decide +kernel
theorem dX7_alone_35 : decode cX7_alone 35 = .ok (.iload_n 1, 1) := by decide +kernel
theorem dX7_alone_36 : decode cX7_alone 36 = .ok (.iconst (-1), 1) := by decide +kernel
theorem dX7_alone_37 : decode cX7_alone 37 = .ok (.ixor, 1) := by decide +kernel
theorem dX7_alone_38 : decode cX7_alone 38 = .ok (.iand, 1) := by decide +kernel
theorem dX7_alone_39 : decode cX7_alone 39 = .ok (.ireturn, 1) := by decide +kernel
set_option maxRecDepth 20000 in
theorem ggX7_mouthsBy_X7_isSight : GoodIn wsX7_mouthsBy wsX7_isSight := goodIn_r _ [5, 6, 7, 8, 4, 9, 97, 98, 99, 100, 101, 102, 103, 104, 105, 106, 107, 108, 109, 110, 111, 112, 113, 114, 115, 116, 117, 118, 119, 120, 121, 122, 123, 124, 125, 126, 127, 128, 129] (by decide +kernel) (by decide +kernel)
set_option maxRecDepth 20000 in
theorem gX7_mouthsBy_X7_isSight : GoodIn wsX7_mouthsBy (wsV RX7 138 RX7 yX7_isSight wsX7_isSight) := goodIn_app (goodIn_of _ (by decide +kernel)) ggX7_mouthsBy_X7_isSight
set_option maxRecDepth 20000 in
theorem ggX7_mouthsBy_X7_isRounds : GoodIn wsX7_mouthsBy wsX7_isRounds := goodIn_r _ [12, 13, 7, 8, 4, 9] (by decide +kernel) (by decide +kernel)
set_option maxRecDepth 20000 in
theorem gX7_mouthsBy_X7_isRounds : GoodIn wsX7_mouthsBy (va_wsS RX7 265 yX7_isRounds wsX7_isRounds) := goodIn_app (goodIn_of _ (by decide +kernel)) ggX7_mouthsBy_X7_isRounds
set_option maxRecDepth 20000 in
theorem ggX7_mouthsBy_X7_after : GoodIn wsX7_mouthsBy wsX7_after := goodIn_r _ [17, 18, 19, 20, 4, 21, 22, 23, 24, 25, 26, 27, 28, 29, 30, 31, 32, 33, 34, 35, 36, 37, 38, 39, 40, 41, 6, 42, 43, 44, 45, 46, 47, 48, 49, 50, 51, 52, 53, 54, 55, 56, 57, 58, 59, 60, 61, 62, 63, 64, 65, 66, 67, 68, 69, 70, 71, 72, 73, 74, 75, 76, 77, 78, 79, 80, 81, 82, 83, 84, 85, 86, 87, 88, 97, 98, 99, 100, 101, 102, 103, 104, 105, 106, 107, 108, 109, 110, 111, 112, 113, 114, 115, 116, 117, 118, 119, 120, 121, 122, 123, 124, 125, 126, 127, 128, 129] (by decide +kernel) (by decide +kernel)
set_option maxRecDepth 20000 in
theorem gX7_mouthsBy_X7_after : GoodIn wsX7_mouthsBy (wsV RX7 268 RX7 yX7_after wsX7_after) := goodIn_app (goodIn_of _ (by decide +kernel)) ggX7_mouthsBy_X7_after
set_option maxRecDepth 20000 in
theorem ggX7_mouthsBy_X7_mouthsOf : GoodIn wsX7_mouthsBy wsX7_mouthsOf := goodIn_r _ [92, 58, 67, 68, 69, 4, 70, 42, 46, 47, 44, 48, 6, 71, 72, 73, 74, 45, 75, 76, 77, 78, 79, 80, 81, 97, 98, 99, 100, 101, 102, 103, 104, 105, 106, 107, 108, 109, 110, 111, 112, 113, 114, 115, 116, 117, 118, 119, 120, 121, 122, 123, 124, 125, 126, 127, 128, 129] (by decide +kernel) (by decide +kernel)
set_option maxRecDepth 20000 in
theorem gX7_mouthsBy_X7_mouthsOf : GoodIn wsX7_mouthsBy (wsV RX7 250 RX7 yX7_mouthsOf wsX7_mouthsOf) := goodIn_app (goodIn_of _ (by decide +kernel)) ggX7_mouthsBy_X7_mouthsOf
set_option maxRecDepth 20000 in
theorem ggX7_mouthsBy_X7_refuse : GoodIn wsX7_mouthsBy wsX7_refuse := goodIn_r _ [96, 41, 97, 98, 99, 100, 101, 102, 103, 104, 105, 106, 107, 108, 109, 110, 111, 112, 113, 114, 115, 116, 117, 118, 119, 120, 121, 122, 123, 124, 125, 126, 127, 128, 129] (by decide +kernel) (by decide +kernel)
set_option maxRecDepth 20000 in
theorem gX7_mouthsBy_X7_refuse : GoodIn wsX7_mouthsBy (wsV RX7 94 RX7 yX7_refuse wsX7_refuse) := goodIn_app (goodIn_of _ (by decide +kernel)) ggX7_mouthsBy_X7_refuse
theorem dX7_mouthsBy_0 : decode cX7_mouthsBy 0 = .ok (.aload_n 0, 1) := by decide +kernel
theorem dX7_mouthsBy_1 : decode cX7_mouthsBy 1 = .ok (.iload_n 1, 1) := by decide +kernel
theorem dX7_mouthsBy_2 : decode cX7_mouthsBy 2 = .ok (.invokevirtual 138, 3) := by decide +kernel
theorem dX7_mouthsBy_5 : decode cX7_mouthsBy 5 = .ok (.ifCond .eq 22, 3) := by decide +kernel
theorem dX7_mouthsBy_8 : decode cX7_mouthsBy 8 = .ok (.iload_n 2, 1) := by decide +kernel
theorem dX7_mouthsBy_9 : decode cX7_mouthsBy 9 = .ok (.invokestatic 265, 3) := by decide +kernel
theorem dX7_mouthsBy_12 : decode cX7_mouthsBy 12 = .ok (.ifCond .eq 15, 3) := by decide +kernel
theorem dX7_mouthsBy_15 : decode cX7_mouthsBy 15 = .ok (.aload_n 0, 1) := by decide +kernel
theorem dX7_mouthsBy_16 : decode cX7_mouthsBy 16 = .ok (.iload_n 2, 1) := by decide +kernel
theorem dX7_mouthsBy_17 : decode cX7_mouthsBy 17 = .ok (.invokevirtual 268, 3) := by decide +kernel
theorem dX7_mouthsBy_20 : decode cX7_mouthsBy 20 = .ok (.iload_n 1, 1) := by decide +kernel
theorem dX7_mouthsBy_21 : decode cX7_mouthsBy 21 = .ok (.invokevirtual 250, 3) := by decide +kernel
theorem dX7_mouthsBy_24 : decode cX7_mouthsBy 24 = .ok (.goto 9, 3) := by decide +kernel
theorem dX7_mouthsBy_27 : decode cX7_mouthsBy 27 = .ok (.aload_n 0, 1) := by decide +kernel
theorem dX7_mouthsBy_28 : decode cX7_mouthsBy 28 = .ok (.bipush (-2), 2) := by decide +kernel
theorem dX7_mouthsBy_30 : decode cX7_mouthsBy 30 = .ok (.invokevirtual 94, 3) := by decide +kernel
theorem dX7_mouthsBy_33 : decode cX7_mouthsBy 33 = .ok (.ireturn, 1) := by decide +kernel
set_option maxRecDepth 20000 in
theorem ggX7_loudest_X7_refuse : GoodIn wsX7_loudest wsX7_refuse := goodIn_r _ [6, 7, 33, 34, 35, 36, 37, 38, 39, 40, 41, 42, 43, 44, 45, 46, 47, 48, 49, 50, 51, 52, 53, 54, 55, 56, 57, 58, 59, 60, 61, 62, 63, 64, 65] (by decide +kernel) (by decide +kernel)
set_option maxRecDepth 20000 in
theorem gX7_loudest_X7_refuse : GoodIn wsX7_loudest (wsV RX7 94 RX7 yX7_refuse wsX7_refuse) := goodIn_app (goodIn_of _ (by decide +kernel)) ggX7_loudest_X7_refuse
set_option maxRecDepth 20000 in
theorem ggX7_loudest_X7_mayOf : GoodIn wsX7_loudest wsX7_mayOf := goodIn_r _ [11, 12, 13, 1, 14, 15, 16, 17, 18, 19, 20, 5, 21, 22, 23, 24, 25, 26, 27, 28, 29, 33, 34, 35, 36, 37, 38, 39, 40, 41, 42, 43, 44, 45, 46, 47, 48, 49, 50, 51, 52, 53, 54, 55, 56, 57, 58, 59, 60, 61, 62, 63, 64, 65] (by decide +kernel) (by decide +kernel)
set_option maxRecDepth 20000 in
theorem gX7_loudest_X7_mayOf : GoodIn wsX7_loudest (wsV RX7 114 RX7 yX7_mayOf wsX7_mayOf) := goodIn_app (goodIn_of _ (by decide +kernel)) ggX7_loudest_X7_mayOf
set_option maxRecDepth 20000 in
theorem ggX7_loudest_X7_bits : GoodIn wsX7_loudest wsX7_bits := goodIn_r _ [32] (by decide +kernel) (by decide +kernel)
set_option maxRecDepth 20000 in
theorem gX7_loudest_X7_bits : GoodIn wsX7_loudest (va_wsS RX7 117 yX7_bits wsX7_bits) := goodIn_app (goodIn_of _ (by decide +kernel)) ggX7_loudest_X7_bits
theorem dX7_loudest_0 : decode cX7_loudest 0 = .ok (.aload_n 0, 1) := by decide +kernel
theorem dX7_loudest_1 : decode cX7_loudest 1 = .ok (.getfield 77, 3) := by decide +kernel
theorem dX7_loudest_4 : decode cX7_loudest 4 = .ok (.ifCond .ne 10, 3) := by decide +kernel
theorem dX7_loudest_7 : decode cX7_loudest 7 = .ok (.aload_n 0, 1) := by decide +kernel
theorem dX7_loudest_8 : decode cX7_loudest 8 = .ok (.bipush (-5), 2) := by decide +kernel
theorem dX7_loudest_10 : decode cX7_loudest 10 = .ok (.invokevirtual 94, 3) := by decide +kernel
theorem dX7_loudest_13 : decode cX7_loudest 13 = .ok (.ireturn, 1) := by decide +kernel
theorem dX7_loudest_14 : decode cX7_loudest 14 = .ok (.iconst 0, 1) := by decide +kernel
theorem dX7_loudest_15 : decode cX7_loudest 15 = .ok (.istore_n 1, 1) := by decide +kernel
theorem dX7_loudest_16 : decode cX7_loudest 16 = .ok (.iconst 1, 1) := by decide +kernel
theorem dX7_loudest_17 : decode cX7_loudest 17 = .ok (.istore_n 2, 1) := by decide +kernel
theorem dX7_loudest_18 : decode cX7_loudest 18 = .ok (.iload_n 2, 1) := by decide +kernel
theorem dX7_loudest_19 : decode cX7_loudest 19 = .ok (.aload_n 0, 1) := by decide +kernel
theorem dX7_loudest_20 : decode cX7_loudest 20 = .ok (.getfield 77, 3) := by decide +kernel
theorem dX7_loudest_23 : decode cX7_loudest 23 = .ok (.if_icmp .ge 34, 3) := by decide +kernel
theorem dX7_loudest_26 : decode cX7_loudest 26 = .ok (.aload_n 0, 1) := by decide +kernel
theorem dX7_loudest_27 : decode cX7_loudest 27 = .ok (.iload_n 2, 1) := by decide +kernel
theorem dX7_loudest_28 : decode cX7_loudest 28 = .ok (.invokevirtual 114, 3) := by decide +kernel
theorem dX7_loudest_31 : decode cX7_loudest 31 = .ok (.invokestatic 117, 3) := by decide +kernel
theorem dX7_loudest_34 : decode cX7_loudest 34 = .ok (.aload_n 0, 1) := by decide +kernel
theorem dX7_loudest_35 : decode cX7_loudest 35 = .ok (.iload_n 1, 1) := by decide +kernel
theorem dX7_loudest_36 : decode cX7_loudest 36 = .ok (.invokevirtual 114, 3) := by decide +kernel
theorem dX7_loudest_39 : decode cX7_loudest 39 = .ok (.invokestatic 117, 3) := by decide +kernel
theorem dX7_loudest_42 : decode cX7_loudest 42 = .ok (.if_icmp .le 7, 3) := by decide +kernel
theorem dX7_loudest_45 : decode cX7_loudest 45 = .ok (.iload_n 2, 1) := by decide +kernel
theorem dX7_loudest_46 : decode cX7_loudest 46 = .ok (.goto 4, 3) := by decide +kernel
theorem dX7_loudest_49 : decode cX7_loudest 49 = .ok (.iload_n 1, 1) := by decide +kernel
theorem dX7_loudest_50 : decode cX7_loudest 50 = .ok (.istore_n 1, 1) := by decide +kernel
theorem dX7_loudest_51 : decode cX7_loudest 51 = .ok (.iinc 2 1, 3) := by decide +kernel
theorem dX7_loudest_54 : decode cX7_loudest 54 = .ok (.goto (-36), 3) := by decide +kernel
theorem dX7_loudest_57 : decode cX7_loudest 57 = .ok (.iload_n 1, 1) := by decide +kernel
theorem dX7_loudest_58 : decode cX7_loudest 58 = .ok (.ireturn, 1) := by decide +kernel
set_option maxRecDepth 20000 in
theorem ggX7_noSets_X7_in : GoodIn wsX7_noSets wsX7_in := goodIn_r _ [7] (by decide +kernel) (by decide +kernel)
set_option maxRecDepth 20000 in
theorem gX7_noSets_X7_in : GoodIn wsX7_noSets (va_wsS RX7 80 yX7_in wsX7_in) := goodIn_app (goodIn_of _ (by decide +kernel)) ggX7_noSets_X7_in
set_option maxRecDepth 20000 in
theorem ggX7_noSets_X7_refuse : GoodIn wsX7_noSets wsX7_refuse := goodIn_r _ [11, 12, 18, 19, 20, 21, 22, 23, 24, 25, 26, 27, 28, 29, 30, 31, 32, 33, 34, 35, 36, 37, 38, 39, 40, 41, 42, 43, 44, 45, 46, 47, 48, 49, 50] (by decide +kernel) (by decide +kernel)
set_option maxRecDepth 20000 in
theorem gX7_noSets_X7_refuse : GoodIn wsX7_noSets (wsV RX7 94 RX7 yX7_refuse wsX7_refuse) := goodIn_app (goodIn_of _ (by decide +kernel)) ggX7_noSets_X7_refuse
set_option maxRecDepth 20000 in
theorem ggX7_noSets_X7_noRow : GoodIn wsX7_noSets wsX7_noRow := goodIn_r _ [16, 1, 17, 4, 5, 6, 7, 8, 9, 10, 11, 12, 18, 19, 20, 21, 22, 23, 24, 25, 26, 27, 28, 29, 30, 31, 32, 33, 34, 35, 36, 37, 38, 39, 40, 41, 42, 43, 44, 45, 46, 47, 48, 49, 50] (by decide +kernel) (by decide +kernel)
set_option maxRecDepth 20000 in
theorem gX7_noSets_X7_noRow : GoodIn wsX7_noSets (wsV RX7 98 RX7 yX7_noRow wsX7_noRow) := goodIn_app (goodIn_of _ (by decide +kernel)) ggX7_noSets_X7_noRow
theorem dX7_noSets_0 : decode cX7_noSets 0 = .ok (.iload_n 1, 1) := by decide +kernel
theorem dX7_noSets_1 : decode cX7_noSets 1 = .ok (.i2l, 1) := by decide +kernel
theorem dX7_noSets_2 : decode cX7_noSets 2 = .ok (.lconst 0, 1) := by decide +kernel
theorem dX7_noSets_3 : decode cX7_noSets 3 = .ok (.ldc2_w 88, 3) := by decide +kernel
theorem dX7_noSets_6 : decode cX7_noSets 6 = .ok (.invokestatic 80, 3) := by decide +kernel
theorem dX7_noSets_9 : decode cX7_noSets 9 = .ok (.ifCond .eq 15, 3) := by decide +kernel
theorem dX7_noSets_12 : decode cX7_noSets 12 = .ok (.iload_n 2, 1) := by decide +kernel
theorem dX7_noSets_13 : decode cX7_noSets 13 = .ok (.i2l, 1) := by decide +kernel
theorem dX7_noSets_14 : decode cX7_noSets 14 = .ok (.lconst 1, 1) := by decide +kernel
theorem dX7_noSets_15 : decode cX7_noSets 15 = .ok (.ldc2_w 296, 3) := by decide +kernel
theorem dX7_noSets_18 : decode cX7_noSets 18 = .ok (.invokestatic 80, 3) := by decide +kernel
theorem dX7_noSets_21 : decode cX7_noSets 21 = .ok (.ifCond .ne 10, 3) := by decide +kernel
theorem dX7_noSets_24 : decode cX7_noSets 24 = .ok (.aload_n 0, 1) := by decide +kernel
theorem dX7_noSets_25 : decode cX7_noSets 25 = .ok (.bipush (-2), 2) := by decide +kernel
theorem dX7_noSets_27 : decode cX7_noSets 27 = .ok (.invokevirtual 94, 3) := by decide +kernel
theorem dX7_noSets_30 : decode cX7_noSets 30 = .ok (.ireturn, 1) := by decide +kernel
theorem dX7_noSets_31 : decode cX7_noSets 31 = .ok (.aload_n 0, 1) := by decide +kernel
theorem dX7_noSets_32 : decode cX7_noSets 32 = .ok (.iload_n 1, 1) := by decide +kernel
theorem dX7_noSets_33 : decode cX7_noSets 33 = .ok (.invokevirtual 98, 3) := by decide +kernel
theorem dX7_noSets_36 : decode cX7_noSets 36 = .ok (.istore_n 3, 1) := by decide +kernel
theorem dX7_noSets_37 : decode cX7_noSets 37 = .ok (.iload_n 3, 1) := by decide +kernel
theorem dX7_noSets_38 : decode cX7_noSets 38 = .ok (.ifCond .eq 5, 3) := by decide +kernel
theorem dX7_noSets_41 : decode cX7_noSets 41 = .ok (.iload_n 3, 1) := by decide +kernel
theorem dX7_noSets_42 : decode cX7_noSets 42 = .ok (.ireturn, 1) := by decide +kernel
theorem dX7_noSets_43 : decode cX7_noSets 43 = .ok (.aload_n 0, 1) := by decide +kernel
theorem dX7_noSets_44 : decode cX7_noSets 44 = .ok (.getfield 16, 3) := by decide +kernel
theorem dX7_noSets_47 : decode cX7_noSets 47 = .ok (.iload_n 1, 1) := by decide +kernel
theorem dX7_noSets_48 : decode cX7_noSets 48 = .ok (.iaload, 1) := by decide +kernel
theorem dX7_noSets_49 : decode cX7_noSets 49 = .ok (.iload_n 2, 1) := by decide +kernel
theorem dX7_noSets_50 : decode cX7_noSets 50 = .ok (.if_icmp .ge 12, 3) := by decide +kernel
theorem dX7_noSets_53 : decode cX7_noSets 53 = .ok (.aload_n 0, 1) := by decide +kernel
theorem dX7_noSets_54 : decode cX7_noSets 54 = .ok (.bipush (-2), 2) := by decide +kernel
theorem dX7_noSets_56 : decode cX7_noSets 56 = .ok (.invokevirtual 94, 3) := by decide +kernel
theorem dX7_noSets_59 : decode cX7_noSets 59 = .ok (.goto 4, 3) := by decide +kernel
theorem dX7_noSets_62 : decode cX7_noSets 62 = .ok (.iconst 0, 1) := by decide +kernel
theorem dX7_noSets_63 : decode cX7_noSets 63 = .ok (.ireturn, 1) := by decide +kernel
theorem dX7_doesPart_0 : decode cX7_doesPart 0 = .ok (.iconst 1, 1) := by decide +kernel
theorem dX7_doesPart_1 : decode cX7_doesPart 1 = .ok (.aload_n 0, 1) := by decide +kernel
theorem dX7_doesPart_2 : decode cX7_doesPart 2 = .ok (.getfield 77, 3) := by decide +kernel
theorem dX7_doesPart_5 : decode cX7_doesPart 5 = .ok (.ishl, 1) := by decide +kernel
theorem dX7_doesPart_6 : decode cX7_doesPart 6 = .ok (.iconst 1, 1) := by decide +kernel
theorem dX7_doesPart_7 : decode cX7_doesPart 7 = .ok (.isub, 1) := by decide +kernel
theorem dX7_doesPart_8 : decode cX7_doesPart 8 = .ok (.istore 4, 2) := by decide +kernel
theorem dX7_doesPart_10 : decode cX7_doesPart 10 = .ok (.iconst 0, 1) := by decide +kernel
theorem dX7_doesPart_11 : decode cX7_doesPart 11 = .ok (.istore 5, 2) := by decide +kernel
theorem dX7_doesPart_13 : decode cX7_doesPart 13 = .ok (.iload 5, 2) := by decide +kernel
theorem dX7_doesPart_15 : decode cX7_doesPart 15 = .ok (.iload_n 2, 1) := by decide +kernel
theorem dX7_doesPart_16 : decode cX7_doesPart 16 = .ok (.if_icmp .ge 64, 3) := by decide +kernel
theorem dX7_doesPart_19 : decode cX7_doesPart 19 = .ok (.iconst 0, 1) := by decide +kernel
theorem dX7_doesPart_20 : decode cX7_doesPart 20 = .ok (.istore 6, 2) := by decide +kernel
theorem dX7_doesPart_22 : decode cX7_doesPart 22 = .ok (.iload 6, 2) := by decide +kernel
theorem dX7_doesPart_24 : decode cX7_doesPart 24 = .ok (.iload 5, 2) := by decide +kernel
theorem dX7_doesPart_26 : decode cX7_doesPart 26 = .ok (.if_icmp .ge 48, 3) := by decide +kernel
theorem dX7_doesPart_29 : decode cX7_doesPart 29 = .ok (.aload_n 0, 1) := by decide +kernel
theorem dX7_doesPart_30 : decode cX7_doesPart 30 = .ok (.getfield 21, 3) := by decide +kernel
theorem dX7_doesPart_33 : decode cX7_doesPart 33 = .ok (.iload_n 1, 1) := by decide +kernel
theorem dX7_doesPart_34 : decode cX7_doesPart 34 = .ok (.aaload, 1) := by decide +kernel
theorem dX7_doesPart_35 : decode cX7_doesPart 35 = .ok (.iload 5, 2) := by decide +kernel
theorem dX7_doesPart_37 : decode cX7_doesPart 37 = .ok (.laload, 1) := by decide +kernel
theorem dX7_doesPart_38 : decode cX7_doesPart 38 = .ok (.aload_n 0, 1) := by decide +kernel
theorem dX7_doesPart_39 : decode cX7_doesPart 39 = .ok (.getfield 21, 3) := by decide +kernel
theorem dX7_doesPart_42 : decode cX7_doesPart 42 = .ok (.iload_n 1, 1) := by decide +kernel
theorem dX7_doesPart_43 : decode cX7_doesPart 43 = .ok (.aaload, 1) := by decide +kernel
theorem dX7_doesPart_44 : decode cX7_doesPart 44 = .ok (.iload 6, 2) := by decide +kernel
theorem dX7_doesPart_46 : decode cX7_doesPart 46 = .ok (.laload, 1) := by decide +kernel
theorem dX7_doesPart_47 : decode cX7_doesPart 47 = .ok (.lxor, 1) := by decide +kernel
theorem dX7_doesPart_48 : decode cX7_doesPart 48 = .ok (.l2i, 1) := by decide +kernel
theorem dX7_doesPart_49 : decode cX7_doesPart 49 = .ok (.iload 4, 2) := by decide +kernel
theorem dX7_doesPart_51 : decode cX7_doesPart 51 = .ok (.iand, 1) := by decide +kernel
theorem dX7_doesPart_52 : decode cX7_doesPart 52 = .ok (.istore 7, 2) := by decide +kernel
theorem dX7_doesPart_54 : decode cX7_doesPart 54 = .ok (.iload 7, 2) := by decide +kernel
theorem dX7_doesPart_56 : decode cX7_doesPart 56 = .ok (.ifCond .eq 12, 3) := by decide +kernel
theorem dX7_doesPart_59 : decode cX7_doesPart 59 = .ok (.iload 7, 2) := by decide +kernel
theorem dX7_doesPart_61 : decode cX7_doesPart 61 = .ok (.iload_n 3, 1) := by decide +kernel
theorem dX7_doesPart_62 : decode cX7_doesPart 62 = .ok (.iand, 1) := by decide +kernel
theorem dX7_doesPart_63 : decode cX7_doesPart 63 = .ok (.ifCond .ne 5, 3) := by decide +kernel
theorem dX7_doesPart_66 : decode cX7_doesPart 66 = .ok (.iconst 0, 1) := by decide +kernel
theorem dX7_doesPart_67 : decode cX7_doesPart 67 = .ok (.ireturn, 1) := by decide +kernel
theorem dX7_doesPart_68 : decode cX7_doesPart 68 = .ok (.iinc 6 1, 3) := by decide +kernel
theorem dX7_doesPart_71 : decode cX7_doesPart 71 = .ok (.goto (-49), 3) := by decide +kernel
theorem dX7_doesPart_74 : decode cX7_doesPart 74 = .ok (.iinc 5 1, 3) := by decide +kernel
theorem dX7_doesPart_77 : decode cX7_doesPart 77 = .ok (.goto (-64), 3) := by decide +kernel
theorem dX7_doesPart_80 : decode cX7_doesPart 80 = .ok (.iconst 1, 1) := by decide +kernel
theorem dX7_doesPart_81 : decode cX7_doesPart 81 = .ok (.ireturn, 1) := by decide +kernel
set_option maxRecDepth 20000 in
theorem ggX7_whom_X7_noSets : GoodIn wsX7_whom wsX7_noSets := goodIn_r _ [6, 7, 8, 9, 10, 11, 5, 12, 13, 14, 15, 16, 17, 18, 19, 20, 21, 22, 31, 32, 33, 34, 35, 36, 37, 38, 39, 40, 41, 42, 43, 44, 45, 46, 47, 48, 49, 50, 51, 52, 53, 54, 55, 56, 57, 58, 59, 60, 61, 62, 63] (by decide +kernel) (by decide +kernel)
set_option maxRecDepth 20000 in
theorem gX7_whom_X7_noSets : GoodIn wsX7_whom (wsV RX7 298 RX7 yX7_noSets wsX7_noSets) := goodIn_app (goodIn_of _ (by decide +kernel)) ggX7_whom_X7_noSets
set_option maxRecDepth 20000 in
theorem ggX7_whom_X7_bits : GoodIn wsX7_whom wsX7_bits := goodIn_r _ [25] (by decide +kernel) (by decide +kernel)
set_option maxRecDepth 20000 in
theorem gX7_whom_X7_bits : GoodIn wsX7_whom (va_wsS RX7 117 yX7_bits wsX7_bits) := goodIn_app (goodIn_of _ (by decide +kernel)) ggX7_whom_X7_bits
set_option maxRecDepth 20000 in
theorem ggX7_whom_X7_doesPart : GoodIn wsX7_whom wsX7_doesPart := goodIn_r _ [29, 1, 30, 31, 32, 33, 34, 35, 36, 37, 38, 39, 40, 41, 42, 43, 44, 45, 46, 47, 48, 49, 50, 51, 52, 53, 54, 55, 56, 57, 58, 59, 60, 61, 62, 63] (by decide +kernel) (by decide +kernel)
set_option maxRecDepth 20000 in
theorem gX7_whom_X7_doesPart : GoodIn wsX7_whom (wsV RX7 301 RX7 yX7_doesPart wsX7_doesPart) := goodIn_app (goodIn_of _ (by decide +kernel)) ggX7_whom_X7_doesPart
theorem dX7_whom_0 : decode cX7_whom 0 = .ok (.aload_n 0, 1) := by decide +kernel
theorem dX7_whom_1 : decode cX7_whom 1 = .ok (.iload_n 1, 1) := by decide +kernel
theorem dX7_whom_2 : decode cX7_whom 2 = .ok (.iload_n 2, 1) := by decide +kernel
theorem dX7_whom_3 : decode cX7_whom 3 = .ok (.invokevirtual 298, 3) := by decide +kernel
theorem dX7_whom_6 : decode cX7_whom 6 = .ok (.istore_n 3, 1) := by decide +kernel
theorem dX7_whom_7 : decode cX7_whom 7 = .ok (.iload_n 3, 1) := by decide +kernel
theorem dX7_whom_8 : decode cX7_whom 8 = .ok (.ifCond .eq 5, 3) := by decide +kernel
theorem dX7_whom_11 : decode cX7_whom 11 = .ok (.iload_n 3, 1) := by decide +kernel
theorem dX7_whom_12 : decode cX7_whom 12 = .ok (.ireturn, 1) := by decide +kernel
theorem dX7_whom_13 : decode cX7_whom 13 = .ok (.iconst 1, 1) := by decide +kernel
theorem dX7_whom_14 : decode cX7_whom 14 = .ok (.aload_n 0, 1) := by decide +kernel
theorem dX7_whom_15 : decode cX7_whom 15 = .ok (.getfield 77, 3) := by decide +kernel
theorem dX7_whom_18 : decode cX7_whom 18 = .ok (.ishl, 1) := by decide +kernel
theorem dX7_whom_19 : decode cX7_whom 19 = .ok (.iconst 1, 1) := by decide +kernel
theorem dX7_whom_20 : decode cX7_whom 20 = .ok (.isub, 1) := by decide +kernel
theorem dX7_whom_21 : decode cX7_whom 21 = .ok (.istore 4, 2) := by decide +kernel
theorem dX7_whom_23 : decode cX7_whom 23 = .ok (.iload 4, 2) := by decide +kernel
theorem dX7_whom_25 : decode cX7_whom 25 = .ok (.istore 5, 2) := by decide +kernel
theorem dX7_whom_27 : decode cX7_whom 27 = .ok (.iload 5, 2) := by decide +kernel
theorem dX7_whom_29 : decode cX7_whom 29 = .ok (.ifCond .lt 37, 3) := by decide +kernel
theorem dX7_whom_32 : decode cX7_whom 32 = .ok (.iload 5, 2) := by decide +kernel
theorem dX7_whom_34 : decode cX7_whom 34 = .ok (.invokestatic 117, 3) := by decide +kernel
theorem dX7_whom_37 : decode cX7_whom 37 = .ok (.iload 4, 2) := by decide +kernel
theorem dX7_whom_39 : decode cX7_whom 39 = .ok (.invokestatic 117, 3) := by decide +kernel
theorem dX7_whom_42 : decode cX7_whom 42 = .ok (.if_icmp .gt 18, 3) := by decide +kernel
theorem dX7_whom_45 : decode cX7_whom 45 = .ok (.aload_n 0, 1) := by decide +kernel
theorem dX7_whom_46 : decode cX7_whom 46 = .ok (.iload_n 1, 1) := by decide +kernel
theorem dX7_whom_47 : decode cX7_whom 47 = .ok (.iload_n 2, 1) := by decide +kernel
theorem dX7_whom_48 : decode cX7_whom 48 = .ok (.iload 5, 2) := by decide +kernel
theorem dX7_whom_50 : decode cX7_whom 50 = .ok (.invokevirtual 301, 3) := by decide +kernel
theorem dX7_whom_53 : decode cX7_whom 53 = .ok (.ifCond .eq 7, 3) := by decide +kernel
theorem dX7_whom_56 : decode cX7_whom 56 = .ok (.iload 5, 2) := by decide +kernel
theorem dX7_whom_58 : decode cX7_whom 58 = .ok (.istore 4, 2) := by decide +kernel
theorem dX7_whom_60 : decode cX7_whom 60 = .ok (.iinc 5 (-1), 3) := by decide +kernel
theorem dX7_whom_63 : decode cX7_whom 63 = .ok (.goto (-36), 3) := by decide +kernel
theorem dX7_whom_66 : decode cX7_whom 66 = .ok (.iload 4, 2) := by decide +kernel
theorem dX7_whom_68 : decode cX7_whom 68 = .ok (.ireturn, 1) := by decide +kernel
set_option maxRecDepth 20000 in
theorem ggX7_parts_X7_in : GoodIn wsX7_parts wsX7_in := goodIn_r _ [7] (by decide +kernel) (by decide +kernel)
set_option maxRecDepth 20000 in
theorem gX7_parts_X7_in : GoodIn wsX7_parts (va_wsS RX7 80 yX7_in wsX7_in) := goodIn_app (goodIn_of _ (by decide +kernel)) ggX7_parts_X7_in
set_option maxRecDepth 20000 in
theorem ggX7_parts_X7_refuse : GoodIn wsX7_parts wsX7_refuse := goodIn_r _ [11, 12, 28, 29, 30, 31, 32, 33, 34, 35, 36, 37, 38, 39, 40, 41, 42, 43, 44, 45, 46, 47, 48, 49, 50, 51, 52, 53, 54, 55, 56, 57, 58, 59, 60] (by decide +kernel) (by decide +kernel)
set_option maxRecDepth 20000 in
theorem gX7_parts_X7_refuse : GoodIn wsX7_parts (wsV RX7 94 RX7 yX7_refuse wsX7_refuse) := goodIn_app (goodIn_of _ (by decide +kernel)) ggX7_parts_X7_refuse
set_option maxRecDepth 20000 in
theorem ggX7_parts_X7_noSets : GoodIn wsX7_parts wsX7_noSets := goodIn_r _ [16, 1, 2, 17, 4, 5, 6, 7, 8, 9, 10, 11, 12, 18, 19, 20, 21, 22, 28, 29, 30, 31, 32, 33, 34, 35, 36, 37, 38, 39, 40, 41, 42, 43, 44, 45, 46, 47, 48, 49, 50, 51, 52, 53, 54, 55, 56, 57, 58, 59, 60] (by decide +kernel) (by decide +kernel)
set_option maxRecDepth 20000 in
theorem gX7_parts_X7_noSets : GoodIn wsX7_parts (wsV RX7 298 RX7 yX7_noSets wsX7_noSets) := goodIn_app (goodIn_of _ (by decide +kernel)) ggX7_parts_X7_noSets
set_option maxRecDepth 20000 in
theorem ggX7_parts_X7_doesPart : GoodIn wsX7_parts wsX7_doesPart := goodIn_r _ [26, 3, 27, 28, 29, 30, 31, 32, 33, 34, 35, 36, 37, 38, 39, 40, 41, 42, 43, 44, 45, 46, 47, 48, 49, 50, 51, 52, 53, 54, 55, 56, 57, 58, 59, 60] (by decide +kernel) (by decide +kernel)
set_option maxRecDepth 20000 in
theorem gX7_parts_X7_doesPart : GoodIn wsX7_parts (wsV RX7 301 RX7 yX7_doesPart wsX7_doesPart) := goodIn_app (goodIn_of _ (by decide +kernel)) ggX7_parts_X7_doesPart
theorem dX7_parts_0 : decode cX7_parts 0 = .ok (.iload_n 1, 1) := by decide +kernel
theorem dX7_parts_1 : decode cX7_parts 1 = .ok (.i2l, 1) := by decide +kernel
theorem dX7_parts_2 : decode cX7_parts 2 = .ok (.lconst 0, 1) := by decide +kernel
theorem dX7_parts_3 : decode cX7_parts 3 = .ok (.ldc2_w 88, 3) := by decide +kernel
theorem dX7_parts_6 : decode cX7_parts 6 = .ok (.invokestatic 80, 3) := by decide +kernel
theorem dX7_parts_9 : decode cX7_parts 9 = .ok (.ifCond .eq 33, 3) := by decide +kernel
theorem dX7_parts_12 : decode cX7_parts 12 = .ok (.iload_n 2, 1) := by decide +kernel
theorem dX7_parts_13 : decode cX7_parts 13 = .ok (.i2l, 1) := by decide +kernel
theorem dX7_parts_14 : decode cX7_parts 14 = .ok (.lconst 1, 1) := by decide +kernel
theorem dX7_parts_15 : decode cX7_parts 15 = .ok (.ldc2_w 296, 3) := by decide +kernel
theorem dX7_parts_18 : decode cX7_parts 18 = .ok (.invokestatic 80, 3) := by decide +kernel
theorem dX7_parts_21 : decode cX7_parts 21 = .ok (.ifCond .eq 21, 3) := by decide +kernel
theorem dX7_parts_24 : decode cX7_parts 24 = .ok (.iload_n 3, 1) := by decide +kernel
theorem dX7_parts_25 : decode cX7_parts 25 = .ok (.i2l, 1) := by decide +kernel
theorem dX7_parts_26 : decode cX7_parts 26 = .ok (.lconst 0, 1) := by decide +kernel
theorem dX7_parts_27 : decode cX7_parts 27 = .ok (.iconst 1, 1) := by decide +kernel
theorem dX7_parts_28 : decode cX7_parts 28 = .ok (.aload_n 0, 1) := by decide +kernel
theorem dX7_parts_29 : decode cX7_parts 29 = .ok (.getfield 77, 3) := by decide +kernel
theorem dX7_parts_32 : decode cX7_parts 32 = .ok (.ishl, 1) := by decide +kernel
theorem dX7_parts_33 : decode cX7_parts 33 = .ok (.iconst 1, 1) := by decide +kernel
theorem dX7_parts_34 : decode cX7_parts 34 = .ok (.isub, 1) := by decide +kernel
theorem dX7_parts_35 : decode cX7_parts 35 = .ok (.i2l, 1) := by decide +kernel
theorem dX7_parts_36 : decode cX7_parts 36 = .ok (.invokestatic 80, 3) := by decide +kernel
theorem dX7_parts_39 : decode cX7_parts 39 = .ok (.ifCond .ne 10, 3) := by decide +kernel
theorem dX7_parts_42 : decode cX7_parts 42 = .ok (.aload_n 0, 1) := by decide +kernel
theorem dX7_parts_43 : decode cX7_parts 43 = .ok (.bipush (-2), 2) := by decide +kernel
theorem dX7_parts_45 : decode cX7_parts 45 = .ok (.invokevirtual 94, 3) := by decide +kernel
theorem dX7_parts_48 : decode cX7_parts 48 = .ok (.ireturn, 1) := by decide +kernel
theorem dX7_parts_49 : decode cX7_parts 49 = .ok (.aload_n 0, 1) := by decide +kernel
theorem dX7_parts_50 : decode cX7_parts 50 = .ok (.iload_n 1, 1) := by decide +kernel
theorem dX7_parts_51 : decode cX7_parts 51 = .ok (.iload_n 2, 1) := by decide +kernel
theorem dX7_parts_52 : decode cX7_parts 52 = .ok (.invokevirtual 298, 3) := by decide +kernel
theorem dX7_parts_55 : decode cX7_parts 55 = .ok (.istore 4, 2) := by decide +kernel
theorem dX7_parts_57 : decode cX7_parts 57 = .ok (.iload 4, 2) := by decide +kernel
theorem dX7_parts_59 : decode cX7_parts 59 = .ok (.ifCond .eq 8, 3) := by decide +kernel
theorem dX7_parts_62 : decode cX7_parts 62 = .ok (.iload 4, 2) := by decide +kernel
theorem dX7_parts_64 : decode cX7_parts 64 = .ok (.goto 18, 3) := by decide +kernel
theorem dX7_parts_67 : decode cX7_parts 67 = .ok (.aload_n 0, 1) := by decide +kernel
theorem dX7_parts_68 : decode cX7_parts 68 = .ok (.iload_n 1, 1) := by decide +kernel
theorem dX7_parts_69 : decode cX7_parts 69 = .ok (.iload_n 2, 1) := by decide +kernel
theorem dX7_parts_70 : decode cX7_parts 70 = .ok (.iload_n 3, 1) := by decide +kernel
theorem dX7_parts_71 : decode cX7_parts 71 = .ok (.invokevirtual 301, 3) := by decide +kernel
theorem dX7_parts_74 : decode cX7_parts 74 = .ok (.ifCond .eq 7, 3) := by decide +kernel
theorem dX7_parts_77 : decode cX7_parts 77 = .ok (.iconst 1, 1) := by decide +kernel
theorem dX7_parts_78 : decode cX7_parts 78 = .ok (.goto 4, 3) := by decide +kernel
theorem dX7_parts_81 : decode cX7_parts 81 = .ok (.iconst 0, 1) := by decide +kernel
theorem dX7_parts_82 : decode cX7_parts 82 = .ok (.ireturn, 1) := by decide +kernel
set_option maxRecDepth 20000 in
theorem ggX7_noEvening_X7_in : GoodIn wsX7_noEvening wsX7_in := goodIn_r _ [7] (by decide +kernel) (by decide +kernel)
set_option maxRecDepth 20000 in
theorem gX7_noEvening_X7_in : GoodIn wsX7_noEvening (va_wsS RX7 80 yX7_in wsX7_in) := goodIn_app (goodIn_of _ (by decide +kernel)) ggX7_noEvening_X7_in
set_option maxRecDepth 20000 in
theorem ggX7_noEvening_X7_refuse : GoodIn wsX7_noEvening wsX7_refuse := goodIn_r _ [11, 12, 18, 19, 20, 21, 22, 23, 24, 25, 26, 27, 28, 29, 30, 31, 32, 33, 34, 35, 36, 37, 38, 39, 40, 41, 42, 43, 44, 45, 46, 47, 48, 49, 50] (by decide +kernel) (by decide +kernel)
set_option maxRecDepth 20000 in
theorem gX7_noEvening_X7_refuse : GoodIn wsX7_noEvening (wsV RX7 94 RX7 yX7_refuse wsX7_refuse) := goodIn_app (goodIn_of _ (by decide +kernel)) ggX7_noEvening_X7_refuse
set_option maxRecDepth 20000 in
theorem ggX7_noEvening_X7_noRow : GoodIn wsX7_noEvening wsX7_noRow := goodIn_r _ [16, 1, 17, 4, 5, 6, 7, 8, 9, 10, 11, 12, 18, 19, 20, 21, 22, 23, 24, 25, 26, 27, 28, 29, 30, 31, 32, 33, 34, 35, 36, 37, 38, 39, 40, 41, 42, 43, 44, 45, 46, 47, 48, 49, 50] (by decide +kernel) (by decide +kernel)
set_option maxRecDepth 20000 in
theorem gX7_noEvening_X7_noRow : GoodIn wsX7_noEvening (wsV RX7 98 RX7 yX7_noRow wsX7_noRow) := goodIn_app (goodIn_of _ (by decide +kernel)) ggX7_noEvening_X7_noRow
theorem dX7_noEvening_0 : decode cX7_noEvening 0 = .ok (.iload_n 1, 1) := by decide +kernel
theorem dX7_noEvening_1 : decode cX7_noEvening 1 = .ok (.i2l, 1) := by decide +kernel
theorem dX7_noEvening_2 : decode cX7_noEvening 2 = .ok (.lconst 0, 1) := by decide +kernel
theorem dX7_noEvening_3 : decode cX7_noEvening 3 = .ok (.ldc2_w 88, 3) := by decide +kernel
theorem dX7_noEvening_6 : decode cX7_noEvening 6 = .ok (.invokestatic 80, 3) := by decide +kernel
theorem dX7_noEvening_9 : decode cX7_noEvening 9 = .ok (.ifCond .eq 15, 3) := by decide +kernel
theorem dX7_noEvening_12 : decode cX7_noEvening 12 = .ok (.iload_n 2, 1) := by decide +kernel
theorem dX7_noEvening_13 : decode cX7_noEvening 13 = .ok (.i2l, 1) := by decide +kernel
theorem dX7_noEvening_14 : decode cX7_noEvening 14 = .ok (.lconst 0, 1) := by decide +kernel
theorem dX7_noEvening_15 : decode cX7_noEvening 15 = .ok (.ldc2_w 92, 3) := by decide +kernel
theorem dX7_noEvening_18 : decode cX7_noEvening 18 = .ok (.invokestatic 80, 3) := by decide +kernel
theorem dX7_noEvening_21 : decode cX7_noEvening 21 = .ok (.ifCond .ne 10, 3) := by decide +kernel
theorem dX7_noEvening_24 : decode cX7_noEvening 24 = .ok (.aload_n 0, 1) := by decide +kernel
theorem dX7_noEvening_25 : decode cX7_noEvening 25 = .ok (.bipush (-2), 2) := by decide +kernel
theorem dX7_noEvening_27 : decode cX7_noEvening 27 = .ok (.invokevirtual 94, 3) := by decide +kernel
theorem dX7_noEvening_30 : decode cX7_noEvening 30 = .ok (.ireturn, 1) := by decide +kernel
theorem dX7_noEvening_31 : decode cX7_noEvening 31 = .ok (.aload_n 0, 1) := by decide +kernel
theorem dX7_noEvening_32 : decode cX7_noEvening 32 = .ok (.iload_n 1, 1) := by decide +kernel
theorem dX7_noEvening_33 : decode cX7_noEvening 33 = .ok (.invokevirtual 98, 3) := by decide +kernel
theorem dX7_noEvening_36 : decode cX7_noEvening 36 = .ok (.istore_n 3, 1) := by decide +kernel
theorem dX7_noEvening_37 : decode cX7_noEvening 37 = .ok (.iload_n 3, 1) := by decide +kernel
theorem dX7_noEvening_38 : decode cX7_noEvening 38 = .ok (.ifCond .eq 5, 3) := by decide +kernel
theorem dX7_noEvening_41 : decode cX7_noEvening 41 = .ok (.iload_n 3, 1) := by decide +kernel
theorem dX7_noEvening_42 : decode cX7_noEvening 42 = .ok (.ireturn, 1) := by decide +kernel
theorem dX7_noEvening_43 : decode cX7_noEvening 43 = .ok (.aload_n 0, 1) := by decide +kernel
theorem dX7_noEvening_44 : decode cX7_noEvening 44 = .ok (.getfield 16, 3) := by decide +kernel
theorem dX7_noEvening_47 : decode cX7_noEvening 47 = .ok (.iload_n 1, 1) := by decide +kernel
theorem dX7_noEvening_48 : decode cX7_noEvening 48 = .ok (.iaload, 1) := by decide +kernel
theorem dX7_noEvening_49 : decode cX7_noEvening 49 = .ok (.iload_n 2, 1) := by decide +kernel
theorem dX7_noEvening_50 : decode cX7_noEvening 50 = .ok (.if_icmp .ge 12, 3) := by decide +kernel
theorem dX7_noEvening_53 : decode cX7_noEvening 53 = .ok (.aload_n 0, 1) := by decide +kernel
theorem dX7_noEvening_54 : decode cX7_noEvening 54 = .ok (.bipush (-2), 2) := by decide +kernel
theorem dX7_noEvening_56 : decode cX7_noEvening 56 = .ok (.invokevirtual 94, 3) := by decide +kernel
theorem dX7_noEvening_59 : decode cX7_noEvening 59 = .ok (.goto 4, 3) := by decide +kernel
theorem dX7_noEvening_62 : decode cX7_noEvening 62 = .ok (.iconst 0, 1) := by decide +kernel
theorem dX7_noEvening_63 : decode cX7_noEvening 63 = .ok (.ireturn, 1) := by decide +kernel
theorem dX7_isSaying_0 : decode cX7_isSaying 0 = .ok (.lload_n 1, 1) := by decide +kernel
theorem dX7_isSaying_1 : decode cX7_isSaying 1 = .ok (.lconst 0, 1) := by decide +kernel
theorem dX7_isSaying_2 : decode cX7_isSaying 2 = .ok (.lcmp, 1) := by decide +kernel
theorem dX7_isSaying_3 : decode cX7_isSaying 3 = .ok (.ifCond .lt 35, 3) := by decide +kernel
theorem dX7_isSaying_6 : decode cX7_isSaying 6 = .ok (.lload_n 1, 1) := by decide +kernel
theorem dX7_isSaying_7 : decode cX7_isSaying 7 = .ok (.ldc2_w 296, 3) := by decide +kernel
theorem dX7_isSaying_10 : decode cX7_isSaying 10 = .ok (.ldiv, 1) := by decide +kernel
theorem dX7_isSaying_11 : decode cX7_isSaying 11 = .ok (.aload_n 0, 1) := by decide +kernel
theorem dX7_isSaying_12 : decode cX7_isSaying 12 = .ok (.getfield 77, 3) := by decide +kernel
theorem dX7_isSaying_15 : decode cX7_isSaying 15 = .ok (.i2l, 1) := by decide +kernel
theorem dX7_isSaying_16 : decode cX7_isSaying 16 = .ok (.lcmp, 1) := by decide +kernel
theorem dX7_isSaying_17 : decode cX7_isSaying 17 = .ok (.ifCond .ge 21, 3) := by decide +kernel
theorem dX7_isSaying_20 : decode cX7_isSaying 20 = .ok (.lload_n 1, 1) := by decide +kernel
theorem dX7_isSaying_21 : decode cX7_isSaying 21 = .ok (.ldc2_w 296, 3) := by decide +kernel
theorem dX7_isSaying_24 : decode cX7_isSaying 24 = .ok (.lrem, 1) := by decide +kernel
theorem dX7_isSaying_25 : decode cX7_isSaying 25 = .ok (.aload_n 0, 1) := by decide +kernel
theorem dX7_isSaying_26 : decode cX7_isSaying 26 = .ok (.getfield 37, 3) := by decide +kernel
theorem dX7_isSaying_29 : decode cX7_isSaying 29 = .ok (.i2l, 1) := by decide +kernel
theorem dX7_isSaying_30 : decode cX7_isSaying 30 = .ok (.lcmp, 1) := by decide +kernel
theorem dX7_isSaying_31 : decode cX7_isSaying 31 = .ok (.ifCond .ge 7, 3) := by decide +kernel
theorem dX7_isSaying_34 : decode cX7_isSaying 34 = .ok (.iconst 1, 1) := by decide +kernel
theorem dX7_isSaying_35 : decode cX7_isSaying 35 = .ok (.goto 4, 3) := by decide +kernel
theorem dX7_isSaying_38 : decode cX7_isSaying 38 = .ok (.iconst 0, 1) := by decide +kernel
theorem dX7_isSaying_39 : decode cX7_isSaying 39 = .ok (.ireturn, 1) := by decide +kernel
set_option maxRecDepth 20000 in
theorem ggX7_goesBy_X7_isSaying : GoodIn wsX7_goesBy wsX7_isSaying := goodIn_r _ [6, 1, 7, 8, 37, 38, 39, 40, 41, 42, 43, 44, 45, 46, 47, 48, 49, 50, 51, 52, 53, 54, 55, 56, 57, 58, 59, 60, 61, 62, 63, 64, 65, 66, 67, 68, 69] (by decide +kernel) (by decide +kernel)
set_option maxRecDepth 20000 in
theorem gX7_goesBy_X7_isSaying : GoodIn wsX7_goesBy (wsV RX7 304 RX7 yX7_isSaying wsX7_isSaying) := goodIn_app (goodIn_of _ (by decide +kernel)) ggX7_goesBy_X7_isSaying
set_option maxRecDepth 20000 in
theorem ggX7_goesBy_X7_mayOf : GoodIn wsX7_goesBy wsX7_mayOf := goodIn_r _ [12, 13, 14, 7, 15, 16, 17, 8, 18, 19, 20, 5, 21, 22, 23, 24, 25, 26, 27, 28, 29, 37, 38, 39, 40, 41, 42, 43, 44, 45, 46, 47, 48, 49, 50, 51, 52, 53, 54, 55, 56, 57, 58, 59, 60, 61, 62, 63, 64, 65, 66, 67, 68, 69] (by decide +kernel) (by decide +kernel)
set_option maxRecDepth 20000 in
theorem gX7_goesBy_X7_mayOf : GoodIn wsX7_goesBy (wsV RX7 114 RX7 yX7_mayOf wsX7_mayOf) := goodIn_app (goodIn_of _ (by decide +kernel)) ggX7_goesBy_X7_mayOf
set_option maxRecDepth 20000 in
theorem ggX7_goesBy_X7_has : GoodIn wsX7_goesBy wsX7_has := goodIn_r _ [29] (by decide +kernel) (by decide +kernel)
set_option maxRecDepth 20000 in
theorem gX7_goesBy_X7_has : GoodIn wsX7_goesBy (va_wsS RX7 84 yX7_has wsX7_has) := goodIn_app (goodIn_of _ (by decide +kernel)) ggX7_goesBy_X7_has
set_option maxRecDepth 20000 in
theorem ggX7_goesBy_X7_isSaid : GoodIn wsX7_goesBy wsX7_isSaid := goodIn_r _ [33, 7, 15, 14, 27, 28, 5, 29, 34, 35, 36, 37, 38, 39, 40, 41, 42, 43, 44, 45, 46, 47, 48, 49, 50, 51, 52, 53, 54, 55, 56, 57, 58, 59, 60, 61, 62, 63, 64, 65, 66, 67, 68, 69] (by decide +kernel) (by decide +kernel)
set_option maxRecDepth 20000 in
theorem gX7_goesBy_X7_isSaid : GoodIn wsX7_goesBy (wsV RX7 253 RX7 yX7_isSaid wsX7_isSaid) := goodIn_app (goodIn_of _ (by decide +kernel)) ggX7_goesBy_X7_isSaid
theorem dX7_goesBy_0 : decode cX7_goesBy 0 = .ok (.iconst 0, 1) := by decide +kernel
theorem dX7_goesBy_1 : decode cX7_goesBy 1 = .ok (.istore_n 3, 1) := by decide +kernel
theorem dX7_goesBy_2 : decode cX7_goesBy 2 = .ok (.iload_n 3, 1) := by decide +kernel
theorem dX7_goesBy_3 : decode cX7_goesBy 3 = .ok (.iload_n 2, 1) := by decide +kernel
theorem dX7_goesBy_4 : decode cX7_goesBy 4 = .ok (.if_icmp .ge 70, 3) := by decide +kernel
theorem dX7_goesBy_7 : decode cX7_goesBy 7 = .ok (.aload_n 0, 1) := by decide +kernel
theorem dX7_goesBy_8 : decode cX7_goesBy 8 = .ok (.aload_n 1, 1) := by decide +kernel
theorem dX7_goesBy_9 : decode cX7_goesBy 9 = .ok (.iload_n 3, 1) := by decide +kernel
theorem dX7_goesBy_10 : decode cX7_goesBy 10 = .ok (.laload, 1) := by decide +kernel
theorem dX7_goesBy_11 : decode cX7_goesBy 11 = .ok (.invokevirtual 304, 3) := by decide +kernel
theorem dX7_goesBy_14 : decode cX7_goesBy 14 = .ok (.ifCond .eq 29, 3) := by decide +kernel
theorem dX7_goesBy_17 : decode cX7_goesBy 17 = .ok (.aload_n 0, 1) := by decide +kernel
theorem dX7_goesBy_18 : decode cX7_goesBy 18 = .ok (.aload_n 1, 1) := by decide +kernel
theorem dX7_goesBy_19 : decode cX7_goesBy 19 = .ok (.iload_n 3, 1) := by decide +kernel
theorem dX7_goesBy_20 : decode cX7_goesBy 20 = .ok (.laload, 1) := by decide +kernel
theorem dX7_goesBy_21 : decode cX7_goesBy 21 = .ok (.ldc2_w 296, 3) := by decide +kernel
theorem dX7_goesBy_24 : decode cX7_goesBy 24 = .ok (.ldiv, 1) := by decide +kernel
theorem dX7_goesBy_25 : decode cX7_goesBy 25 = .ok (.l2i, 1) := by decide +kernel
theorem dX7_goesBy_26 : decode cX7_goesBy 26 = .ok (.invokevirtual 114, 3) := by decide +kernel
theorem dX7_goesBy_29 : decode cX7_goesBy 29 = .ok (.aload_n 1, 1) := by decide +kernel
theorem dX7_goesBy_30 : decode cX7_goesBy 30 = .ok (.iload_n 3, 1) := by decide +kernel
theorem dX7_goesBy_31 : decode cX7_goesBy 31 = .ok (.laload, 1) := by decide +kernel
theorem dX7_goesBy_32 : decode cX7_goesBy 32 = .ok (.ldc2_w 296, 3) := by decide +kernel
theorem dX7_goesBy_35 : decode cX7_goesBy 35 = .ok (.lrem, 1) := by decide +kernel
theorem dX7_goesBy_36 : decode cX7_goesBy 36 = .ok (.l2i, 1) := by decide +kernel
theorem dX7_goesBy_37 : decode cX7_goesBy 37 = .ok (.invokestatic 84, 3) := by decide +kernel
theorem dX7_goesBy_40 : decode cX7_goesBy 40 = .ok (.ifCond .ne 5, 3) := by decide +kernel
theorem dX7_goesBy_43 : decode cX7_goesBy 43 = .ok (.iload_n 3, 1) := by decide +kernel
theorem dX7_goesBy_44 : decode cX7_goesBy 44 = .ok (.ireturn, 1) := by decide +kernel
theorem dX7_goesBy_45 : decode cX7_goesBy 45 = .ok (.aload_n 0, 1) := by decide +kernel
theorem dX7_goesBy_46 : decode cX7_goesBy 46 = .ok (.aload_n 1, 1) := by decide +kernel
theorem dX7_goesBy_47 : decode cX7_goesBy 47 = .ok (.iload_n 3, 1) := by decide +kernel
theorem dX7_goesBy_48 : decode cX7_goesBy 48 = .ok (.laload, 1) := by decide +kernel
theorem dX7_goesBy_49 : decode cX7_goesBy 49 = .ok (.ldc2_w 296, 3) := by decide +kernel
theorem dX7_goesBy_52 : decode cX7_goesBy 52 = .ok (.ldiv, 1) := by decide +kernel
theorem dX7_goesBy_53 : decode cX7_goesBy 53 = .ok (.l2i, 1) := by decide +kernel
theorem dX7_goesBy_54 : decode cX7_goesBy 54 = .ok (.iconst 1, 1) := by decide +kernel
theorem dX7_goesBy_55 : decode cX7_goesBy 55 = .ok (.aload_n 1, 1) := by decide +kernel
theorem dX7_goesBy_56 : decode cX7_goesBy 56 = .ok (.iload_n 3, 1) := by decide +kernel
theorem dX7_goesBy_57 : decode cX7_goesBy 57 = .ok (.laload, 1) := by decide +kernel
theorem dX7_goesBy_58 : decode cX7_goesBy 58 = .ok (.ldc2_w 296, 3) := by decide +kernel
theorem dX7_goesBy_61 : decode cX7_goesBy 61 = .ok (.lrem, 1) := by decide +kernel
theorem dX7_goesBy_62 : decode cX7_goesBy 62 = .ok (.l2i, 1) := by decide +kernel
theorem dX7_goesBy_63 : decode cX7_goesBy 63 = .ok (.ishl, 1) := by decide +kernel
theorem dX7_goesBy_64 : decode cX7_goesBy 64 = .ok (.invokevirtual 253, 3) := by decide +kernel
theorem dX7_goesBy_67 : decode cX7_goesBy 67 = .ok (.pop, 1) := by decide +kernel
theorem dX7_goesBy_68 : decode cX7_goesBy 68 = .ok (.iinc 3 1, 3) := by decide +kernel
theorem dX7_goesBy_71 : decode cX7_goesBy 71 = .ok (.goto (-69), 3) := by decide +kernel
theorem dX7_goesBy_74 : decode cX7_goesBy 74 = .ok (.iconst (-1), 1) := by decide +kernel
theorem dX7_goesBy_75 : decode cX7_goesBy 75 = .ok (.ireturn, 1) := by decide +kernel
set_option maxRecDepth 20000 in
theorem ggX7_judge_X7_noEvening : GoodIn wsX7_judge wsX7_noEvening := goodIn_r _ [6, 7, 8, 9, 10, 11, 5, 12, 13, 14, 15, 16, 17, 18, 19, 20, 21, 22, 96, 97, 98, 99, 100, 101, 102, 103, 104, 105, 106, 107, 108, 109, 110, 111, 112, 113, 114, 115, 116, 117, 118, 119, 120, 121, 122, 123, 124, 125, 126, 127, 128] (by decide +kernel) (by decide +kernel)
set_option maxRecDepth 20000 in
theorem gX7_judge_X7_noEvening : GoodIn wsX7_judge (wsV RX7 308 RX7 yX7_noEvening wsX7_noEvening) := goodIn_app (goodIn_of _ (by decide +kernel)) ggX7_judge_X7_noEvening
set_option maxRecDepth 20000 in
theorem ggX7_judge_X7_fresh : GoodIn wsX7_judge wsX7_fresh := goodIn_r _ [26, 27, 28, 29, 5, 30, 31, 32, 33, 34, 35, 36, 22, 37, 9, 38, 39, 1, 40, 41, 42, 17, 43, 44, 45, 46, 47, 48, 49, 50, 51, 52, 53, 54, 55, 56, 57, 58, 59, 60, 61, 62, 63, 64, 96, 97, 98, 99, 100, 101, 102, 103, 104, 105, 106, 107, 108, 109, 110, 111, 112, 113, 114, 115, 116, 117, 118, 119, 120, 121, 122, 123, 124, 125, 126, 127, 128] (by decide +kernel) (by decide +kernel)
set_option maxRecDepth 20000 in
theorem gX7_judge_X7_fresh : GoodIn wsX7_judge (wsV RX7 236 RX7 yX7_fresh wsX7_fresh) := goodIn_app (goodIn_of _ (by decide +kernel)) ggX7_judge_X7_fresh
set_option maxRecDepth 20000 in
theorem ggX7_judge_X7_goesBy : GoodIn wsX7_judge wsX7_goesBy := goodIn_r _ [68, 69, 70, 71, 72, 5, 73, 60, 43, 74, 75, 76, 77, 44, 48, 49, 46, 50, 78, 79, 80, 81, 47, 82, 83, 84, 85, 86, 87, 88, 89, 90, 91, 92, 93, 94, 95, 96, 97, 98, 99, 100, 101, 102, 103, 104, 105, 106, 107, 108, 109, 110, 111, 112, 113, 114, 115, 116, 117, 118, 119, 120, 121, 122, 123, 124, 125, 126, 127, 128] (by decide +kernel) (by decide +kernel)
set_option maxRecDepth 20000 in
theorem gX7_judge_X7_goesBy : GoodIn wsX7_judge (wsV RX7 311 RX7 yX7_goesBy wsX7_goesBy) := goodIn_app (goodIn_of _ (by decide +kernel)) ggX7_judge_X7_goesBy
theorem dX7_judge_0 : decode cX7_judge 0 = .ok (.aload_n 0, 1) := by decide +kernel
theorem dX7_judge_1 : decode cX7_judge 1 = .ok (.iload_n 1, 1) := by decide +kernel
theorem dX7_judge_2 : decode cX7_judge 2 = .ok (.iload_n 2, 1) := by decide +kernel
theorem dX7_judge_3 : decode cX7_judge 3 = .ok (.invokevirtual 308, 3) := by decide +kernel
theorem dX7_judge_6 : decode cX7_judge 6 = .ok (.istore_n 3, 1) := by decide +kernel
theorem dX7_judge_7 : decode cX7_judge 7 = .ok (.iload_n 3, 1) := by decide +kernel
theorem dX7_judge_8 : decode cX7_judge 8 = .ok (.ifCond .eq 7, 3) := by decide +kernel
theorem dX7_judge_11 : decode cX7_judge 11 = .ok (.iload_n 3, 1) := by decide +kernel
theorem dX7_judge_12 : decode cX7_judge 12 = .ok (.goto 17, 3) := by decide +kernel
theorem dX7_judge_15 : decode cX7_judge 15 = .ok (.aload_n 0, 1) := by decide +kernel
theorem dX7_judge_16 : decode cX7_judge 16 = .ok (.invokevirtual 236, 3) := by decide +kernel
theorem dX7_judge_19 : decode cX7_judge 19 = .ok (.aload_n 0, 1) := by decide +kernel
theorem dX7_judge_20 : decode cX7_judge 20 = .ok (.getfield 21, 3) := by decide +kernel
theorem dX7_judge_23 : decode cX7_judge 23 = .ok (.iload_n 1, 1) := by decide +kernel
theorem dX7_judge_24 : decode cX7_judge 24 = .ok (.aaload, 1) := by decide +kernel
theorem dX7_judge_25 : decode cX7_judge 25 = .ok (.iload_n 2, 1) := by decide +kernel
theorem dX7_judge_26 : decode cX7_judge 26 = .ok (.invokevirtual 311, 3) := by decide +kernel
theorem dX7_judge_29 : decode cX7_judge 29 = .ok (.ireturn, 1) := by decide +kernel
set_option maxRecDepth 20000 in
theorem ggX7_heard_X7_isOne : GoodIn wsX7_heard wsX7_isOne := goodIn_r _ [7, 8, 9, 10, 6, 11, 100, 101, 102, 103, 104, 105, 106, 107, 108, 109, 110, 111, 112, 113, 114, 115, 116, 117, 118, 119, 120, 121, 122, 123, 124, 125, 126, 127, 128, 129, 130, 131, 132] (by decide +kernel) (by decide +kernel)
set_option maxRecDepth 20000 in
theorem gX7_heard_X7_isOne : GoodIn wsX7_heard (wsV RX7 105 RX7 yX7_isOne wsX7_isOne) := goodIn_app (goodIn_of _ (by decide +kernel)) ggX7_heard_X7_isOne
set_option maxRecDepth 20000 in
theorem ggX7_heard_X7_refuse : GoodIn wsX7_heard wsX7_refuse := goodIn_r _ [15, 16, 100, 101, 102, 103, 104, 105, 106, 107, 108, 109, 110, 111, 112, 113, 114, 115, 116, 117, 118, 119, 120, 121, 122, 123, 124, 125, 126, 127, 128, 129, 130, 131, 132] (by decide +kernel) (by decide +kernel)
set_option maxRecDepth 20000 in
theorem gX7_heard_X7_refuse : GoodIn wsX7_heard (wsV RX7 94 RX7 yX7_refuse wsX7_refuse) := goodIn_app (goodIn_of _ (by decide +kernel)) ggX7_heard_X7_refuse
set_option maxRecDepth 20000 in
theorem ggX7_heard_X7_noEvening : GoodIn wsX7_heard wsX7_noEvening := goodIn_r _ [20, 21, 22, 23, 9, 10, 6, 11, 12, 13, 14, 15, 16, 24, 25, 26, 27, 28, 100, 101, 102, 103, 104, 105, 106, 107, 108, 109, 110, 111, 112, 113, 114, 115, 116, 117, 118, 119, 120, 121, 122, 123, 124, 125, 126, 127, 128, 129, 130, 131, 132] (by decide +kernel) (by decide +kernel)
set_option maxRecDepth 20000 in
theorem gX7_heard_X7_noEvening : GoodIn wsX7_heard (wsV RX7 308 RX7 yX7_noEvening wsX7_noEvening) := goodIn_app (goodIn_of _ (by decide +kernel)) ggX7_heard_X7_noEvening
set_option maxRecDepth 20000 in
theorem ggX7_heard_X7_fresh : GoodIn wsX7_heard wsX7_fresh := goodIn_r _ [32, 33, 34, 35, 6, 36, 37, 38, 39, 40, 41, 42, 28, 43, 23, 44, 45, 1, 46, 47, 48, 16, 49, 50, 51, 52, 53, 2, 54, 55, 56, 57, 58, 59, 60, 61, 62, 63, 64, 8, 65, 66, 67, 68, 100, 101, 102, 103, 104, 105, 106, 107, 108, 109, 110, 111, 112, 113, 114, 115, 116, 117, 118, 119, 120, 121, 122, 123, 124, 125, 126, 127, 128, 129, 130, 131, 132] (by decide +kernel) (by decide +kernel)
set_option maxRecDepth 20000 in
theorem gX7_heard_X7_fresh : GoodIn wsX7_heard (wsV RX7 236 RX7 yX7_fresh wsX7_fresh) := goodIn_app (goodIn_of _ (by decide +kernel)) ggX7_heard_X7_fresh
set_option maxRecDepth 20000 in
theorem ggX7_heard_X7_goesBy : GoodIn wsX7_heard wsX7_goesBy := goodIn_r _ [72, 73, 74, 75, 76, 6, 77, 8, 49, 78, 79, 80, 81, 50, 2, 54, 52, 55, 82, 83, 84, 85, 53, 86, 87, 88, 89, 90, 91, 92, 93, 94, 95, 96, 97, 98, 99, 100, 101, 102, 103, 104, 105, 106, 107, 108, 109, 110, 111, 112, 113, 114, 115, 116, 117, 118, 119, 120, 121, 122, 123, 124, 125, 126, 127, 128, 129, 130, 131, 132] (by decide +kernel) (by decide +kernel)
set_option maxRecDepth 20000 in
theorem gX7_heard_X7_goesBy : GoodIn wsX7_heard (wsV RX7 311 RX7 yX7_goesBy wsX7_goesBy) := goodIn_app (goodIn_of _ (by decide +kernel)) ggX7_heard_X7_goesBy
theorem dX7_heard_0 : decode cX7_heard 0 = .ok (.aload_n 0, 1) := by decide +kernel
theorem dX7_heard_1 : decode cX7_heard 1 = .ok (.iload_n 3, 1) := by decide +kernel
theorem dX7_heard_2 : decode cX7_heard 2 = .ok (.invokevirtual 105, 3) := by decide +kernel
theorem dX7_heard_5 : decode cX7_heard 5 = .ok (.ifCond .ne 10, 3) := by decide +kernel
theorem dX7_heard_8 : decode cX7_heard 8 = .ok (.aload_n 0, 1) := by decide +kernel
theorem dX7_heard_9 : decode cX7_heard 9 = .ok (.bipush (-2), 2) := by decide +kernel
theorem dX7_heard_11 : decode cX7_heard 11 = .ok (.invokevirtual 94, 3) := by decide +kernel
theorem dX7_heard_14 : decode cX7_heard 14 = .ok (.ireturn, 1) := by decide +kernel
theorem dX7_heard_15 : decode cX7_heard 15 = .ok (.aload_n 0, 1) := by decide +kernel
theorem dX7_heard_16 : decode cX7_heard 16 = .ok (.iload_n 1, 1) := by decide +kernel
theorem dX7_heard_17 : decode cX7_heard 17 = .ok (.iload_n 2, 1) := by decide +kernel
theorem dX7_heard_18 : decode cX7_heard 18 = .ok (.invokevirtual 308, 3) := by decide +kernel
theorem dX7_heard_21 : decode cX7_heard 21 = .ok (.istore 4, 2) := by decide +kernel
theorem dX7_heard_23 : decode cX7_heard 23 = .ok (.iload 4, 2) := by decide +kernel
theorem dX7_heard_25 : decode cX7_heard 25 = .ok (.ifCond .eq 6, 3) := by decide +kernel
theorem dX7_heard_28 : decode cX7_heard 28 = .ok (.iload 4, 2) := by decide +kernel
theorem dX7_heard_30 : decode cX7_heard 30 = .ok (.ireturn, 1) := by decide +kernel
theorem dX7_heard_31 : decode cX7_heard 31 = .ok (.aload_n 0, 1) := by decide +kernel
theorem dX7_heard_32 : decode cX7_heard 32 = .ok (.invokevirtual 236, 3) := by decide +kernel
theorem dX7_heard_35 : decode cX7_heard 35 = .ok (.astore 5, 2) := by decide +kernel
theorem dX7_heard_37 : decode cX7_heard 37 = .ok (.aload 5, 2) := by decide +kernel
theorem dX7_heard_39 : decode cX7_heard 39 = .ok (.aload_n 0, 1) := by decide +kernel
theorem dX7_heard_40 : decode cX7_heard 40 = .ok (.getfield 21, 3) := by decide +kernel
theorem dX7_heard_43 : decode cX7_heard 43 = .ok (.iload_n 1, 1) := by decide +kernel
theorem dX7_heard_44 : decode cX7_heard 44 = .ok (.aaload, 1) := by decide +kernel
theorem dX7_heard_45 : decode cX7_heard 45 = .ok (.iload_n 2, 1) := by decide +kernel
theorem dX7_heard_46 : decode cX7_heard 46 = .ok (.invokevirtual 311, 3) := by decide +kernel
theorem dX7_heard_49 : decode cX7_heard 49 = .ok (.iconst (-1), 1) := by decide +kernel
theorem dX7_heard_50 : decode cX7_heard 50 = .ok (.if_icmp .eq 12, 3) := by decide +kernel
theorem dX7_heard_53 : decode cX7_heard 53 = .ok (.aload_n 0, 1) := by decide +kernel
theorem dX7_heard_54 : decode cX7_heard 54 = .ok (.bipush (-5), 2) := by decide +kernel
theorem dX7_heard_56 : decode cX7_heard 56 = .ok (.invokevirtual 94, 3) := by decide +kernel
theorem dX7_heard_59 : decode cX7_heard 59 = .ok (.goto 10, 3) := by decide +kernel
theorem dX7_heard_62 : decode cX7_heard 62 = .ok (.aload 5, 2) := by decide +kernel
theorem dX7_heard_64 : decode cX7_heard 64 = .ok (.getfield 53, 3) := by decide +kernel
theorem dX7_heard_67 : decode cX7_heard 67 = .ok (.iload_n 3, 1) := by decide +kernel
theorem dX7_heard_68 : decode cX7_heard 68 = .ok (.iaload, 1) := by decide +kernel
theorem dX7_heard_69 : decode cX7_heard 69 = .ok (.ireturn, 1) := by decide +kernel
set_option maxRecDepth 20000 in
theorem ggX7_noSayings_X7_noEvening : GoodIn wsX7_noSayings wsX7_noEvening := goodIn_r _ [6, 7, 8, 9, 10, 11, 5, 12, 13, 14, 15, 16, 17, 18, 19, 20, 21, 22, 30, 31, 32, 33, 34, 35, 36, 37, 38, 39, 40, 41, 42, 43, 44, 45, 46, 47, 48, 49, 50, 51, 52, 53, 54, 55, 56, 57, 58, 59, 60, 61, 62] (by decide +kernel) (by decide +kernel)
set_option maxRecDepth 20000 in
theorem gX7_noSayings_X7_noEvening : GoodIn wsX7_noSayings (wsV RX7 308 RX7 yX7_noEvening wsX7_noEvening) := goodIn_app (goodIn_of _ (by decide +kernel)) ggX7_noSayings_X7_noEvening
set_option maxRecDepth 20000 in
theorem ggX7_noSayings_X7_isSaying : GoodIn wsX7_noSayings wsX7_isSaying := goodIn_r _ [26, 27, 28, 29, 30, 31, 32, 33, 34, 35, 36, 37, 38, 39, 40, 41, 42, 43, 44, 45, 46, 47, 48, 49, 50, 51, 52, 53, 54, 55, 56, 57, 58, 59, 60, 61, 62] (by decide +kernel) (by decide +kernel)
set_option maxRecDepth 20000 in
theorem gX7_noSayings_X7_isSaying : GoodIn wsX7_noSayings (wsV RX7 304 RX7 yX7_isSaying wsX7_isSaying) := goodIn_app (goodIn_of _ (by decide +kernel)) ggX7_noSayings_X7_isSaying
set_option maxRecDepth 20000 in
theorem ggX7_noSayings_X7_refuse : GoodIn wsX7_noSayings wsX7_refuse := goodIn_r _ [16, 17, 30, 31, 32, 33, 34, 35, 36, 37, 38, 39, 40, 41, 42, 43, 44, 45, 46, 47, 48, 49, 50, 51, 52, 53, 54, 55, 56, 57, 58, 59, 60, 61, 62] (by decide +kernel) (by decide +kernel)
set_option maxRecDepth 20000 in
theorem gX7_noSayings_X7_refuse : GoodIn wsX7_noSayings (wsV RX7 94 RX7 yX7_refuse wsX7_refuse) := goodIn_app (goodIn_of _ (by decide +kernel)) ggX7_noSayings_X7_refuse
theorem dX7_noSayings_0 : decode cX7_noSayings 0 = .ok (.aload_n 0, 1) := by decide +kernel
theorem dX7_noSayings_1 : decode cX7_noSayings 1 = .ok (.iload_n 1, 1) := by decide +kernel
theorem dX7_noSayings_2 : decode cX7_noSayings 2 = .ok (.iload_n 2, 1) := by decide +kernel
theorem dX7_noSayings_3 : decode cX7_noSayings 3 = .ok (.invokevirtual 308, 3) := by decide +kernel
theorem dX7_noSayings_6 : decode cX7_noSayings 6 = .ok (.istore_n 3, 1) := by decide +kernel
theorem dX7_noSayings_7 : decode cX7_noSayings 7 = .ok (.iload_n 3, 1) := by decide +kernel
theorem dX7_noSayings_8 : decode cX7_noSayings 8 = .ok (.ifCond .eq 5, 3) := by decide +kernel
theorem dX7_noSayings_11 : decode cX7_noSayings 11 = .ok (.iload_n 3, 1) := by decide +kernel
theorem dX7_noSayings_12 : decode cX7_noSayings 12 = .ok (.ireturn, 1) := by decide +kernel
theorem dX7_noSayings_13 : decode cX7_noSayings 13 = .ok (.iconst 0, 1) := by decide +kernel
theorem dX7_noSayings_14 : decode cX7_noSayings 14 = .ok (.istore 4, 2) := by decide +kernel
theorem dX7_noSayings_16 : decode cX7_noSayings 16 = .ok (.iload 4, 2) := by decide +kernel
theorem dX7_noSayings_18 : decode cX7_noSayings 18 = .ok (.iload_n 2, 1) := by decide +kernel
theorem dX7_noSayings_19 : decode cX7_noSayings 19 = .ok (.if_icmp .ge 32, 3) := by decide +kernel
theorem dX7_noSayings_22 : decode cX7_noSayings 22 = .ok (.aload_n 0, 1) := by decide +kernel
theorem dX7_noSayings_23 : decode cX7_noSayings 23 = .ok (.aload_n 0, 1) := by decide +kernel
theorem dX7_noSayings_24 : decode cX7_noSayings 24 = .ok (.getfield 21, 3) := by decide +kernel
theorem dX7_noSayings_27 : decode cX7_noSayings 27 = .ok (.iload_n 1, 1) := by decide +kernel
theorem dX7_noSayings_28 : decode cX7_noSayings 28 = .ok (.aaload, 1) := by decide +kernel
theorem dX7_noSayings_29 : decode cX7_noSayings 29 = .ok (.iload 4, 2) := by decide +kernel
theorem dX7_noSayings_31 : decode cX7_noSayings 31 = .ok (.laload, 1) := by decide +kernel
theorem dX7_noSayings_32 : decode cX7_noSayings 32 = .ok (.invokevirtual 304, 3) := by decide +kernel
theorem dX7_noSayings_35 : decode cX7_noSayings 35 = .ok (.ifCond .ne 10, 3) := by decide +kernel
theorem dX7_noSayings_38 : decode cX7_noSayings 38 = .ok (.aload_n 0, 1) := by decide +kernel
theorem dX7_noSayings_39 : decode cX7_noSayings 39 = .ok (.bipush (-2), 2) := by decide +kernel
theorem dX7_noSayings_41 : decode cX7_noSayings 41 = .ok (.invokevirtual 94, 3) := by decide +kernel
theorem dX7_noSayings_44 : decode cX7_noSayings 44 = .ok (.ireturn, 1) := by decide +kernel
theorem dX7_noSayings_45 : decode cX7_noSayings 45 = .ok (.iinc 4 1, 3) := by decide +kernel
theorem dX7_noSayings_48 : decode cX7_noSayings 48 = .ok (.goto (-32), 3) := by decide +kernel
theorem dX7_noSayings_51 : decode cX7_noSayings 51 = .ok (.iconst 0, 1) := by decide +kernel
theorem dX7_noSayings_52 : decode cX7_noSayings 52 = .ok (.ireturn, 1) := by decide +kernel
set_option maxRecDepth 20000 in
theorem ggX7_falsely_X7_noSayings : GoodIn wsX7_falsely wsX7_noSayings := goodIn_r _ [6, 1, 7, 8, 9, 5, 10, 11, 12, 13, 14, 15, 16, 17, 18, 19, 20, 21, 22, 23, 24, 25, 26, 27, 28, 29, 30, 31, 32, 33, 44, 45, 46, 47, 48, 49, 50, 51, 52, 53, 54, 55, 56, 57, 58, 59, 60, 61, 62, 63, 64, 65, 66, 67, 68, 69, 70, 71, 72, 73, 74, 75, 76] (by decide +kernel) (by decide +kernel)
set_option maxRecDepth 20000 in
theorem gX7_falsely_X7_noSayings : GoodIn wsX7_falsely (wsV RX7 315 RX7 yX7_noSayings wsX7_noSayings) := goodIn_app (goodIn_of _ (by decide +kernel)) ggX7_falsely_X7_noSayings
set_option maxRecDepth 20000 in
theorem ggX7_falsely_X7_barredBy : GoodIn wsX7_falsely wsX7_barredBy := goodIn_r _ [37, 38, 39, 40, 44, 45, 46, 47, 48, 49, 50, 51, 52, 53, 54, 55, 56, 57, 58, 59, 60, 61, 62, 63, 64, 65, 66, 67, 68, 69, 70, 71, 72, 73, 74, 75, 76] (by decide +kernel) (by decide +kernel)
set_option maxRecDepth 20000 in
theorem gX7_falsely_X7_barredBy : GoodIn wsX7_falsely (wsV RX7 124 RX7 yX7_barredBy wsX7_barredBy) := goodIn_app (goodIn_of _ (by decide +kernel)) ggX7_falsely_X7_barredBy
set_option maxRecDepth 20000 in
theorem ggX7_falsely_X7_has : GoodIn wsX7_falsely wsX7_has := goodIn_r _ [43] (by decide +kernel) (by decide +kernel)
set_option maxRecDepth 20000 in
theorem gX7_falsely_X7_has : GoodIn wsX7_falsely (va_wsS RX7 84 yX7_has wsX7_has) := goodIn_app (goodIn_of _ (by decide +kernel)) ggX7_falsely_X7_has
theorem dX7_falsely_0 : decode cX7_falsely 0 = .ok (.aload_n 0, 1) := by decide +kernel
theorem dX7_falsely_1 : decode cX7_falsely 1 = .ok (.iload_n 1, 1) := by decide +kernel
theorem dX7_falsely_2 : decode cX7_falsely 2 = .ok (.iload_n 2, 1) := by decide +kernel
theorem dX7_falsely_3 : decode cX7_falsely 3 = .ok (.invokevirtual 315, 3) := by decide +kernel
theorem dX7_falsely_6 : decode cX7_falsely 6 = .ok (.istore_n 3, 1) := by decide +kernel
theorem dX7_falsely_7 : decode cX7_falsely 7 = .ok (.iload_n 3, 1) := by decide +kernel
theorem dX7_falsely_8 : decode cX7_falsely 8 = .ok (.ifCond .eq 5, 3) := by decide +kernel
theorem dX7_falsely_11 : decode cX7_falsely 11 = .ok (.iload_n 3, 1) := by decide +kernel
theorem dX7_falsely_12 : decode cX7_falsely 12 = .ok (.ireturn, 1) := by decide +kernel
theorem dX7_falsely_13 : decode cX7_falsely 13 = .ok (.iconst 0, 1) := by decide +kernel
theorem dX7_falsely_14 : decode cX7_falsely 14 = .ok (.istore 4, 2) := by decide +kernel
theorem dX7_falsely_16 : decode cX7_falsely 16 = .ok (.iconst 0, 1) := by decide +kernel
theorem dX7_falsely_17 : decode cX7_falsely 17 = .ok (.istore 5, 2) := by decide +kernel
theorem dX7_falsely_19 : decode cX7_falsely 19 = .ok (.iload 5, 2) := by decide +kernel
theorem dX7_falsely_21 : decode cX7_falsely 21 = .ok (.iload_n 2, 1) := by decide +kernel
theorem dX7_falsely_22 : decode cX7_falsely 22 = .ok (.if_icmp .ge 51, 3) := by decide +kernel
theorem dX7_falsely_25 : decode cX7_falsely 25 = .ok (.aload_n 0, 1) := by decide +kernel
theorem dX7_falsely_26 : decode cX7_falsely 26 = .ok (.getfield 21, 3) := by decide +kernel
theorem dX7_falsely_29 : decode cX7_falsely 29 = .ok (.iload_n 1, 1) := by decide +kernel
theorem dX7_falsely_30 : decode cX7_falsely 30 = .ok (.aaload, 1) := by decide +kernel
theorem dX7_falsely_31 : decode cX7_falsely 31 = .ok (.iload 5, 2) := by decide +kernel
theorem dX7_falsely_33 : decode cX7_falsely 33 = .ok (.laload, 1) := by decide +kernel
theorem dX7_falsely_34 : decode cX7_falsely 34 = .ok (.l2i, 1) := by decide +kernel
theorem dX7_falsely_35 : decode cX7_falsely 35 = .ok (.istore 6, 2) := by decide +kernel
theorem dX7_falsely_37 : decode cX7_falsely 37 = .ok (.iload 4, 2) := by decide +kernel
theorem dX7_falsely_39 : decode cX7_falsely 39 = .ok (.aload_n 0, 1) := by decide +kernel
theorem dX7_falsely_40 : decode cX7_falsely 40 = .ok (.iload 6, 2) := by decide +kernel
theorem dX7_falsely_42 : decode cX7_falsely 42 = .ok (.bipush 10, 2) := by decide +kernel
theorem dX7_falsely_44 : decode cX7_falsely 44 = .ok (.idiv, 1) := by decide +kernel
theorem dX7_falsely_45 : decode cX7_falsely 45 = .ok (.invokevirtual 124, 3) := by decide +kernel
theorem dX7_falsely_48 : decode cX7_falsely 48 = .ok (.iload 6, 2) := by decide +kernel
theorem dX7_falsely_50 : decode cX7_falsely 50 = .ok (.bipush 10, 2) := by decide +kernel
theorem dX7_falsely_52 : decode cX7_falsely 52 = .ok (.irem, 1) := by decide +kernel
theorem dX7_falsely_53 : decode cX7_falsely 53 = .ok (.invokestatic 84, 3) := by decide +kernel
theorem dX7_falsely_56 : decode cX7_falsely 56 = .ok (.ifCond .eq 7, 3) := by decide +kernel
theorem dX7_falsely_59 : decode cX7_falsely 59 = .ok (.iconst 1, 1) := by decide +kernel
theorem dX7_falsely_60 : decode cX7_falsely 60 = .ok (.goto 4, 3) := by decide +kernel
theorem dX7_falsely_63 : decode cX7_falsely 63 = .ok (.iconst 0, 1) := by decide +kernel
theorem dX7_falsely_64 : decode cX7_falsely 64 = .ok (.iadd, 1) := by decide +kernel
theorem dX7_falsely_65 : decode cX7_falsely 65 = .ok (.istore 4, 2) := by decide +kernel
theorem dX7_falsely_67 : decode cX7_falsely 67 = .ok (.iinc 5 1, 3) := by decide +kernel
theorem dX7_falsely_70 : decode cX7_falsely 70 = .ok (.goto (-51), 3) := by decide +kernel
theorem dX7_falsely_73 : decode cX7_falsely 73 = .ok (.iload 4, 2) := by decide +kernel
theorem dX7_falsely_75 : decode cX7_falsely 75 = .ok (.ireturn, 1) := by decide +kernel
set_option maxRecDepth 20000 in
theorem ggX7_silent_X7_has : GoodIn wsX7_silent wsX7_has := goodIn_r _ [7] (by decide +kernel) (by decide +kernel)
set_option maxRecDepth 20000 in
theorem gX7_silent_X7_has : GoodIn wsX7_silent (va_wsS RX7 84 yX7_has wsX7_has) := goodIn_app (goodIn_of _ (by decide +kernel)) ggX7_silent_X7_has
theorem dX7_silent_0 : decode cX7_silent 0 = .ok (.iconst 0, 1) := by decide +kernel
theorem dX7_silent_1 : decode cX7_silent 1 = .ok (.istore 4, 2) := by decide +kernel
theorem dX7_silent_3 : decode cX7_silent 3 = .ok (.iconst 0, 1) := by decide +kernel
theorem dX7_silent_4 : decode cX7_silent 4 = .ok (.istore 5, 2) := by decide +kernel
theorem dX7_silent_6 : decode cX7_silent 6 = .ok (.iload 5, 2) := by decide +kernel
theorem dX7_silent_8 : decode cX7_silent 8 = .ok (.aload_n 0, 1) := by decide +kernel
theorem dX7_silent_9 : decode cX7_silent 9 = .ok (.getfield 77, 3) := by decide +kernel
theorem dX7_silent_12 : decode cX7_silent 12 = .ok (.if_icmp .ge 119, 3) := by decide +kernel
theorem dX7_silent_15 : decode cX7_silent 15 = .ok (.iconst 0, 1) := by decide +kernel
theorem dX7_silent_16 : decode cX7_silent 16 = .ok (.istore 6, 2) := by decide +kernel
theorem dX7_silent_18 : decode cX7_silent 18 = .ok (.iconst 0, 1) := by decide +kernel
theorem dX7_silent_19 : decode cX7_silent 19 = .ok (.istore 7, 2) := by decide +kernel
theorem dX7_silent_21 : decode cX7_silent 21 = .ok (.iconst 0, 1) := by decide +kernel
theorem dX7_silent_22 : decode cX7_silent 22 = .ok (.istore 8, 2) := by decide +kernel
theorem dX7_silent_24 : decode cX7_silent 24 = .ok (.iload 8, 2) := by decide +kernel
theorem dX7_silent_26 : decode cX7_silent 26 = .ok (.iload_n 2, 1) := by decide +kernel
theorem dX7_silent_27 : decode cX7_silent 27 = .ok (.if_icmp .ge 75, 3) := by decide +kernel
theorem dX7_silent_30 : decode cX7_silent 30 = .ok (.aload_n 0, 1) := by decide +kernel
theorem dX7_silent_31 : decode cX7_silent 31 = .ok (.getfield 21, 3) := by decide +kernel
theorem dX7_silent_34 : decode cX7_silent 34 = .ok (.iload_n 1, 1) := by decide +kernel
theorem dX7_silent_35 : decode cX7_silent 35 = .ok (.aaload, 1) := by decide +kernel
theorem dX7_silent_36 : decode cX7_silent 36 = .ok (.iload 8, 2) := by decide +kernel
theorem dX7_silent_38 : decode cX7_silent 38 = .ok (.laload, 1) := by decide +kernel
theorem dX7_silent_39 : decode cX7_silent 39 = .ok (.l2i, 1) := by decide +kernel
theorem dX7_silent_40 : decode cX7_silent 40 = .ok (.istore 9, 2) := by decide +kernel
theorem dX7_silent_42 : decode cX7_silent 42 = .ok (.iload 9, 2) := by decide +kernel
theorem dX7_silent_44 : decode cX7_silent 44 = .ok (.bipush 10, 2) := by decide +kernel
theorem dX7_silent_46 : decode cX7_silent 46 = .ok (.irem, 1) := by decide +kernel
theorem dX7_silent_47 : decode cX7_silent 47 = .ok (.iload_n 3, 1) := by decide +kernel
theorem dX7_silent_48 : decode cX7_silent 48 = .ok (.if_icmp .ne 48, 3) := by decide +kernel
theorem dX7_silent_51 : decode cX7_silent 51 = .ok (.iload 7, 2) := by decide +kernel
theorem dX7_silent_53 : decode cX7_silent 53 = .ok (.iload 6, 2) := by decide +kernel
theorem dX7_silent_55 : decode cX7_silent 55 = .ok (.ifCond .eq 17, 3) := by decide +kernel
theorem dX7_silent_58 : decode cX7_silent 58 = .ok (.iload 9, 2) := by decide +kernel
theorem dX7_silent_60 : decode cX7_silent 60 = .ok (.bipush 10, 2) := by decide +kernel
theorem dX7_silent_62 : decode cX7_silent 62 = .ok (.idiv, 1) := by decide +kernel
theorem dX7_silent_63 : decode cX7_silent 63 = .ok (.iload 5, 2) := by decide +kernel
theorem dX7_silent_65 : decode cX7_silent 65 = .ok (.if_icmp .ne 7, 3) := by decide +kernel
theorem dX7_silent_68 : decode cX7_silent 68 = .ok (.iconst 1, 1) := by decide +kernel
theorem dX7_silent_69 : decode cX7_silent 69 = .ok (.goto 4, 3) := by decide +kernel
theorem dX7_silent_72 : decode cX7_silent 72 = .ok (.iconst 0, 1) := by decide +kernel
theorem dX7_silent_73 : decode cX7_silent 73 = .ok (.ior, 1) := by decide +kernel
theorem dX7_silent_74 : decode cX7_silent 74 = .ok (.istore 7, 2) := by decide +kernel
theorem dX7_silent_76 : decode cX7_silent 76 = .ok (.iload 6, 2) := by decide +kernel
theorem dX7_silent_78 : decode cX7_silent 78 = .ok (.aload_n 0, 1) := by decide +kernel
theorem dX7_silent_79 : decode cX7_silent 79 = .ok (.getfield 56, 3) := by decide +kernel
theorem dX7_silent_82 : decode cX7_silent 82 = .ok (.iload 5, 2) := by decide +kernel
theorem dX7_silent_84 : decode cX7_silent 84 = .ok (.iaload, 1) := by decide +kernel
theorem dX7_silent_85 : decode cX7_silent 85 = .ok (.iload 9, 2) := by decide +kernel
theorem dX7_silent_87 : decode cX7_silent 87 = .ok (.bipush 10, 2) := by decide +kernel
theorem dX7_silent_89 : decode cX7_silent 89 = .ok (.idiv, 1) := by decide +kernel
theorem dX7_silent_90 : decode cX7_silent 90 = .ok (.invokestatic 84, 3) := by decide +kernel
theorem dX7_silent_93 : decode cX7_silent 93 = .ok (.ior, 1) := by decide +kernel
theorem dX7_silent_94 : decode cX7_silent 94 = .ok (.istore 6, 2) := by decide +kernel
theorem dX7_silent_96 : decode cX7_silent 96 = .ok (.iinc 8 1, 3) := by decide +kernel
theorem dX7_silent_99 : decode cX7_silent 99 = .ok (.goto (-75), 3) := by decide +kernel
theorem dX7_silent_102 : decode cX7_silent 102 = .ok (.iload 4, 2) := by decide +kernel
theorem dX7_silent_104 : decode cX7_silent 104 = .ok (.iload 6, 2) := by decide +kernel
theorem dX7_silent_106 : decode cX7_silent 106 = .ok (.ifCond .eq 15, 3) := by decide +kernel
theorem dX7_silent_109 : decode cX7_silent 109 = .ok (.iload 7, 2) := by decide +kernel
theorem dX7_silent_111 : decode cX7_silent 111 = .ok (.ifCond .ne 10, 3) := by decide +kernel
theorem dX7_silent_114 : decode cX7_silent 114 = .ok (.iconst 1, 1) := by decide +kernel
theorem dX7_silent_115 : decode cX7_silent 115 = .ok (.iload 5, 2) := by decide +kernel
theorem dX7_silent_117 : decode cX7_silent 117 = .ok (.ishl, 1) := by decide +kernel
theorem dX7_silent_118 : decode cX7_silent 118 = .ok (.goto 4, 3) := by decide +kernel
theorem dX7_silent_121 : decode cX7_silent 121 = .ok (.iconst 0, 1) := by decide +kernel
theorem dX7_silent_122 : decode cX7_silent 122 = .ok (.ior, 1) := by decide +kernel
theorem dX7_silent_123 : decode cX7_silent 123 = .ok (.istore 4, 2) := by decide +kernel
theorem dX7_silent_125 : decode cX7_silent 125 = .ok (.iinc 5 1, 3) := by decide +kernel
theorem dX7_silent_128 : decode cX7_silent 128 = .ok (.goto (-122), 3) := by decide +kernel
theorem dX7_silent_131 : decode cX7_silent 131 = .ok (.iload 4, 2) := by decide +kernel
theorem dX7_silent_133 : decode cX7_silent 133 = .ok (.ireturn, 1) := by decide +kernel
set_option maxRecDepth 20000 in
theorem ggX7_barredOf_X7_barredBy : GoodIn wsX7_barredOf wsX7_barredBy := goodIn_r _ [6, 7, 8, 9, 13, 14, 15, 16, 17, 18, 19, 20, 21, 22, 23, 24, 25, 26, 27, 28, 29, 30, 31, 32, 33, 34, 35, 36, 37, 38, 39, 40, 41, 42, 43, 44, 45] (by decide +kernel) (by decide +kernel)
set_option maxRecDepth 20000 in
theorem gX7_barredOf_X7_barredBy : GoodIn wsX7_barredOf (wsV RX7 124 RX7 yX7_barredBy wsX7_barredBy) := goodIn_app (goodIn_of _ (by decide +kernel)) ggX7_barredOf_X7_barredBy
set_option maxRecDepth 20000 in
theorem ggX7_barredOf_X7_has : GoodIn wsX7_barredOf wsX7_has := goodIn_r _ [12] (by decide +kernel) (by decide +kernel)
set_option maxRecDepth 20000 in
theorem gX7_barredOf_X7_has : GoodIn wsX7_barredOf (va_wsS RX7 84 yX7_has wsX7_has) := goodIn_app (goodIn_of _ (by decide +kernel)) ggX7_barredOf_X7_has
theorem dX7_barredOf_0 : decode cX7_barredOf 0 = .ok (.iconst 0, 1) := by decide +kernel
theorem dX7_barredOf_1 : decode cX7_barredOf 1 = .ok (.istore_n 2, 1) := by decide +kernel
theorem dX7_barredOf_2 : decode cX7_barredOf 2 = .ok (.iconst 0, 1) := by decide +kernel
theorem dX7_barredOf_3 : decode cX7_barredOf 3 = .ok (.istore_n 3, 1) := by decide +kernel
theorem dX7_barredOf_4 : decode cX7_barredOf 4 = .ok (.iload_n 3, 1) := by decide +kernel
theorem dX7_barredOf_5 : decode cX7_barredOf 5 = .ok (.aload_n 0, 1) := by decide +kernel
theorem dX7_barredOf_6 : decode cX7_barredOf 6 = .ok (.getfield 77, 3) := by decide +kernel
theorem dX7_barredOf_9 : decode cX7_barredOf 9 = .ok (.if_icmp .ge 31, 3) := by decide +kernel
theorem dX7_barredOf_12 : decode cX7_barredOf 12 = .ok (.iload_n 2, 1) := by decide +kernel
theorem dX7_barredOf_13 : decode cX7_barredOf 13 = .ok (.aload_n 0, 1) := by decide +kernel
theorem dX7_barredOf_14 : decode cX7_barredOf 14 = .ok (.iload_n 3, 1) := by decide +kernel
theorem dX7_barredOf_15 : decode cX7_barredOf 15 = .ok (.invokevirtual 124, 3) := by decide +kernel
theorem dX7_barredOf_18 : decode cX7_barredOf 18 = .ok (.iload_n 1, 1) := by decide +kernel
theorem dX7_barredOf_19 : decode cX7_barredOf 19 = .ok (.invokestatic 84, 3) := by decide +kernel
theorem dX7_barredOf_22 : decode cX7_barredOf 22 = .ok (.ifCond .eq 9, 3) := by decide +kernel
theorem dX7_barredOf_25 : decode cX7_barredOf 25 = .ok (.iconst 1, 1) := by decide +kernel
theorem dX7_barredOf_26 : decode cX7_barredOf 26 = .ok (.iload_n 3, 1) := by decide +kernel
theorem dX7_barredOf_27 : decode cX7_barredOf 27 = .ok (.ishl, 1) := by decide +kernel
theorem dX7_barredOf_28 : decode cX7_barredOf 28 = .ok (.goto 4, 3) := by decide +kernel
theorem dX7_barredOf_31 : decode cX7_barredOf 31 = .ok (.iconst 0, 1) := by decide +kernel
theorem dX7_barredOf_32 : decode cX7_barredOf 32 = .ok (.ior, 1) := by decide +kernel
theorem dX7_barredOf_33 : decode cX7_barredOf 33 = .ok (.istore_n 2, 1) := by decide +kernel
theorem dX7_barredOf_34 : decode cX7_barredOf 34 = .ok (.iinc 3 1, 3) := by decide +kernel
theorem dX7_barredOf_37 : decode cX7_barredOf 37 = .ok (.goto (-33), 3) := by decide +kernel
theorem dX7_barredOf_40 : decode cX7_barredOf 40 = .ok (.iload_n 2, 1) := by decide +kernel
theorem dX7_barredOf_41 : decode cX7_barredOf 41 = .ok (.ireturn, 1) := by decide +kernel
set_option maxRecDepth 20000 in
theorem ggX7_barred_X7_isSight : GoodIn wsX7_barred wsX7_isSight := goodIn_r _ [5, 6, 7, 8, 4, 9, 30, 31, 32, 33, 34, 35, 36, 37, 38, 39, 40, 41, 42, 43, 44, 45, 46, 47, 48, 49, 50, 51, 52, 53, 54, 55, 56, 57, 58, 59, 60, 61, 62] (by decide +kernel) (by decide +kernel)
set_option maxRecDepth 20000 in
theorem gX7_barred_X7_isSight : GoodIn wsX7_barred (wsV RX7 138 RX7 yX7_isSight wsX7_isSight) := goodIn_app (goodIn_of _ (by decide +kernel)) ggX7_barred_X7_isSight
set_option maxRecDepth 20000 in
theorem ggX7_barred_X7_barredOf : GoodIn wsX7_barred wsX7_barredOf := goodIn_r _ [13, 14, 15, 16, 17, 4, 18, 19, 20, 21, 22, 23, 24, 30, 31, 32, 33, 34, 35, 36, 37, 38, 39, 40, 41, 42, 43, 44, 45, 46, 47, 48, 49, 50, 51, 52, 53, 54, 55, 56, 57, 58, 59, 60, 61, 62] (by decide +kernel) (by decide +kernel)
set_option maxRecDepth 20000 in
theorem gX7_barred_X7_barredOf : GoodIn wsX7_barred (wsV RX7 286 RX7 yX7_barredOf wsX7_barredOf) := goodIn_app (goodIn_of _ (by decide +kernel)) ggX7_barred_X7_barredOf
set_option maxRecDepth 20000 in
theorem ggX7_barred_X7_refuse : GoodIn wsX7_barred wsX7_refuse := goodIn_r _ [28, 29, 30, 31, 32, 33, 34, 35, 36, 37, 38, 39, 40, 41, 42, 43, 44, 45, 46, 47, 48, 49, 50, 51, 52, 53, 54, 55, 56, 57, 58, 59, 60, 61, 62] (by decide +kernel) (by decide +kernel)
set_option maxRecDepth 20000 in
theorem gX7_barred_X7_refuse : GoodIn wsX7_barred (wsV RX7 94 RX7 yX7_refuse wsX7_refuse) := goodIn_app (goodIn_of _ (by decide +kernel)) ggX7_barred_X7_refuse
theorem dX7_barred_0 : decode cX7_barred 0 = .ok (.aload_n 0, 1) := by decide +kernel
theorem dX7_barred_1 : decode cX7_barred 1 = .ok (.iload_n 1, 1) := by decide +kernel
theorem dX7_barred_2 : decode cX7_barred 2 = .ok (.invokevirtual 138, 3) := by decide +kernel
theorem dX7_barred_5 : decode cX7_barred 5 = .ok (.ifCond .eq 11, 3) := by decide +kernel
theorem dX7_barred_8 : decode cX7_barred 8 = .ok (.aload_n 0, 1) := by decide +kernel
theorem dX7_barred_9 : decode cX7_barred 9 = .ok (.iload_n 1, 1) := by decide +kernel
theorem dX7_barred_10 : decode cX7_barred 10 = .ok (.invokevirtual 286, 3) := by decide +kernel
theorem dX7_barred_13 : decode cX7_barred 13 = .ok (.goto 9, 3) := by decide +kernel
theorem dX7_barred_16 : decode cX7_barred 16 = .ok (.aload_n 0, 1) := by decide +kernel
theorem dX7_barred_17 : decode cX7_barred 17 = .ok (.bipush (-2), 2) := by decide +kernel
theorem dX7_barred_19 : decode cX7_barred 19 = .ok (.invokevirtual 94, 3) := by decide +kernel
theorem dX7_barred_22 : decode cX7_barred 22 = .ok (.ireturn, 1) := by decide +kernel
set_option maxRecDepth 20000 in
theorem ggX7_surely_X7_isSight : GoodIn wsX7_surely wsX7_isSight := goodIn_r _ [5, 6, 7, 8, 4, 9, 57, 58, 59, 60, 61, 62, 63, 64, 65, 66, 67, 68, 69, 70, 71, 72, 73, 74, 75, 76, 77, 78, 79, 80, 81, 82, 83, 84, 85, 86, 87, 88, 89] (by decide +kernel) (by decide +kernel)
set_option maxRecDepth 20000 in
theorem gX7_surely_X7_isSight : GoodIn wsX7_surely (wsV RX7 138 RX7 yX7_isSight wsX7_isSight) := goodIn_app (goodIn_of _ (by decide +kernel)) ggX7_surely_X7_isSight
set_option maxRecDepth 20000 in
theorem ggX7_surely_X7_refuse : GoodIn wsX7_surely wsX7_refuse := goodIn_r _ [13, 14, 57, 58, 59, 60, 61, 62, 63, 64, 65, 66, 67, 68, 69, 70, 71, 72, 73, 74, 75, 76, 77, 78, 79, 80, 81, 82, 83, 84, 85, 86, 87, 88, 89] (by decide +kernel) (by decide +kernel)
set_option maxRecDepth 20000 in
theorem gX7_surely_X7_refuse : GoodIn wsX7_surely (wsV RX7 94 RX7 yX7_refuse wsX7_refuse) := goodIn_app (goodIn_of _ (by decide +kernel)) ggX7_surely_X7_refuse
set_option maxRecDepth 20000 in
theorem ggX7_surely_X7_noSayings : GoodIn wsX7_surely wsX7_noSayings := goodIn_r _ [18, 19, 20, 21, 22, 4, 23, 24, 25, 26, 7, 8, 9, 10, 11, 12, 13, 14, 27, 28, 29, 30, 31, 32, 33, 34, 35, 36, 37, 6, 57, 58, 59, 60, 61, 62, 63, 64, 65, 66, 67, 68, 69, 70, 71, 72, 73, 74, 75, 76, 77, 78, 79, 80, 81, 82, 83, 84, 85, 86, 87, 88, 89] (by decide +kernel) (by decide +kernel)
set_option maxRecDepth 20000 in
theorem gX7_surely_X7_noSayings : GoodIn wsX7_surely (wsV RX7 315 RX7 yX7_noSayings wsX7_noSayings) := goodIn_app (goodIn_of _ (by decide +kernel)) ggX7_surely_X7_noSayings
set_option maxRecDepth 20000 in
theorem ggX7_surely_X7_silent : GoodIn wsX7_surely wsX7_silent := goodIn_r _ [41, 37, 19, 42, 43, 44, 4, 45, 57, 58, 59, 60, 61, 62, 63, 64, 65, 66, 67, 68, 69, 70, 71, 72, 73, 74, 75, 76, 77, 78, 79, 80, 81, 82, 83, 84, 85, 86, 87, 88, 89] (by decide +kernel) (by decide +kernel)
set_option maxRecDepth 20000 in
theorem gX7_surely_X7_silent : GoodIn wsX7_surely (wsV RX7 318 RX7 yX7_silent wsX7_silent) := goodIn_app (goodIn_of _ (by decide +kernel)) ggX7_surely_X7_silent
set_option maxRecDepth 20000 in
theorem ggX7_surely_X7_barredOf : GoodIn wsX7_surely wsX7_barredOf := goodIn_r _ [49, 37, 50, 51, 52, 4, 53, 54, 55, 56, 43, 44, 45, 57, 58, 59, 60, 61, 62, 63, 64, 65, 66, 67, 68, 69, 70, 71, 72, 73, 74, 75, 76, 77, 78, 79, 80, 81, 82, 83, 84, 85, 86, 87, 88, 89] (by decide +kernel) (by decide +kernel)
set_option maxRecDepth 20000 in
theorem gX7_surely_X7_barredOf : GoodIn wsX7_surely (wsV RX7 286 RX7 yX7_barredOf wsX7_barredOf) := goodIn_app (goodIn_of _ (by decide +kernel)) ggX7_surely_X7_barredOf
theorem dX7_surely_0 : decode cX7_surely 0 = .ok (.aload_n 0, 1) := by decide +kernel
theorem dX7_surely_1 : decode cX7_surely 1 = .ok (.iload_n 3, 1) := by decide +kernel
theorem dX7_surely_2 : decode cX7_surely 2 = .ok (.invokevirtual 138, 3) := by decide +kernel
theorem dX7_surely_5 : decode cX7_surely 5 = .ok (.ifCond .ne 10, 3) := by decide +kernel
theorem dX7_surely_8 : decode cX7_surely 8 = .ok (.aload_n 0, 1) := by decide +kernel
theorem dX7_surely_9 : decode cX7_surely 9 = .ok (.bipush (-2), 2) := by decide +kernel
theorem dX7_surely_11 : decode cX7_surely 11 = .ok (.invokevirtual 94, 3) := by decide +kernel
theorem dX7_surely_14 : decode cX7_surely 14 = .ok (.ireturn, 1) := by decide +kernel
theorem dX7_surely_15 : decode cX7_surely 15 = .ok (.aload_n 0, 1) := by decide +kernel
theorem dX7_surely_16 : decode cX7_surely 16 = .ok (.iload_n 1, 1) := by decide +kernel
theorem dX7_surely_17 : decode cX7_surely 17 = .ok (.iload_n 2, 1) := by decide +kernel
theorem dX7_surely_18 : decode cX7_surely 18 = .ok (.invokevirtual 315, 3) := by decide +kernel
theorem dX7_surely_21 : decode cX7_surely 21 = .ok (.istore 4, 2) := by decide +kernel
theorem dX7_surely_23 : decode cX7_surely 23 = .ok (.iload 4, 2) := by decide +kernel
theorem dX7_surely_25 : decode cX7_surely 25 = .ok (.ifCond .eq 8, 3) := by decide +kernel
theorem dX7_surely_28 : decode cX7_surely 28 = .ok (.iload 4, 2) := by decide +kernel
theorem dX7_surely_30 : decode cX7_surely 30 = .ok (.goto 16, 3) := by decide +kernel
theorem dX7_surely_33 : decode cX7_surely 33 = .ok (.aload_n 0, 1) := by decide +kernel
theorem dX7_surely_34 : decode cX7_surely 34 = .ok (.iload_n 1, 1) := by decide +kernel
theorem dX7_surely_35 : decode cX7_surely 35 = .ok (.iload_n 2, 1) := by decide +kernel
theorem dX7_surely_36 : decode cX7_surely 36 = .ok (.iload_n 3, 1) := by decide +kernel
theorem dX7_surely_37 : decode cX7_surely 37 = .ok (.invokevirtual 318, 3) := by decide +kernel
theorem dX7_surely_40 : decode cX7_surely 40 = .ok (.aload_n 0, 1) := by decide +kernel
theorem dX7_surely_41 : decode cX7_surely 41 = .ok (.iload_n 3, 1) := by decide +kernel
theorem dX7_surely_42 : decode cX7_surely 42 = .ok (.invokevirtual 286, 3) := by decide +kernel
theorem dX7_surely_45 : decode cX7_surely 45 = .ok (.iand, 1) := by decide +kernel
theorem dX7_surely_46 : decode cX7_surely 46 = .ok (.ireturn, 1) := by decide +kernel
set_option maxRecDepth 20000 in
theorem ggX7_free_X7_isSight : GoodIn wsX7_free wsX7_isSight := goodIn_r _ [6, 7, 8, 9, 5, 10, 112, 113, 114, 115, 116, 117, 118, 119, 120, 121, 122, 123, 124, 125, 126, 127, 128, 129, 130, 131, 132, 133, 134, 135, 136, 137, 138, 139, 140, 141, 142, 143, 144] (by decide +kernel) (by decide +kernel)
set_option maxRecDepth 20000 in
theorem gX7_free_X7_isSight : GoodIn wsX7_free (wsV RX7 138 RX7 yX7_isSight wsX7_isSight) := goodIn_app (goodIn_of _ (by decide +kernel)) ggX7_free_X7_isSight
set_option maxRecDepth 20000 in
theorem ggX7_free_X7_refuse : GoodIn wsX7_free wsX7_refuse := goodIn_r _ [14, 15, 112, 113, 114, 115, 116, 117, 118, 119, 120, 121, 122, 123, 124, 125, 126, 127, 128, 129, 130, 131, 132, 133, 134, 135, 136, 137, 138, 139, 140, 141, 142, 143, 144] (by decide +kernel) (by decide +kernel)
set_option maxRecDepth 20000 in
theorem gX7_free_X7_refuse : GoodIn wsX7_free (wsV RX7 94 RX7 yX7_refuse wsX7_refuse) := goodIn_app (goodIn_of _ (by decide +kernel)) ggX7_free_X7_refuse
set_option maxRecDepth 20000 in
theorem ggX7_free_X7_noSayings : GoodIn wsX7_free wsX7_noSayings := goodIn_r _ [19, 1, 20, 21, 22, 5, 23, 24, 25, 26, 8, 9, 10, 11, 12, 13, 14, 15, 27, 28, 29, 30, 31, 32, 33, 34, 35, 36, 37, 7, 112, 113, 114, 115, 116, 117, 118, 119, 120, 121, 122, 123, 124, 125, 126, 127, 128, 129, 130, 131, 132, 133, 134, 135, 136, 137, 138, 139, 140, 141, 142, 143, 144] (by decide +kernel) (by decide +kernel)
set_option maxRecDepth 20000 in
theorem gX7_free_X7_noSayings : GoodIn wsX7_free (wsV RX7 315 RX7 yX7_noSayings wsX7_noSayings) := goodIn_app (goodIn_of _ (by decide +kernel)) ggX7_free_X7_noSayings
set_option maxRecDepth 20000 in
theorem ggX7_free_X7_fresh : GoodIn wsX7_free wsX7_fresh := goodIn_r _ [41, 42, 43, 44, 5, 45, 46, 47, 48, 49, 50, 51, 31, 52, 26, 53, 54, 1, 55, 56, 57, 15, 7, 58, 59, 60, 61, 62, 63, 64, 65, 66, 67, 68, 69, 70, 71, 72, 73, 37, 74, 75, 76, 77, 112, 113, 114, 115, 116, 117, 118, 119, 120, 121, 122, 123, 124, 125, 126, 127, 128, 129, 130, 131, 132, 133, 134, 135, 136, 137, 138, 139, 140, 141, 142, 143, 144] (by decide +kernel) (by decide +kernel)
set_option maxRecDepth 20000 in
theorem gX7_free_X7_fresh : GoodIn wsX7_free (wsV RX7 236 RX7 yX7_fresh wsX7_fresh) := goodIn_app (goodIn_of _ (by decide +kernel)) ggX7_free_X7_fresh
set_option maxRecDepth 20000 in
theorem ggX7_free_X7_isSaid : GoodIn wsX7_free wsX7_isSaid := goodIn_r _ [81, 37, 63, 62, 82, 83, 5, 84, 85, 86, 87, 112, 113, 114, 115, 116, 117, 118, 119, 120, 121, 122, 123, 124, 125, 126, 127, 128, 129, 130, 131, 132, 133, 134, 135, 136, 137, 138, 139, 140, 141, 142, 143, 144] (by decide +kernel) (by decide +kernel)
set_option maxRecDepth 20000 in
theorem gX7_free_X7_isSaid : GoodIn wsX7_free (wsV RX7 253 RX7 yX7_isSaid wsX7_isSaid) := goodIn_app (goodIn_of _ (by decide +kernel)) ggX7_free_X7_isSaid
set_option maxRecDepth 20000 in
theorem ggX7_free_X7_silent : GoodIn wsX7_free wsX7_silent := goodIn_r _ [91, 37, 1, 63, 82, 83, 5, 84, 112, 113, 114, 115, 116, 117, 118, 119, 120, 121, 122, 123, 124, 125, 126, 127, 128, 129, 130, 131, 132, 133, 134, 135, 136, 137, 138, 139, 140, 141, 142, 143, 144] (by decide +kernel) (by decide +kernel)
set_option maxRecDepth 20000 in
theorem gX7_free_X7_silent : GoodIn wsX7_free (wsV RX7 318 RX7 yX7_silent wsX7_silent) := goodIn_app (goodIn_of _ (by decide +kernel)) ggX7_free_X7_silent
set_option maxRecDepth 20000 in
theorem ggX7_free_X7_barredOf : GoodIn wsX7_free wsX7_barredOf := goodIn_r _ [95, 37, 96, 97, 98, 5, 99, 64, 60, 61, 82, 83, 84, 112, 113, 114, 115, 116, 117, 118, 119, 120, 121, 122, 123, 124, 125, 126, 127, 128, 129, 130, 131, 132, 133, 134, 135, 136, 137, 138, 139, 140, 141, 142, 143, 144] (by decide +kernel) (by decide +kernel)
set_option maxRecDepth 20000 in
theorem gX7_free_X7_barredOf : GoodIn wsX7_free (wsV RX7 286 RX7 yX7_barredOf wsX7_barredOf) := goodIn_app (goodIn_of _ (by decide +kernel)) ggX7_free_X7_barredOf
set_option maxRecDepth 20000 in
theorem ggX7_free_X7_mouthsOf : GoodIn wsX7_free wsX7_mouthsOf := goodIn_r _ [103, 37, 104, 105, 106, 5, 107, 58, 62, 63, 60, 64, 7, 96, 97, 98, 99, 61, 108, 109, 110, 111, 82, 83, 84, 112, 113, 114, 115, 116, 117, 118, 119, 120, 121, 122, 123, 124, 125, 126, 127, 128, 129, 130, 131, 132, 133, 134, 135, 136, 137, 138, 139, 140, 141, 142, 143, 144] (by decide +kernel) (by decide +kernel)
set_option maxRecDepth 20000 in
theorem gX7_free_X7_mouthsOf : GoodIn wsX7_free (wsV RX7 250 RX7 yX7_mouthsOf wsX7_mouthsOf) := goodIn_app (goodIn_of _ (by decide +kernel)) ggX7_free_X7_mouthsOf
theorem dX7_free_0 : decode cX7_free 0 = .ok (.aload_n 0, 1) := by decide +kernel
theorem dX7_free_1 : decode cX7_free 1 = .ok (.iload_n 3, 1) := by decide +kernel
theorem dX7_free_2 : decode cX7_free 2 = .ok (.invokevirtual 138, 3) := by decide +kernel
theorem dX7_free_5 : decode cX7_free 5 = .ok (.ifCond .ne 10, 3) := by decide +kernel
theorem dX7_free_8 : decode cX7_free 8 = .ok (.aload_n 0, 1) := by decide +kernel
theorem dX7_free_9 : decode cX7_free 9 = .ok (.bipush (-2), 2) := by decide +kernel
theorem dX7_free_11 : decode cX7_free 11 = .ok (.invokevirtual 94, 3) := by decide +kernel
theorem dX7_free_14 : decode cX7_free 14 = .ok (.ireturn, 1) := by decide +kernel
theorem dX7_free_15 : decode cX7_free 15 = .ok (.aload_n 0, 1) := by decide +kernel
theorem dX7_free_16 : decode cX7_free 16 = .ok (.iload_n 1, 1) := by decide +kernel
theorem dX7_free_17 : decode cX7_free 17 = .ok (.iload_n 2, 1) := by decide +kernel
theorem dX7_free_18 : decode cX7_free 18 = .ok (.invokevirtual 315, 3) := by decide +kernel
theorem dX7_free_21 : decode cX7_free 21 = .ok (.istore 4, 2) := by decide +kernel
theorem dX7_free_23 : decode cX7_free 23 = .ok (.iload 4, 2) := by decide +kernel
theorem dX7_free_25 : decode cX7_free 25 = .ok (.ifCond .eq 6, 3) := by decide +kernel
theorem dX7_free_28 : decode cX7_free 28 = .ok (.iload 4, 2) := by decide +kernel
theorem dX7_free_30 : decode cX7_free 30 = .ok (.ireturn, 1) := by decide +kernel
theorem dX7_free_31 : decode cX7_free 31 = .ok (.aload_n 0, 1) := by decide +kernel
theorem dX7_free_32 : decode cX7_free 32 = .ok (.invokevirtual 236, 3) := by decide +kernel
theorem dX7_free_35 : decode cX7_free 35 = .ok (.astore 5, 2) := by decide +kernel
theorem dX7_free_37 : decode cX7_free 37 = .ok (.iconst 0, 1) := by decide +kernel
theorem dX7_free_38 : decode cX7_free 38 = .ok (.istore 6, 2) := by decide +kernel
theorem dX7_free_40 : decode cX7_free 40 = .ok (.iload 6, 2) := by decide +kernel
theorem dX7_free_42 : decode cX7_free 42 = .ok (.iload_n 2, 1) := by decide +kernel
theorem dX7_free_43 : decode cX7_free 43 = .ok (.if_icmp .ge 39, 3) := by decide +kernel
theorem dX7_free_46 : decode cX7_free 46 = .ok (.aload_n 0, 1) := by decide +kernel
theorem dX7_free_47 : decode cX7_free 47 = .ok (.getfield 21, 3) := by decide +kernel
theorem dX7_free_50 : decode cX7_free 50 = .ok (.iload_n 1, 1) := by decide +kernel
theorem dX7_free_51 : decode cX7_free 51 = .ok (.aaload, 1) := by decide +kernel
theorem dX7_free_52 : decode cX7_free 52 = .ok (.iload 6, 2) := by decide +kernel
theorem dX7_free_54 : decode cX7_free 54 = .ok (.laload, 1) := by decide +kernel
theorem dX7_free_55 : decode cX7_free 55 = .ok (.l2i, 1) := by decide +kernel
theorem dX7_free_56 : decode cX7_free 56 = .ok (.istore 7, 2) := by decide +kernel
theorem dX7_free_58 : decode cX7_free 58 = .ok (.aload 5, 2) := by decide +kernel
theorem dX7_free_60 : decode cX7_free 60 = .ok (.iload 7, 2) := by decide +kernel
theorem dX7_free_62 : decode cX7_free 62 = .ok (.bipush 10, 2) := by decide +kernel
theorem dX7_free_64 : decode cX7_free 64 = .ok (.idiv, 1) := by decide +kernel
theorem dX7_free_65 : decode cX7_free 65 = .ok (.iconst 1, 1) := by decide +kernel
theorem dX7_free_66 : decode cX7_free 66 = .ok (.iload 7, 2) := by decide +kernel
theorem dX7_free_68 : decode cX7_free 68 = .ok (.bipush 10, 2) := by decide +kernel
theorem dX7_free_70 : decode cX7_free 70 = .ok (.irem, 1) := by decide +kernel
theorem dX7_free_71 : decode cX7_free 71 = .ok (.ishl, 1) := by decide +kernel
theorem dX7_free_72 : decode cX7_free 72 = .ok (.invokevirtual 253, 3) := by decide +kernel
theorem dX7_free_75 : decode cX7_free 75 = .ok (.pop, 1) := by decide +kernel
theorem dX7_free_76 : decode cX7_free 76 = .ok (.iinc 6 1, 3) := by decide +kernel
theorem dX7_free_79 : decode cX7_free 79 = .ok (.goto (-39), 3) := by decide +kernel
theorem dX7_free_82 : decode cX7_free 82 = .ok (.aload_n 0, 1) := by decide +kernel
theorem dX7_free_83 : decode cX7_free 83 = .ok (.iload_n 1, 1) := by decide +kernel
theorem dX7_free_84 : decode cX7_free 84 = .ok (.iload_n 2, 1) := by decide +kernel
theorem dX7_free_85 : decode cX7_free 85 = .ok (.iload_n 3, 1) := by decide +kernel
theorem dX7_free_86 : decode cX7_free 86 = .ok (.invokevirtual 318, 3) := by decide +kernel
theorem dX7_free_89 : decode cX7_free 89 = .ok (.aload_n 0, 1) := by decide +kernel
theorem dX7_free_90 : decode cX7_free 90 = .ok (.iload_n 3, 1) := by decide +kernel
theorem dX7_free_91 : decode cX7_free 91 = .ok (.invokevirtual 286, 3) := by decide +kernel
theorem dX7_free_94 : decode cX7_free 94 = .ok (.iconst (-1), 1) := by decide +kernel
theorem dX7_free_95 : decode cX7_free 95 = .ok (.ixor, 1) := by decide +kernel
theorem dX7_free_96 : decode cX7_free 96 = .ok (.iand, 1) := by decide +kernel
theorem dX7_free_97 : decode cX7_free 97 = .ok (.aload 5, 2) := by decide +kernel
theorem dX7_free_99 : decode cX7_free 99 = .ok (.iload_n 3, 1) := by decide +kernel
theorem dX7_free_100 : decode cX7_free 100 = .ok (.invokevirtual 250, 3) := by decide +kernel
theorem dX7_free_103 : decode cX7_free 103 = .ok (.iand, 1) := by decide +kernel
theorem dX7_free_104 : decode cX7_free 104 = .ok (.ireturn, 1) := by decide +kernel
set_option maxRecDepth 20000 in
theorem ggX7_evening_X7_noEvening : GoodIn wsX7_evening wsX7_noEvening := goodIn_r _ [6, 7, 8, 9, 10, 11, 5, 12, 13, 14, 15, 16, 17, 18, 19, 20, 21, 22, 104, 105, 106, 107, 108, 109, 110, 111, 112, 113, 114, 115, 116, 117, 118, 119, 120, 121, 122, 123, 124, 125, 126, 127, 128, 129, 130, 131, 132, 133, 134, 135, 136] (by decide +kernel) (by decide +kernel)
set_option maxRecDepth 20000 in
theorem gX7_evening_X7_noEvening : GoodIn wsX7_evening (wsV RX7 308 RX7 yX7_noEvening wsX7_noEvening) := goodIn_app (goodIn_of _ (by decide +kernel)) ggX7_evening_X7_noEvening
set_option maxRecDepth 20000 in
theorem ggX7_evening_X7_fresh : GoodIn wsX7_evening wsX7_fresh := goodIn_r _ [26, 27, 28, 29, 5, 30, 31, 32, 33, 34, 35, 36, 22, 37, 9, 38, 39, 1, 40, 41, 42, 17, 43, 44, 45, 46, 47, 48, 49, 50, 51, 52, 53, 54, 55, 56, 57, 58, 59, 60, 61, 62, 63, 64, 104, 105, 106, 107, 108, 109, 110, 111, 112, 113, 114, 115, 116, 117, 118, 119, 120, 121, 122, 123, 124, 125, 126, 127, 128, 129, 130, 131, 132, 133, 134, 135, 136] (by decide +kernel) (by decide +kernel)
set_option maxRecDepth 20000 in
theorem gX7_evening_X7_fresh : GoodIn wsX7_evening (wsV RX7 236 RX7 yX7_fresh wsX7_fresh) := goodIn_app (goodIn_of _ (by decide +kernel)) ggX7_evening_X7_fresh
set_option maxRecDepth 20000 in
theorem ggX7_evening_X7_goesBy : GoodIn wsX7_evening wsX7_goesBy := goodIn_r _ [68, 69, 70, 71, 72, 5, 73, 60, 43, 74, 75, 76, 77, 44, 48, 49, 46, 50, 78, 79, 80, 81, 47, 82, 83, 84, 85, 86, 87, 88, 89, 90, 91, 92, 93, 94, 95, 104, 105, 106, 107, 108, 109, 110, 111, 112, 113, 114, 115, 116, 117, 118, 119, 120, 121, 122, 123, 124, 125, 126, 127, 128, 129, 130, 131, 132, 133, 134, 135, 136] (by decide +kernel) (by decide +kernel)
set_option maxRecDepth 20000 in
theorem gX7_evening_X7_goesBy : GoodIn wsX7_evening (wsV RX7 311 RX7 yX7_goesBy wsX7_goesBy) := goodIn_app (goodIn_of _ (by decide +kernel)) ggX7_evening_X7_goesBy
set_option maxRecDepth 20000 in
theorem ggX7_evening_X7_refuse : GoodIn wsX7_evening wsX7_refuse := goodIn_r _ [16, 17, 104, 105, 106, 107, 108, 109, 110, 111, 112, 113, 114, 115, 116, 117, 118, 119, 120, 121, 122, 123, 124, 125, 126, 127, 128, 129, 130, 131, 132, 133, 134, 135, 136] (by decide +kernel) (by decide +kernel)
set_option maxRecDepth 20000 in
theorem gX7_evening_X7_refuse : GoodIn wsX7_evening (wsV RX7 94 RX7 yX7_refuse wsX7_refuse) := goodIn_app (goodIn_of _ (by decide +kernel)) ggX7_evening_X7_refuse
set_option maxRecDepth 20000 in
theorem ggX7_evening_X7_knownNow : GoodIn wsX7_evening wsX7_knownNow := goodIn_r _ [99, 60, 100, 101, 102, 5, 103, 46, 47, 48, 93, 94, 95, 104, 105, 106, 107, 108, 109, 110, 111, 112, 113, 114, 115, 116, 117, 118, 119, 120, 121, 122, 123, 124, 125, 126, 127, 128, 129, 130, 131, 132, 133, 134, 135, 136] (by decide +kernel) (by decide +kernel)
set_option maxRecDepth 20000 in
theorem gX7_evening_X7_knownNow : GoodIn wsX7_evening (wsV RX7 257 RX7 yX7_knownNow wsX7_knownNow) := goodIn_app (goodIn_of _ (by decide +kernel)) ggX7_evening_X7_knownNow
theorem dX7_evening_0 : decode cX7_evening 0 = .ok (.aload_n 0, 1) := by decide +kernel
theorem dX7_evening_1 : decode cX7_evening 1 = .ok (.iload_n 1, 1) := by decide +kernel
theorem dX7_evening_2 : decode cX7_evening 2 = .ok (.iload_n 2, 1) := by decide +kernel
theorem dX7_evening_3 : decode cX7_evening 3 = .ok (.invokevirtual 308, 3) := by decide +kernel
theorem dX7_evening_6 : decode cX7_evening 6 = .ok (.istore_n 3, 1) := by decide +kernel
theorem dX7_evening_7 : decode cX7_evening 7 = .ok (.iload_n 3, 1) := by decide +kernel
theorem dX7_evening_8 : decode cX7_evening 8 = .ok (.ifCond .eq 5, 3) := by decide +kernel
theorem dX7_evening_11 : decode cX7_evening 11 = .ok (.iload_n 3, 1) := by decide +kernel
theorem dX7_evening_12 : decode cX7_evening 12 = .ok (.ireturn, 1) := by decide +kernel
theorem dX7_evening_13 : decode cX7_evening 13 = .ok (.aload_n 0, 1) := by decide +kernel
theorem dX7_evening_14 : decode cX7_evening 14 = .ok (.invokevirtual 236, 3) := by decide +kernel
theorem dX7_evening_17 : decode cX7_evening 17 = .ok (.aload_n 0, 1) := by decide +kernel
theorem dX7_evening_18 : decode cX7_evening 18 = .ok (.getfield 21, 3) := by decide +kernel
theorem dX7_evening_21 : decode cX7_evening 21 = .ok (.iload_n 1, 1) := by decide +kernel
theorem dX7_evening_22 : decode cX7_evening 22 = .ok (.aaload, 1) := by decide +kernel
theorem dX7_evening_23 : decode cX7_evening 23 = .ok (.iload_n 2, 1) := by decide +kernel
theorem dX7_evening_24 : decode cX7_evening 24 = .ok (.invokevirtual 311, 3) := by decide +kernel
theorem dX7_evening_27 : decode cX7_evening 27 = .ok (.iconst (-1), 1) := by decide +kernel
theorem dX7_evening_28 : decode cX7_evening 28 = .ok (.if_icmp .eq 10, 3) := by decide +kernel
theorem dX7_evening_31 : decode cX7_evening 31 = .ok (.aload_n 0, 1) := by decide +kernel
theorem dX7_evening_32 : decode cX7_evening 32 = .ok (.bipush (-5), 2) := by decide +kernel
theorem dX7_evening_34 : decode cX7_evening 34 = .ok (.invokevirtual 94, 3) := by decide +kernel
theorem dX7_evening_37 : decode cX7_evening 37 = .ok (.ireturn, 1) := by decide +kernel
theorem dX7_evening_38 : decode cX7_evening 38 = .ok (.aload_n 0, 1) := by decide +kernel
theorem dX7_evening_39 : decode cX7_evening 39 = .ok (.aload_n 0, 1) := by decide +kernel
theorem dX7_evening_40 : decode cX7_evening 40 = .ok (.getfield 21, 3) := by decide +kernel
theorem dX7_evening_43 : decode cX7_evening 43 = .ok (.iload_n 1, 1) := by decide +kernel
theorem dX7_evening_44 : decode cX7_evening 44 = .ok (.aaload, 1) := by decide +kernel
theorem dX7_evening_45 : decode cX7_evening 45 = .ok (.iload_n 2, 1) := by decide +kernel
theorem dX7_evening_46 : decode cX7_evening 46 = .ok (.invokevirtual 311, 3) := by decide +kernel
theorem dX7_evening_49 : decode cX7_evening 49 = .ok (.pop, 1) := by decide +kernel
theorem dX7_evening_50 : decode cX7_evening 50 = .ok (.aload_n 0, 1) := by decide +kernel
theorem dX7_evening_51 : decode cX7_evening 51 = .ok (.invokevirtual 257, 3) := by decide +kernel
theorem dX7_evening_54 : decode cX7_evening 54 = .ok (.ireturn, 1) := by decide +kernel
theorem dX7_below_0 : decode cX7_below 0 = .ok (.aload_n 0, 1) := by decide +kernel
theorem dX7_below_1 : decode cX7_below 1 = .ok (.aload_n 0, 1) := by decide +kernel
theorem dX7_below_2 : decode cX7_below 2 = .ok (.getfield 62, 3) := by decide +kernel
theorem dX7_below_5 : decode cX7_below 5 = .ok (.ldc_w 322, 3) := by decide +kernel
theorem dX7_below_8 : decode cX7_below 8 = .ok (.imul, 1) := by decide +kernel
theorem dX7_below_9 : decode cX7_below 9 = .ok (.sipush 12345, 3) := by decide +kernel
theorem dX7_below_12 : decode cX7_below 12 = .ok (.iadd, 1) := by decide +kernel
theorem dX7_below_13 : decode cX7_below 13 = .ok (.putfield 62, 3) := by decide +kernel
theorem dX7_below_16 : decode cX7_below 16 = .ok (.aload_n 0, 1) := by decide +kernel
theorem dX7_below_17 : decode cX7_below 17 = .ok (.getfield 62, 3) := by decide +kernel
theorem dX7_below_20 : decode cX7_below 20 = .ok (.bipush 16, 2) := by decide +kernel
theorem dX7_below_22 : decode cX7_below 22 = .ok (.iushr, 1) := by decide +kernel
theorem dX7_below_23 : decode cX7_below 23 = .ok (.iload_n 1, 1) := by decide +kernel
theorem dX7_below_24 : decode cX7_below 24 = .ok (.irem, 1) := by decide +kernel
theorem dX7_below_25 : decode cX7_below 25 = .ok (.ireturn, 1) := by decide +kernel
set_option maxRecDepth 20000 in
theorem ggX7_talk_X7_in : GoodIn wsX7_talk wsX7_in := goodIn_r _ [7] (by decide +kernel) (by decide +kernel)
set_option maxRecDepth 20000 in
theorem gX7_talk_X7_in : GoodIn wsX7_talk (va_wsS RX7 80 yX7_in wsX7_in) := goodIn_app (goodIn_of _ (by decide +kernel)) ggX7_talk_X7_in
set_option maxRecDepth 20000 in
theorem ggX7_talk_X7_refuse : GoodIn wsX7_talk wsX7_refuse := goodIn_r _ [11, 12, 47, 48, 49, 50, 51, 52, 53, 54, 55, 56, 57, 58, 59, 60, 61, 62, 63, 64, 65, 66, 67, 68, 69, 70, 71, 72, 73, 74, 75, 76, 77, 78, 79] (by decide +kernel) (by decide +kernel)
set_option maxRecDepth 20000 in
theorem gX7_talk_X7_refuse : GoodIn wsX7_talk (wsV RX7 94 RX7 yX7_refuse wsX7_refuse) := goodIn_app (goodIn_of _ (by decide +kernel)) ggX7_talk_X7_refuse
set_option maxRecDepth 20000 in
theorem ggX7_talk_X7_below : GoodIn wsX7_talk wsX7_below := goodIn_r _ [16, 17, 18, 47, 48, 49, 50, 51, 52, 53, 54, 55, 56, 57, 58, 59, 60, 61, 62, 63, 64, 65, 66, 67, 68, 69, 70, 71, 72, 73, 74, 75, 76, 77, 78, 79] (by decide +kernel) (by decide +kernel)
set_option maxRecDepth 20000 in
theorem gX7_talk_X7_below : GoodIn wsX7_talk (wsV RX7 323 RX7 yX7_below wsX7_below) := goodIn_app (goodIn_of _ (by decide +kernel)) ggX7_talk_X7_below
set_option maxRecDepth 20000 in
theorem ggX7_talk_X7_mayOf : GoodIn wsX7_talk wsX7_mayOf := goodIn_r _ [22, 23, 24, 2, 25, 26, 27, 3, 28, 29, 30, 6, 31, 32, 33, 34, 35, 36, 37, 38, 39, 47, 48, 49, 50, 51, 52, 53, 54, 55, 56, 57, 58, 59, 60, 61, 62, 63, 64, 65, 66, 67, 68, 69, 70, 71, 72, 73, 74, 75, 76, 77, 78, 79] (by decide +kernel) (by decide +kernel)
set_option maxRecDepth 20000 in
theorem gX7_talk_X7_mayOf : GoodIn wsX7_talk (wsV RX7 114 RX7 yX7_mayOf wsX7_mayOf) := goodIn_app (goodIn_of _ (by decide +kernel)) ggX7_talk_X7_mayOf
set_option maxRecDepth 20000 in
theorem ggX7_talk_X7_has : GoodIn wsX7_talk wsX7_has := goodIn_r _ [39] (by decide +kernel) (by decide +kernel)
set_option maxRecDepth 20000 in
theorem gX7_talk_X7_has : GoodIn wsX7_talk (va_wsS RX7 84 yX7_has wsX7_has) := goodIn_app (goodIn_of _ (by decide +kernel)) ggX7_talk_X7_has
set_option maxRecDepth 20000 in
theorem ggX7_talk_X7_isSaid : GoodIn wsX7_talk wsX7_isSaid := goodIn_r _ [43, 2, 25, 24, 37, 38, 6, 39, 44, 45, 46, 47, 48, 49, 50, 51, 52, 53, 54, 55, 56, 57, 58, 59, 60, 61, 62, 63, 64, 65, 66, 67, 68, 69, 70, 71, 72, 73, 74, 75, 76, 77, 78, 79] (by decide +kernel) (by decide +kernel)
set_option maxRecDepth 20000 in
theorem gX7_talk_X7_isSaid : GoodIn wsX7_talk (wsV RX7 253 RX7 yX7_isSaid wsX7_isSaid) := goodIn_app (goodIn_of _ (by decide +kernel)) ggX7_talk_X7_isSaid
theorem dX7_talk_0 : decode cX7_talk 0 = .ok (.iload_n 1, 1) := by decide +kernel
theorem dX7_talk_1 : decode cX7_talk 1 = .ok (.i2l, 1) := by decide +kernel
theorem dX7_talk_2 : decode cX7_talk 2 = .ok (.lconst 1, 1) := by decide +kernel
theorem dX7_talk_3 : decode cX7_talk 3 = .ok (.ldc2_w 92, 3) := by decide +kernel
theorem dX7_talk_6 : decode cX7_talk 6 = .ok (.invokestatic 80, 3) := by decide +kernel
theorem dX7_talk_9 : decode cX7_talk 9 = .ok (.ifCond .ne 10, 3) := by decide +kernel
theorem dX7_talk_12 : decode cX7_talk 12 = .ok (.aload_n 0, 1) := by decide +kernel
theorem dX7_talk_13 : decode cX7_talk 13 = .ok (.bipush (-2), 2) := by decide +kernel
theorem dX7_talk_15 : decode cX7_talk 15 = .ok (.invokevirtual 94, 3) := by decide +kernel
theorem dX7_talk_18 : decode cX7_talk 18 = .ok (.ireturn, 1) := by decide +kernel
theorem dX7_talk_19 : decode cX7_talk 19 = .ok (.aload_n 0, 1) := by decide +kernel
theorem dX7_talk_20 : decode cX7_talk 20 = .ok (.getfield 77, 3) := by decide +kernel
theorem dX7_talk_23 : decode cX7_talk 23 = .ok (.ifCond .ne 10, 3) := by decide +kernel
theorem dX7_talk_26 : decode cX7_talk 26 = .ok (.aload_n 0, 1) := by decide +kernel
theorem dX7_talk_27 : decode cX7_talk 27 = .ok (.bipush (-5), 2) := by decide +kernel
theorem dX7_talk_29 : decode cX7_talk 29 = .ok (.invokevirtual 94, 3) := by decide +kernel
theorem dX7_talk_32 : decode cX7_talk 32 = .ok (.ireturn, 1) := by decide +kernel
theorem dX7_talk_33 : decode cX7_talk 33 = .ok (.iconst 0, 1) := by decide +kernel
theorem dX7_talk_34 : decode cX7_talk 34 = .ok (.istore_n 2, 1) := by decide +kernel
theorem dX7_talk_35 : decode cX7_talk 35 = .ok (.iconst 0, 1) := by decide +kernel
theorem dX7_talk_36 : decode cX7_talk 36 = .ok (.istore_n 3, 1) := by decide +kernel
theorem dX7_talk_37 : decode cX7_talk 37 = .ok (.iload_n 3, 1) := by decide +kernel
theorem dX7_talk_38 : decode cX7_talk 38 = .ok (.iload_n 1, 1) := by decide +kernel
theorem dX7_talk_39 : decode cX7_talk 39 = .ok (.if_icmp .ge 57, 3) := by decide +kernel
theorem dX7_talk_42 : decode cX7_talk 42 = .ok (.aload_n 0, 1) := by decide +kernel
theorem dX7_talk_43 : decode cX7_talk 43 = .ok (.aload_n 0, 1) := by decide +kernel
theorem dX7_talk_44 : decode cX7_talk 44 = .ok (.getfield 77, 3) := by decide +kernel
theorem dX7_talk_47 : decode cX7_talk 47 = .ok (.invokevirtual 323, 3) := by decide +kernel
theorem dX7_talk_50 : decode cX7_talk 50 = .ok (.istore 4, 2) := by decide +kernel
theorem dX7_talk_52 : decode cX7_talk 52 = .ok (.aload_n 0, 1) := by decide +kernel
theorem dX7_talk_53 : decode cX7_talk 53 = .ok (.aload_n 0, 1) := by decide +kernel
theorem dX7_talk_54 : decode cX7_talk 54 = .ok (.getfield 37, 3) := by decide +kernel
theorem dX7_talk_57 : decode cX7_talk 57 = .ok (.invokevirtual 323, 3) := by decide +kernel
theorem dX7_talk_60 : decode cX7_talk 60 = .ok (.istore 5, 2) := by decide +kernel
theorem dX7_talk_62 : decode cX7_talk 62 = .ok (.aload_n 0, 1) := by decide +kernel
theorem dX7_talk_63 : decode cX7_talk 63 = .ok (.iload 4, 2) := by decide +kernel
theorem dX7_talk_65 : decode cX7_talk 65 = .ok (.invokevirtual 114, 3) := by decide +kernel
theorem dX7_talk_68 : decode cX7_talk 68 = .ok (.iload 5, 2) := by decide +kernel
theorem dX7_talk_70 : decode cX7_talk 70 = .ok (.invokestatic 84, 3) := by decide +kernel
theorem dX7_talk_73 : decode cX7_talk 73 = .ok (.ifCond .eq 17, 3) := by decide +kernel
theorem dX7_talk_76 : decode cX7_talk 76 = .ok (.aload_n 0, 1) := by decide +kernel
theorem dX7_talk_77 : decode cX7_talk 77 = .ok (.iload 4, 2) := by decide +kernel
theorem dX7_talk_79 : decode cX7_talk 79 = .ok (.iconst 1, 1) := by decide +kernel
theorem dX7_talk_80 : decode cX7_talk 80 = .ok (.iload 5, 2) := by decide +kernel
theorem dX7_talk_82 : decode cX7_talk 82 = .ok (.ishl, 1) := by decide +kernel
theorem dX7_talk_83 : decode cX7_talk 83 = .ok (.invokevirtual 253, 3) := by decide +kernel
theorem dX7_talk_86 : decode cX7_talk 86 = .ok (.pop, 1) := by decide +kernel
theorem dX7_talk_87 : decode cX7_talk 87 = .ok (.iinc 2 1, 3) := by decide +kernel
theorem dX7_talk_90 : decode cX7_talk 90 = .ok (.iinc 3 1, 3) := by decide +kernel
theorem dX7_talk_93 : decode cX7_talk 93 = .ok (.goto (-56), 3) := by decide +kernel
theorem dX7_talk_96 : decode cX7_talk 96 = .ok (.iload_n 2, 1) := by decide +kernel
theorem dX7_talk_97 : decode cX7_talk 97 = .ok (.ireturn, 1) := by decide +kernel
set_option maxRecDepth 20000 in
theorem ggX7_round_X7_goesRound : GoodIn wsX7_round wsX7_goesRound := goodIn_r _ [5, 6, 7, 8, 9, 10, 11, 12, 13, 14, 15, 4, 16, 17, 18, 19, 20, 21, 22, 23, 24, 25, 26, 27, 28, 29, 30, 31, 32, 33, 34, 35, 36, 45, 46, 47, 48, 49, 50, 51, 52, 53, 54, 55, 56, 57, 58, 59, 60, 61, 62, 63, 64, 65, 66, 67, 68, 69, 70, 71, 72, 73, 74, 75, 76, 77] (by decide +kernel) (by decide +kernel)
set_option maxRecDepth 20000 in
theorem gX7_round_X7_goesRound : GoodIn wsX7_round (wsV RX7 262 RX7 yX7_goesRound wsX7_goesRound) := goodIn_app (goodIn_of _ (by decide +kernel)) ggX7_round_X7_goesRound
set_option maxRecDepth 20000 in
theorem ggX7_round_X7_knownNow : GoodIn wsX7_round wsX7_knownNow := goodIn_r _ [40, 6, 41, 42, 43, 4, 44, 11, 22, 12, 34, 35, 36, 45, 46, 47, 48, 49, 50, 51, 52, 53, 54, 55, 56, 57, 58, 59, 60, 61, 62, 63, 64, 65, 66, 67, 68, 69, 70, 71, 72, 73, 74, 75, 76, 77] (by decide +kernel) (by decide +kernel)
set_option maxRecDepth 20000 in
theorem gX7_round_X7_knownNow : GoodIn wsX7_round (wsV RX7 257 RX7 yX7_knownNow wsX7_knownNow) := goodIn_app (goodIn_of _ (by decide +kernel)) ggX7_round_X7_knownNow
theorem dX7_round_0 : decode cX7_round 0 = .ok (.aload_n 0, 1) := by decide +kernel
theorem dX7_round_1 : decode cX7_round 1 = .ok (.invokevirtual 262, 3) := by decide +kernel
theorem dX7_round_4 : decode cX7_round 4 = .ok (.pop, 1) := by decide +kernel
theorem dX7_round_5 : decode cX7_round 5 = .ok (.aload_n 0, 1) := by decide +kernel
theorem dX7_round_6 : decode cX7_round 6 = .ok (.invokevirtual 257, 3) := by decide +kernel
theorem dX7_round_9 : decode cX7_round 9 = .ok (.ireturn, 1) := by decide +kernel
set_option maxRecDepth 20000 in
theorem ggX7_night_X7_firstOf : GoodIn wsX7_night wsX7_firstOf := goodIn_r _ [9, 10, 11, 8, 12] (by decide +kernel) (by decide +kernel)
set_option maxRecDepth 20000 in
theorem gX7_night_X7_firstOf : GoodIn wsX7_night (va_wsS RX7 127 yX7_firstOf wsX7_firstOf) := goodIn_app (goodIn_of _ (by decide +kernel)) ggX7_night_X7_firstOf
theorem dX7_night_0 : decode cX7_night 0 = .ok (.iconst 0, 1) := by decide +kernel
theorem dX7_night_1 : decode cX7_night 1 = .ok (.istore_n 1, 1) := by decide +kernel
theorem dX7_night_2 : decode cX7_night 2 = .ok (.iload_n 1, 1) := by decide +kernel
theorem dX7_night_3 : decode cX7_night 3 = .ok (.aload_n 0, 1) := by decide +kernel
theorem dX7_night_4 : decode cX7_night 4 = .ok (.getfield 77, 3) := by decide +kernel
theorem dX7_night_7 : decode cX7_night 7 = .ok (.if_icmp .ge 64, 3) := by decide +kernel
theorem dX7_night_10 : decode cX7_night 10 = .ok (.aload_n 0, 1) := by decide +kernel
theorem dX7_night_11 : decode cX7_night 11 = .ok (.getfield 41, 3) := by decide +kernel
theorem dX7_night_14 : decode cX7_night 14 = .ok (.iload_n 1, 1) := by decide +kernel
theorem dX7_night_15 : decode cX7_night 15 = .ok (.iaload, 1) := by decide +kernel
theorem dX7_night_16 : decode cX7_night 16 = .ok (.iconst 5, 1) := by decide +kernel
theorem dX7_night_17 : decode cX7_night 17 = .ok (.if_icmp .ne 15, 3) := by decide +kernel
theorem dX7_night_20 : decode cX7_night 20 = .ok (.aload_n 0, 1) := by decide +kernel
theorem dX7_night_21 : decode cX7_night 21 = .ok (.getfield 47, 3) := by decide +kernel
theorem dX7_night_24 : decode cX7_night 24 = .ok (.iload_n 1, 1) := by decide +kernel
theorem dX7_night_25 : decode cX7_night 25 = .ok (.iaload, 1) := by decide +kernel
theorem dX7_night_26 : decode cX7_night 26 = .ok (.invokestatic 127, 3) := by decide +kernel
theorem dX7_night_29 : decode cX7_night 29 = .ok (.goto 4, 3) := by decide +kernel
theorem dX7_night_32 : decode cX7_night 32 = .ok (.iconst (-1), 1) := by decide +kernel
theorem dX7_night_33 : decode cX7_night 33 = .ok (.istore_n 2, 1) := by decide +kernel
theorem dX7_night_34 : decode cX7_night 34 = .ok (.iload_n 2, 1) := by decide +kernel
theorem dX7_night_35 : decode cX7_night 35 = .ok (.iconst (-1), 1) := by decide +kernel
theorem dX7_night_36 : decode cX7_night 36 = .ok (.if_icmp .eq 29, 3) := by decide +kernel
theorem dX7_night_39 : decode cX7_night 39 = .ok (.aload_n 0, 1) := by decide +kernel
theorem dX7_night_40 : decode cX7_night 40 = .ok (.getfield 47, 3) := by decide +kernel
theorem dX7_night_43 : decode cX7_night 43 = .ok (.iload_n 1, 1) := by decide +kernel
theorem dX7_night_44 : decode cX7_night 44 = .ok (.dup2, 1) := by decide +kernel
theorem dX7_night_45 : decode cX7_night 45 = .ok (.iaload, 1) := by decide +kernel
theorem dX7_night_46 : decode cX7_night 46 = .ok (.iconst 1, 1) := by decide +kernel
theorem dX7_night_47 : decode cX7_night 47 = .ok (.iload_n 2, 1) := by decide +kernel
theorem dX7_night_48 : decode cX7_night 48 = .ok (.ishl, 1) := by decide +kernel
theorem dX7_night_49 : decode cX7_night 49 = .ok (.iconst (-1), 1) := by decide +kernel
theorem dX7_night_50 : decode cX7_night 50 = .ok (.ixor, 1) := by decide +kernel
theorem dX7_night_51 : decode cX7_night 51 = .ok (.iand, 1) := by decide +kernel
theorem dX7_night_52 : decode cX7_night 52 = .ok (.iastore, 1) := by decide +kernel
theorem dX7_night_53 : decode cX7_night 53 = .ok (.aload_n 0, 1) := by decide +kernel
theorem dX7_night_54 : decode cX7_night 54 = .ok (.getfield 53, 3) := by decide +kernel
theorem dX7_night_57 : decode cX7_night 57 = .ok (.iload_n 1, 1) := by decide +kernel
theorem dX7_night_58 : decode cX7_night 58 = .ok (.dup2, 1) := by decide +kernel
theorem dX7_night_59 : decode cX7_night 59 = .ok (.iaload, 1) := by decide +kernel
theorem dX7_night_60 : decode cX7_night 60 = .ok (.iconst 1, 1) := by decide +kernel
theorem dX7_night_61 : decode cX7_night 61 = .ok (.iload_n 2, 1) := by decide +kernel
theorem dX7_night_62 : decode cX7_night 62 = .ok (.ishl, 1) := by decide +kernel
theorem dX7_night_63 : decode cX7_night 63 = .ok (.ior, 1) := by decide +kernel
theorem dX7_night_64 : decode cX7_night 64 = .ok (.iastore, 1) := by decide +kernel
theorem dX7_night_65 : decode cX7_night 65 = .ok (.iinc 1 1, 3) := by decide +kernel
theorem dX7_night_68 : decode cX7_night 68 = .ok (.goto (-66), 3) := by decide +kernel
theorem dX7_night_71 : decode cX7_night 71 = .ok (.aload_n 0, 1) := by decide +kernel
theorem dX7_night_72 : decode cX7_night 72 = .ok (.dup, 1) := by decide +kernel
theorem dX7_night_73 : decode cX7_night 73 = .ok (.getfield 326, 3) := by decide +kernel
theorem dX7_night_76 : decode cX7_night 76 = .ok (.iconst 1, 1) := by decide +kernel
theorem dX7_night_77 : decode cX7_night 77 = .ok (.iadd, 1) := by decide +kernel
theorem dX7_night_78 : decode cX7_night 78 = .ok (.putfield 326, 3) := by decide +kernel
theorem dX7_night_81 : decode cX7_night 81 = .ok (.aload_n 0, 1) := by decide +kernel
theorem dX7_night_82 : decode cX7_night 82 = .ok (.getfield 326, 3) := by decide +kernel
theorem dX7_night_85 : decode cX7_night 85 = .ok (.ireturn, 1) := by decide +kernel
theorem dX7_seed_0 : decode cX7_seed 0 = .ok (.aload_n 0, 1) := by decide +kernel
theorem dX7_seed_1 : decode cX7_seed 1 = .ok (.getfield 62, 3) := by decide +kernel
theorem dX7_seed_4 : decode cX7_seed 4 = .ok (.istore_n 2, 1) := by decide +kernel
theorem dX7_seed_5 : decode cX7_seed 5 = .ok (.aload_n 0, 1) := by decide +kernel
theorem dX7_seed_6 : decode cX7_seed 6 = .ok (.iload_n 1, 1) := by decide +kernel
theorem dX7_seed_7 : decode cX7_seed 7 = .ok (.putfield 62, 3) := by decide +kernel
theorem dX7_seed_10 : decode cX7_seed 10 = .ok (.iload_n 2, 1) := by decide +kernel
theorem dX7_seed_11 : decode cX7_seed 11 = .ok (.ireturn, 1) := by decide +kernel
set_option maxRecDepth 20000 in
theorem ggX7_fresh_X7_init : GoodIn wsX7_fresh wsX7_init := goodIn_r _ [7, 8, 9, 10, 11, 12, 13, 14, 15, 16, 17, 18, 19, 20, 21, 22, 23, 24, 25, 26, 27, 28, 29, 30, 31, 32, 33, 34, 44, 45, 46, 47, 48, 49, 50, 51, 52, 53, 54, 55, 56, 57, 58, 59, 60, 61, 62, 63, 64, 65, 66, 67, 68, 69, 70, 71, 72, 73, 74, 75, 76] (by decide +kernel) (by decide +kernel)
set_option maxRecDepth 20000 in
theorem gX7_fresh_X7_init : GoodIn wsX7_fresh (wsX7_init) := ggX7_fresh_X7_init
set_option maxRecDepth 20000 in
theorem ggX7_fresh_X7_takeFrom : GoodIn wsX7_fresh wsX7_takeFrom := goodIn_r _ [38, 22, 39, 23, 24, 25, 26, 27, 28, 29, 40, 30, 41, 42, 4, 43, 44, 45, 46, 47, 48, 49, 50, 51, 52, 53, 54, 55, 56, 57, 58, 59, 60, 61, 62, 63, 64, 65, 66, 67, 68, 69, 70, 71, 72, 73, 74, 75, 76] (by decide +kernel) (by decide +kernel)
set_option maxRecDepth 20000 in
theorem gX7_fresh_X7_takeFrom : GoodIn wsX7_fresh (wsV RX7 243 RX7 yX7_takeFrom wsX7_takeFrom) := goodIn_app (goodIn_of _ (by decide +kernel)) ggX7_fresh_X7_takeFrom
theorem dX7_fresh_0 : decode cX7_fresh 0 = .ok (.aload_n 0, 1) := by decide +kernel
theorem dX7_fresh_1 : decode cX7_fresh 1 = .ok (.getfield 329, 3) := by decide +kernel
theorem dX7_fresh_4 : decode cX7_fresh 4 = .ok (.ifnonnull 14, 3) := by decide +kernel
theorem dX7_fresh_7 : decode cX7_fresh 7 = .ok (.aload_n 0, 1) := by decide +kernel
theorem dX7_fresh_8 : decode cX7_fresh 8 = .ok (.new 8, 3) := by decide +kernel
theorem dX7_fresh_11 : decode cX7_fresh 11 = .ok (.dup, 1) := by decide +kernel
theorem dX7_fresh_12 : decode cX7_fresh 12 = .ok (.invokespecial 333, 3) := by decide +kernel
theorem dX7_fresh_15 : decode cX7_fresh 15 = .ok (.putfield 329, 3) := by decide +kernel
theorem dX7_fresh_18 : decode cX7_fresh 18 = .ok (.aload_n 0, 1) := by decide +kernel
theorem dX7_fresh_19 : decode cX7_fresh 19 = .ok (.getfield 329, 3) := by decide +kernel
theorem dX7_fresh_22 : decode cX7_fresh 22 = .ok (.aload_n 0, 1) := by decide +kernel
theorem dX7_fresh_23 : decode cX7_fresh 23 = .ok (.invokevirtual 243, 3) := by decide +kernel
theorem dX7_fresh_26 : decode cX7_fresh 26 = .ok (.aload_n 0, 1) := by decide +kernel
theorem dX7_fresh_27 : decode cX7_fresh 27 = .ok (.getfield 329, 3) := by decide +kernel
theorem dX7_fresh_30 : decode cX7_fresh 30 = .ok (.areturn, 1) := by decide +kernel
theorem dX7_over_0 : decode cX7_over 0 = .ok (.iconst 0, 1) := by decide +kernel
theorem dX7_over_1 : decode cX7_over 1 = .ok (.istore_n 2, 1) := by decide +kernel
theorem dX7_over_2 : decode cX7_over 2 = .ok (.iload_n 2, 1) := by decide +kernel
theorem dX7_over_3 : decode cX7_over 3 = .ok (.aload_n 0, 1) := by decide +kernel
theorem dX7_over_4 : decode cX7_over 4 = .ok (.arraylength, 1) := by decide +kernel
theorem dX7_over_5 : decode cX7_over 5 = .ok (.if_icmp .ge 15, 3) := by decide +kernel
theorem dX7_over_8 : decode cX7_over 8 = .ok (.aload_n 1, 1) := by decide +kernel
theorem dX7_over_9 : decode cX7_over 9 = .ok (.iload_n 2, 1) := by decide +kernel
theorem dX7_over_10 : decode cX7_over 10 = .ok (.aload_n 0, 1) := by decide +kernel
theorem dX7_over_11 : decode cX7_over 11 = .ok (.iload_n 2, 1) := by decide +kernel
theorem dX7_over_12 : decode cX7_over 12 = .ok (.iaload, 1) := by decide +kernel
theorem dX7_over_13 : decode cX7_over 13 = .ok (.iastore, 1) := by decide +kernel
theorem dX7_over_14 : decode cX7_over 14 = .ok (.iinc 2 1, 3) := by decide +kernel
theorem dX7_over_17 : decode cX7_over 17 = .ok (.goto (-15), 3) := by decide +kernel
theorem dX7_over_20 : decode cX7_over 20 = .ok (.return_, 1) := by decide +kernel
set_option maxRecDepth 20000 in
theorem ggX7_takeFrom_X7_over : GoodIn wsX7_takeFrom wsX7_over := goodIn_r _ [15] (by decide +kernel) (by decide +kernel)
set_option maxRecDepth 20000 in
theorem gX7_takeFrom_X7_over : GoodIn wsX7_takeFrom (va_wsS RX7 334 yX7_over wsX7_over) := goodIn_app (goodIn_of _ (by decide +kernel)) ggX7_takeFrom_X7_over
theorem dX7_takeFrom_0 : decode cX7_takeFrom 0 = .ok (.aload_n 0, 1) := by decide +kernel
theorem dX7_takeFrom_1 : decode cX7_takeFrom 1 = .ok (.aload_n 1, 1) := by decide +kernel
theorem dX7_takeFrom_2 : decode cX7_takeFrom 2 = .ok (.getfield 37, 3) := by decide +kernel
theorem dX7_takeFrom_5 : decode cX7_takeFrom 5 = .ok (.putfield 37, 3) := by decide +kernel
theorem dX7_takeFrom_8 : decode cX7_takeFrom 8 = .ok (.aload_n 0, 1) := by decide +kernel
theorem dX7_takeFrom_9 : decode cX7_takeFrom 9 = .ok (.aload_n 1, 1) := by decide +kernel
theorem dX7_takeFrom_10 : decode cX7_takeFrom 10 = .ok (.getfield 77, 3) := by decide +kernel
theorem dX7_takeFrom_13 : decode cX7_takeFrom 13 = .ok (.putfield 77, 3) := by decide +kernel
theorem dX7_takeFrom_16 : decode cX7_takeFrom 16 = .ok (.aload_n 1, 1) := by decide +kernel
theorem dX7_takeFrom_17 : decode cX7_takeFrom 17 = .ok (.getfield 41, 3) := by decide +kernel
theorem dX7_takeFrom_20 : decode cX7_takeFrom 20 = .ok (.aload_n 0, 1) := by decide +kernel
theorem dX7_takeFrom_21 : decode cX7_takeFrom 21 = .ok (.getfield 41, 3) := by decide +kernel
theorem dX7_takeFrom_24 : decode cX7_takeFrom 24 = .ok (.invokestatic 334, 3) := by decide +kernel
theorem dX7_takeFrom_27 : decode cX7_takeFrom 27 = .ok (.aload_n 1, 1) := by decide +kernel
theorem dX7_takeFrom_28 : decode cX7_takeFrom 28 = .ok (.getfield 44, 3) := by decide +kernel
theorem dX7_takeFrom_31 : decode cX7_takeFrom 31 = .ok (.aload_n 0, 1) := by decide +kernel
theorem dX7_takeFrom_32 : decode cX7_takeFrom 32 = .ok (.getfield 44, 3) := by decide +kernel
theorem dX7_takeFrom_35 : decode cX7_takeFrom 35 = .ok (.invokestatic 334, 3) := by decide +kernel
theorem dX7_takeFrom_38 : decode cX7_takeFrom 38 = .ok (.aload_n 1, 1) := by decide +kernel
theorem dX7_takeFrom_39 : decode cX7_takeFrom 39 = .ok (.getfield 47, 3) := by decide +kernel
theorem dX7_takeFrom_42 : decode cX7_takeFrom 42 = .ok (.aload_n 0, 1) := by decide +kernel
theorem dX7_takeFrom_43 : decode cX7_takeFrom 43 = .ok (.getfield 47, 3) := by decide +kernel
theorem dX7_takeFrom_46 : decode cX7_takeFrom 46 = .ok (.invokestatic 334, 3) := by decide +kernel
theorem dX7_takeFrom_49 : decode cX7_takeFrom 49 = .ok (.aload_n 1, 1) := by decide +kernel
theorem dX7_takeFrom_50 : decode cX7_takeFrom 50 = .ok (.getfield 50, 3) := by decide +kernel
theorem dX7_takeFrom_53 : decode cX7_takeFrom 53 = .ok (.aload_n 0, 1) := by decide +kernel
theorem dX7_takeFrom_54 : decode cX7_takeFrom 54 = .ok (.getfield 50, 3) := by decide +kernel
theorem dX7_takeFrom_57 : decode cX7_takeFrom 57 = .ok (.invokestatic 334, 3) := by decide +kernel
theorem dX7_takeFrom_60 : decode cX7_takeFrom 60 = .ok (.aload_n 1, 1) := by decide +kernel
theorem dX7_takeFrom_61 : decode cX7_takeFrom 61 = .ok (.getfield 53, 3) := by decide +kernel
theorem dX7_takeFrom_64 : decode cX7_takeFrom 64 = .ok (.aload_n 0, 1) := by decide +kernel
theorem dX7_takeFrom_65 : decode cX7_takeFrom 65 = .ok (.getfield 53, 3) := by decide +kernel
theorem dX7_takeFrom_68 : decode cX7_takeFrom 68 = .ok (.invokestatic 334, 3) := by decide +kernel
theorem dX7_takeFrom_71 : decode cX7_takeFrom 71 = .ok (.aload_n 1, 1) := by decide +kernel
theorem dX7_takeFrom_72 : decode cX7_takeFrom 72 = .ok (.getfield 56, 3) := by decide +kernel
theorem dX7_takeFrom_75 : decode cX7_takeFrom 75 = .ok (.aload_n 0, 1) := by decide +kernel
theorem dX7_takeFrom_76 : decode cX7_takeFrom 76 = .ok (.getfield 56, 3) := by decide +kernel
theorem dX7_takeFrom_79 : decode cX7_takeFrom 79 = .ok (.invokestatic 334, 3) := by decide +kernel
theorem dX7_takeFrom_82 : decode cX7_takeFrom 82 = .ok (.aload_n 1, 1) := by decide +kernel
theorem dX7_takeFrom_83 : decode cX7_takeFrom 83 = .ok (.getfield 59, 3) := by decide +kernel
theorem dX7_takeFrom_86 : decode cX7_takeFrom 86 = .ok (.aload_n 0, 1) := by decide +kernel
theorem dX7_takeFrom_87 : decode cX7_takeFrom 87 = .ok (.getfield 59, 3) := by decide +kernel
theorem dX7_takeFrom_90 : decode cX7_takeFrom 90 = .ok (.invokestatic 334, 3) := by decide +kernel
theorem dX7_takeFrom_93 : decode cX7_takeFrom 93 = .ok (.aload_n 0, 1) := by decide +kernel
theorem dX7_takeFrom_94 : decode cX7_takeFrom 94 = .ok (.aload_n 1, 1) := by decide +kernel
theorem dX7_takeFrom_95 : decode cX7_takeFrom 95 = .ok (.getfield 326, 3) := by decide +kernel
theorem dX7_takeFrom_98 : decode cX7_takeFrom 98 = .ok (.putfield 326, 3) := by decide +kernel
theorem dX7_takeFrom_101 : decode cX7_takeFrom 101 = .ok (.aload_n 0, 1) := by decide +kernel
theorem dX7_takeFrom_102 : decode cX7_takeFrom 102 = .ok (.aload_n 1, 1) := by decide +kernel
theorem dX7_takeFrom_103 : decode cX7_takeFrom 103 = .ok (.getfield 62, 3) := by decide +kernel
theorem dX7_takeFrom_106 : decode cX7_takeFrom 106 = .ok (.putfield 62, 3) := by decide +kernel
theorem dX7_takeFrom_109 : decode cX7_takeFrom 109 = .ok (.return_, 1) := by decide +kernel
set_option maxRecDepth 20000 in
theorem ggX7_image_X7_init : GoodIn wsX7_image wsX7_init := goodIn_r _ [7, 8, 9, 10, 11, 12, 13, 14, 15, 16, 17, 18, 19, 20, 21, 22, 23, 24, 25, 26, 27, 28, 29, 30, 31, 32, 33, 34, 44, 45, 46, 47, 48, 49, 50, 51, 52, 53, 54, 55, 56, 57, 58, 59, 60, 61, 62, 63, 64, 65, 66, 67, 68, 69, 70, 71, 72, 73, 74, 75, 76] (by decide +kernel) (by decide +kernel)
set_option maxRecDepth 20000 in
theorem gX7_image_X7_init : GoodIn wsX7_image (wsX7_init) := ggX7_image_X7_init
set_option maxRecDepth 20000 in
theorem ggX7_image_X7_takeFrom : GoodIn wsX7_image wsX7_takeFrom := goodIn_r _ [38, 22, 39, 23, 24, 25, 26, 27, 28, 29, 40, 30, 41, 42, 4, 43, 44, 45, 46, 47, 48, 49, 50, 51, 52, 53, 54, 55, 56, 57, 58, 59, 60, 61, 62, 63, 64, 65, 66, 67, 68, 69, 70, 71, 72, 73, 74, 75, 76] (by decide +kernel) (by decide +kernel)
set_option maxRecDepth 20000 in
theorem gX7_image_X7_takeFrom : GoodIn wsX7_image (wsV RX7 243 RX7 yX7_takeFrom wsX7_takeFrom) := goodIn_app (goodIn_of _ (by decide +kernel)) ggX7_image_X7_takeFrom
theorem dX7_image_0 : decode cX7_image 0 = .ok (.aload_n 0, 1) := by decide +kernel
theorem dX7_image_1 : decode cX7_image 1 = .ok (.getfield 338, 3) := by decide +kernel
theorem dX7_image_4 : decode cX7_image 4 = .ok (.ifnonnull 14, 3) := by decide +kernel
theorem dX7_image_7 : decode cX7_image 7 = .ok (.aload_n 0, 1) := by decide +kernel
theorem dX7_image_8 : decode cX7_image 8 = .ok (.new 8, 3) := by decide +kernel
theorem dX7_image_11 : decode cX7_image 11 = .ok (.dup, 1) := by decide +kernel
theorem dX7_image_12 : decode cX7_image 12 = .ok (.invokespecial 333, 3) := by decide +kernel
theorem dX7_image_15 : decode cX7_image 15 = .ok (.putfield 338, 3) := by decide +kernel
theorem dX7_image_18 : decode cX7_image 18 = .ok (.aload_n 0, 1) := by decide +kernel
theorem dX7_image_19 : decode cX7_image 19 = .ok (.getfield 338, 3) := by decide +kernel
theorem dX7_image_22 : decode cX7_image 22 = .ok (.aload_n 0, 1) := by decide +kernel
theorem dX7_image_23 : decode cX7_image 23 = .ok (.invokevirtual 243, 3) := by decide +kernel
theorem dX7_image_26 : decode cX7_image 26 = .ok (.iconst 1, 1) := by decide +kernel
theorem dX7_image_27 : decode cX7_image 27 = .ok (.ireturn, 1) := by decide +kernel
set_option maxRecDepth 20000 in
theorem ggX7_back_X7_refuse : GoodIn wsX7_back wsX7_refuse := goodIn_r _ [9, 10, 28, 29, 30, 31, 32, 33, 34, 35, 36, 37, 38, 39, 40, 41, 42, 43, 44, 45, 46, 47, 48, 49, 50, 51, 52, 53, 54, 55, 56, 57, 58, 59, 60] (by decide +kernel) (by decide +kernel)
set_option maxRecDepth 20000 in
theorem gX7_back_X7_refuse : GoodIn wsX7_back (wsV RX7 94 RX7 yX7_refuse wsX7_refuse) := goodIn_app (goodIn_of _ (by decide +kernel)) ggX7_back_X7_refuse
set_option maxRecDepth 20000 in
theorem ggX7_back_X7_takeFrom : GoodIn wsX7_back wsX7_takeFrom := goodIn_r _ [14, 15, 4, 16, 17, 18, 19, 20, 21, 22, 23, 24, 25, 26, 8, 27, 28, 29, 30, 31, 32, 33, 34, 35, 36, 37, 38, 39, 40, 41, 42, 43, 44, 45, 46, 47, 48, 49, 50, 51, 52, 53, 54, 55, 56, 57, 58, 59, 60] (by decide +kernel) (by decide +kernel)
set_option maxRecDepth 20000 in
theorem gX7_back_X7_takeFrom : GoodIn wsX7_back (wsV RX7 243 RX7 yX7_takeFrom wsX7_takeFrom) := goodIn_app (goodIn_of _ (by decide +kernel)) ggX7_back_X7_takeFrom
theorem dX7_back_0 : decode cX7_back 0 = .ok (.aload_n 0, 1) := by decide +kernel
theorem dX7_back_1 : decode cX7_back 1 = .ok (.getfield 338, 3) := by decide +kernel
theorem dX7_back_4 : decode cX7_back 4 = .ok (.ifnonnull 10, 3) := by decide +kernel
theorem dX7_back_7 : decode cX7_back 7 = .ok (.aload_n 0, 1) := by decide +kernel
theorem dX7_back_8 : decode cX7_back 8 = .ok (.bipush (-5), 2) := by decide +kernel
theorem dX7_back_10 : decode cX7_back 10 = .ok (.invokevirtual 94, 3) := by decide +kernel
theorem dX7_back_13 : decode cX7_back 13 = .ok (.ireturn, 1) := by decide +kernel
theorem dX7_back_14 : decode cX7_back 14 = .ok (.aload_n 0, 1) := by decide +kernel
theorem dX7_back_15 : decode cX7_back 15 = .ok (.aload_n 0, 1) := by decide +kernel
theorem dX7_back_16 : decode cX7_back 16 = .ok (.getfield 338, 3) := by decide +kernel
theorem dX7_back_19 : decode cX7_back 19 = .ok (.invokevirtual 243, 3) := by decide +kernel
theorem dX7_back_22 : decode cX7_back 22 = .ok (.iconst 0, 1) := by decide +kernel
theorem dX7_back_23 : decode cX7_back 23 = .ok (.istore_n 1, 1) := by decide +kernel
theorem dX7_back_24 : decode cX7_back 24 = .ok (.iload_n 1, 1) := by decide +kernel
theorem dX7_back_25 : decode cX7_back 25 = .ok (.bipush 8, 2) := by decide +kernel
theorem dX7_back_27 : decode cX7_back 27 = .ok (.if_icmp .ge 39, 3) := by decide +kernel
theorem dX7_back_30 : decode cX7_back 30 = .ok (.aload_n 0, 1) := by decide +kernel
theorem dX7_back_31 : decode cX7_back 31 = .ok (.getfield 7, 3) := by decide +kernel
theorem dX7_back_34 : decode cX7_back 34 = .ok (.iload_n 1, 1) := by decide +kernel
theorem dX7_back_35 : decode cX7_back 35 = .ok (.iaload, 1) := by decide +kernel
theorem dX7_back_36 : decode cX7_back 36 = .ok (.iconst 2, 1) := by decide +kernel
theorem dX7_back_37 : decode cX7_back 37 = .ok (.if_icmp .ne 23, 3) := by decide +kernel
theorem dX7_back_40 : decode cX7_back 40 = .ok (.aload_n 0, 1) := by decide +kernel
theorem dX7_back_41 : decode cX7_back 41 = .ok (.getfield 28, 3) := by decide +kernel
theorem dX7_back_44 : decode cX7_back 44 = .ok (.iload_n 1, 1) := by decide +kernel
theorem dX7_back_45 : decode cX7_back 45 = .ok (.iaload, 1) := by decide +kernel
theorem dX7_back_46 : decode cX7_back 46 = .ok (.aload_n 0, 1) := by decide +kernel
theorem dX7_back_47 : decode cX7_back 47 = .ok (.getfield 77, 3) := by decide +kernel
theorem dX7_back_50 : decode cX7_back 50 = .ok (.if_icmp .lt 10, 3) := by decide +kernel
theorem dX7_back_53 : decode cX7_back 53 = .ok (.aload_n 0, 1) := by decide +kernel
theorem dX7_back_54 : decode cX7_back 54 = .ok (.getfield 7, 3) := by decide +kernel
theorem dX7_back_57 : decode cX7_back 57 = .ok (.iload_n 1, 1) := by decide +kernel
theorem dX7_back_58 : decode cX7_back 58 = .ok (.iconst 0, 1) := by decide +kernel
theorem dX7_back_59 : decode cX7_back 59 = .ok (.iastore, 1) := by decide +kernel
theorem dX7_back_60 : decode cX7_back 60 = .ok (.iinc 1 1, 3) := by decide +kernel
theorem dX7_back_63 : decode cX7_back 63 = .ok (.goto (-39), 3) := by decide +kernel
theorem dX7_back_66 : decode cX7_back 66 = .ok (.iconst 1, 1) := by decide +kernel
theorem dX7_back_67 : decode cX7_back 67 = .ok (.ireturn, 1) := by decide +kernel
set_option maxRecDepth 20000 in
theorem ggX7_status_X7_knownNow : GoodIn wsX7_status wsX7_knownNow := goodIn_r _ [15, 2, 16, 17, 18, 14, 19, 20, 21, 22, 23, 24, 25, 37, 38, 39, 40, 41, 42, 43, 44, 45, 46, 47, 48, 49, 50, 51, 52, 53, 54, 55, 56, 57, 58, 59, 60, 61, 62, 63, 64, 65, 66, 67, 68, 69] (by decide +kernel) (by decide +kernel)
set_option maxRecDepth 20000 in
theorem gX7_status_X7_knownNow : GoodIn wsX7_status (wsV RX7 257 RX7 yX7_knownNow wsX7_knownNow) := goodIn_app (goodIn_of _ (by decide +kernel)) ggX7_status_X7_knownNow
set_option maxRecDepth 20000 in
theorem ggX7_status_X7_pairsNow : GoodIn wsX7_status wsX7_pairsNow := goodIn_r _ [29, 2, 30, 31, 32, 14, 33, 37, 38, 39, 40, 41, 42, 43, 44, 45, 46, 47, 48, 49, 50, 51, 52, 53, 54, 55, 56, 57, 58, 59, 60, 61, 62, 63, 64, 65, 66, 67, 68, 69] (by decide +kernel) (by decide +kernel)
set_option maxRecDepth 20000 in
theorem gX7_status_X7_pairsNow : GoodIn wsX7_status (wsV RX7 293 RX7 yX7_pairsNow wsX7_pairsNow) := goodIn_app (goodIn_of _ (by decide +kernel)) ggX7_status_X7_pairsNow
set_option maxRecDepth 20000 in
theorem ggX7_status_X7_in : GoodIn wsX7_status wsX7_in := goodIn_r _ [36] (by decide +kernel) (by decide +kernel)
set_option maxRecDepth 20000 in
theorem gX7_status_X7_in : GoodIn wsX7_status (va_wsS RX7 80 yX7_in wsX7_in) := goodIn_app (goodIn_of _ (by decide +kernel)) ggX7_status_X7_in
theorem dX7_status_0 : decode cX7_status 0 = .ok (.iconst 0, 1) := by decide +kernel
theorem dX7_status_1 : decode cX7_status 1 = .ok (.istore_n 2, 1) := by decide +kernel
theorem dX7_status_2 : decode cX7_status 2 = .ok (.iload_n 1, 1) := by decide +kernel
theorem dX7_status_3 : decode cX7_status 3 = .ok (.tableswitch 134 0 10 #[57, 62, 67, 67, 67, 76, 81, 86, 91, 124, 129], 57) := by decide +kernel
theorem dX7_status_60 : decode cX7_status 60 = .ok (.aload_n 0, 1) := by decide +kernel
theorem dX7_status_61 : decode cX7_status 61 = .ok (.getfield 37, 3) := by decide +kernel
theorem dX7_status_64 : decode cX7_status 64 = .ok (.ireturn, 1) := by decide +kernel
theorem dX7_status_65 : decode cX7_status 65 = .ok (.aload_n 0, 1) := by decide +kernel
theorem dX7_status_66 : decode cX7_status 66 = .ok (.getfield 77, 3) := by decide +kernel
theorem dX7_status_69 : decode cX7_status 69 = .ok (.ireturn, 1) := by decide +kernel
theorem dX7_status_70 : decode cX7_status 70 = .ok (.aload_n 0, 1) := by decide +kernel
theorem dX7_status_71 : decode cX7_status 71 = .ok (.getfield 59, 3) := by decide +kernel
theorem dX7_status_74 : decode cX7_status 74 = .ok (.iload_n 1, 1) := by decide +kernel
theorem dX7_status_75 : decode cX7_status 75 = .ok (.iconst 2, 1) := by decide +kernel
theorem dX7_status_76 : decode cX7_status 76 = .ok (.isub, 1) := by decide +kernel
theorem dX7_status_77 : decode cX7_status 77 = .ok (.iaload, 1) := by decide +kernel
theorem dX7_status_78 : decode cX7_status 78 = .ok (.ireturn, 1) := by decide +kernel
theorem dX7_status_79 : decode cX7_status 79 = .ok (.aload_n 0, 1) := by decide +kernel
theorem dX7_status_80 : decode cX7_status 80 = .ok (.getfield 326, 3) := by decide +kernel
theorem dX7_status_83 : decode cX7_status 83 = .ok (.ireturn, 1) := by decide +kernel
theorem dX7_status_84 : decode cX7_status 84 = .ok (.aload_n 0, 1) := by decide +kernel
theorem dX7_status_85 : decode cX7_status 85 = .ok (.getfield 152, 3) := by decide +kernel
theorem dX7_status_88 : decode cX7_status 88 = .ok (.ireturn, 1) := by decide +kernel
theorem dX7_status_89 : decode cX7_status 89 = .ok (.aload_n 0, 1) := by decide +kernel
theorem dX7_status_90 : decode cX7_status 90 = .ok (.getfield 62, 3) := by decide +kernel
theorem dX7_status_93 : decode cX7_status 93 = .ok (.ireturn, 1) := by decide +kernel
theorem dX7_status_94 : decode cX7_status 94 = .ok (.iconst 0, 1) := by decide +kernel
theorem dX7_status_95 : decode cX7_status 95 = .ok (.istore_n 3, 1) := by decide +kernel
theorem dX7_status_96 : decode cX7_status 96 = .ok (.iload_n 3, 1) := by decide +kernel
theorem dX7_status_97 : decode cX7_status 97 = .ok (.bipush 8, 2) := by decide +kernel
theorem dX7_status_99 : decode cX7_status 99 = .ok (.if_icmp .ge 26, 3) := by decide +kernel
theorem dX7_status_102 : decode cX7_status 102 = .ok (.iload_n 2, 1) := by decide +kernel
theorem dX7_status_103 : decode cX7_status 103 = .ok (.aload_n 0, 1) := by decide +kernel
theorem dX7_status_104 : decode cX7_status 104 = .ok (.getfield 7, 3) := by decide +kernel
theorem dX7_status_107 : decode cX7_status 107 = .ok (.iload_n 3, 1) := by decide +kernel
theorem dX7_status_108 : decode cX7_status 108 = .ok (.iaload, 1) := by decide +kernel
theorem dX7_status_109 : decode cX7_status 109 = .ok (.ifCond .eq 7, 3) := by decide +kernel
theorem dX7_status_112 : decode cX7_status 112 = .ok (.iconst 1, 1) := by decide +kernel
theorem dX7_status_113 : decode cX7_status 113 = .ok (.goto 4, 3) := by decide +kernel
theorem dX7_status_116 : decode cX7_status 116 = .ok (.iconst 0, 1) := by decide +kernel
theorem dX7_status_117 : decode cX7_status 117 = .ok (.iadd, 1) := by decide +kernel
theorem dX7_status_118 : decode cX7_status 118 = .ok (.istore_n 2, 1) := by decide +kernel
theorem dX7_status_119 : decode cX7_status 119 = .ok (.iinc 3 1, 3) := by decide +kernel
theorem dX7_status_122 : decode cX7_status 122 = .ok (.goto (-26), 3) := by decide +kernel
theorem dX7_status_125 : decode cX7_status 125 = .ok (.iload_n 2, 1) := by decide +kernel
theorem dX7_status_126 : decode cX7_status 126 = .ok (.ireturn, 1) := by decide +kernel
theorem dX7_status_127 : decode cX7_status 127 = .ok (.aload_n 0, 1) := by decide +kernel
theorem dX7_status_128 : decode cX7_status 128 = .ok (.invokevirtual 257, 3) := by decide +kernel
theorem dX7_status_131 : decode cX7_status 131 = .ok (.ireturn, 1) := by decide +kernel
theorem dX7_status_132 : decode cX7_status 132 = .ok (.aload_n 0, 1) := by decide +kernel
theorem dX7_status_133 : decode cX7_status 133 = .ok (.invokevirtual 293, 3) := by decide +kernel
theorem dX7_status_136 : decode cX7_status 136 = .ok (.ireturn, 1) := by decide +kernel
theorem dX7_status_137 : decode cX7_status 137 = .ok (.iload_n 1, 1) := by decide +kernel
theorem dX7_status_138 : decode cX7_status 138 = .ok (.i2l, 1) := by decide +kernel
theorem dX7_status_139 : decode cX7_status 139 = .ok (.ldc2_w 341, 3) := by decide +kernel
theorem dX7_status_142 : decode cX7_status 142 = .ok (.ldc2_w 343, 3) := by decide +kernel
theorem dX7_status_145 : decode cX7_status 145 = .ok (.invokestatic 80, 3) := by decide +kernel
theorem dX7_status_148 : decode cX7_status 148 = .ok (.ifCond .eq 15, 3) := by decide +kernel
theorem dX7_status_151 : decode cX7_status 151 = .ok (.aload_n 0, 1) := by decide +kernel
theorem dX7_status_152 : decode cX7_status 152 = .ok (.getfield 34, 3) := by decide +kernel
theorem dX7_status_155 : decode cX7_status 155 = .ok (.iload_n 1, 1) := by decide +kernel
theorem dX7_status_156 : decode cX7_status 156 = .ok (.bipush 10, 2) := by decide +kernel
theorem dX7_status_158 : decode cX7_status 158 = .ok (.isub, 1) := by decide +kernel
theorem dX7_status_159 : decode cX7_status 159 = .ok (.iaload, 1) := by decide +kernel
theorem dX7_status_160 : decode cX7_status 160 = .ok (.goto 4, 3) := by decide +kernel
theorem dX7_status_163 : decode cX7_status 163 = .ok (.iconst (-1), 1) := by decide +kernel
theorem dX7_status_164 : decode cX7_status 164 = .ok (.ireturn, 1) := by decide +kernel
theorem dJ6_bitCount_0f7a4_0 : decode cJ6_bitCount_0f7a4 0 = .ok (.iload_n 0, 1) := by decide +kernel
theorem dJ6_bitCount_0f7a4_1 : decode cJ6_bitCount_0f7a4 1 = .ok (.iload_n 0, 1) := by decide +kernel
theorem dJ6_bitCount_0f7a4_2 : decode cJ6_bitCount_0f7a4 2 = .ok (.iconst 1, 1) := by decide +kernel
theorem dJ6_bitCount_0f7a4_3 : decode cJ6_bitCount_0f7a4 3 = .ok (.iushr, 1) := by decide +kernel
theorem dJ6_bitCount_0f7a4_4 : decode cJ6_bitCount_0f7a4 4 = .ok (.ldc_w 265, 3) := by decide +kernel
theorem dJ6_bitCount_0f7a4_7 : decode cJ6_bitCount_0f7a4 7 = .ok (.iand, 1) := by decide +kernel
theorem dJ6_bitCount_0f7a4_8 : decode cJ6_bitCount_0f7a4 8 = .ok (.isub, 1) := by decide +kernel
theorem dJ6_bitCount_0f7a4_9 : decode cJ6_bitCount_0f7a4 9 = .ok (.istore_n 0, 1) := by decide +kernel
theorem dJ6_bitCount_0f7a4_10 : decode cJ6_bitCount_0f7a4 10 = .ok (.iload_n 0, 1) := by decide +kernel
theorem dJ6_bitCount_0f7a4_11 : decode cJ6_bitCount_0f7a4 11 = .ok (.ldc_w 266, 3) := by decide +kernel
theorem dJ6_bitCount_0f7a4_14 : decode cJ6_bitCount_0f7a4 14 = .ok (.iand, 1) := by decide +kernel
theorem dJ6_bitCount_0f7a4_15 : decode cJ6_bitCount_0f7a4 15 = .ok (.iload_n 0, 1) := by decide +kernel
theorem dJ6_bitCount_0f7a4_16 : decode cJ6_bitCount_0f7a4 16 = .ok (.iconst 2, 1) := by decide +kernel
theorem dJ6_bitCount_0f7a4_17 : decode cJ6_bitCount_0f7a4 17 = .ok (.iushr, 1) := by decide +kernel
theorem dJ6_bitCount_0f7a4_18 : decode cJ6_bitCount_0f7a4 18 = .ok (.ldc_w 266, 3) := by decide +kernel
theorem dJ6_bitCount_0f7a4_21 : decode cJ6_bitCount_0f7a4 21 = .ok (.iand, 1) := by decide +kernel
theorem dJ6_bitCount_0f7a4_22 : decode cJ6_bitCount_0f7a4 22 = .ok (.iadd, 1) := by decide +kernel
theorem dJ6_bitCount_0f7a4_23 : decode cJ6_bitCount_0f7a4 23 = .ok (.istore_n 0, 1) := by decide +kernel
theorem dJ6_bitCount_0f7a4_24 : decode cJ6_bitCount_0f7a4 24 = .ok (.iload_n 0, 1) := by decide +kernel
theorem dJ6_bitCount_0f7a4_25 : decode cJ6_bitCount_0f7a4 25 = .ok (.iload_n 0, 1) := by decide +kernel
theorem dJ6_bitCount_0f7a4_26 : decode cJ6_bitCount_0f7a4 26 = .ok (.iconst 4, 1) := by decide +kernel
theorem dJ6_bitCount_0f7a4_27 : decode cJ6_bitCount_0f7a4 27 = .ok (.iushr, 1) := by decide +kernel
theorem dJ6_bitCount_0f7a4_28 : decode cJ6_bitCount_0f7a4 28 = .ok (.iadd, 1) := by decide +kernel
theorem dJ6_bitCount_0f7a4_29 : decode cJ6_bitCount_0f7a4 29 = .ok (.ldc_w 267, 3) := by decide +kernel
theorem dJ6_bitCount_0f7a4_32 : decode cJ6_bitCount_0f7a4 32 = .ok (.iand, 1) := by decide +kernel
theorem dJ6_bitCount_0f7a4_33 : decode cJ6_bitCount_0f7a4 33 = .ok (.istore_n 0, 1) := by decide +kernel
theorem dJ6_bitCount_0f7a4_34 : decode cJ6_bitCount_0f7a4 34 = .ok (.iload_n 0, 1) := by decide +kernel
theorem dJ6_bitCount_0f7a4_35 : decode cJ6_bitCount_0f7a4 35 = .ok (.iload_n 0, 1) := by decide +kernel
theorem dJ6_bitCount_0f7a4_36 : decode cJ6_bitCount_0f7a4 36 = .ok (.bipush 8, 2) := by decide +kernel
theorem dJ6_bitCount_0f7a4_38 : decode cJ6_bitCount_0f7a4 38 = .ok (.iushr, 1) := by decide +kernel
theorem dJ6_bitCount_0f7a4_39 : decode cJ6_bitCount_0f7a4 39 = .ok (.iadd, 1) := by decide +kernel
theorem dJ6_bitCount_0f7a4_40 : decode cJ6_bitCount_0f7a4 40 = .ok (.istore_n 0, 1) := by decide +kernel
theorem dJ6_bitCount_0f7a4_41 : decode cJ6_bitCount_0f7a4 41 = .ok (.iload_n 0, 1) := by decide +kernel
theorem dJ6_bitCount_0f7a4_42 : decode cJ6_bitCount_0f7a4 42 = .ok (.iload_n 0, 1) := by decide +kernel
theorem dJ6_bitCount_0f7a4_43 : decode cJ6_bitCount_0f7a4 43 = .ok (.bipush 16, 2) := by decide +kernel
theorem dJ6_bitCount_0f7a4_45 : decode cJ6_bitCount_0f7a4 45 = .ok (.iushr, 1) := by decide +kernel
theorem dJ6_bitCount_0f7a4_46 : decode cJ6_bitCount_0f7a4 46 = .ok (.iadd, 1) := by decide +kernel
theorem dJ6_bitCount_0f7a4_47 : decode cJ6_bitCount_0f7a4 47 = .ok (.istore_n 0, 1) := by decide +kernel
theorem dJ6_bitCount_0f7a4_48 : decode cJ6_bitCount_0f7a4 48 = .ok (.iload_n 0, 1) := by decide +kernel
theorem dJ6_bitCount_0f7a4_49 : decode cJ6_bitCount_0f7a4 49 = .ok (.bipush 63, 2) := by decide +kernel
theorem dJ6_bitCount_0f7a4_51 : decode cJ6_bitCount_0f7a4 51 = .ok (.iand, 1) := by decide +kernel
theorem dJ6_bitCount_0f7a4_52 : decode cJ6_bitCount_0f7a4 52 = .ok (.ireturn, 1) := by decide +kernel
set_option maxRecDepth 20000 in
theorem ggJ0_length_8abf5_J0_coder_7d493 : GoodIn wsJ0_length_8abf5 wsJ0_coder_7d493 := goodIn_r _ [6, 7, 8] (by decide +kernel) (by decide +kernel)
set_option maxRecDepth 20000 in
theorem gJ0_length_8abf5_J0_coder_7d493 : GoodIn wsJ0_length_8abf5 (wsV RJ0 335 RJ0 yJ0_coder_7d493 wsJ0_coder_7d493) := goodIn_app (goodIn_of _ (by decide +kernel)) ggJ0_length_8abf5_J0_coder_7d493
theorem dJ0_length_8abf5_0 : decode cJ0_length_8abf5 0 = .ok (.aload_n 0, 1) := by decide +kernel
theorem dJ0_length_8abf5_1 : decode cJ0_length_8abf5 1 = .ok (.getfield 9, 3) := by decide +kernel
theorem dJ0_length_8abf5_4 : decode cJ0_length_8abf5 4 = .ok (.arraylength, 1) := by decide +kernel
theorem dJ0_length_8abf5_5 : decode cJ0_length_8abf5 5 = .ok (.aload_n 0, 1) := by decide +kernel
theorem dJ0_length_8abf5_6 : decode cJ0_length_8abf5 6 = .ok (.invokevirtual 335, 3) := by decide +kernel
theorem dJ0_length_8abf5_9 : decode cJ0_length_8abf5 9 = .ok (.ishr, 1) := by decide +kernel
theorem dJ0_length_8abf5_10 : decode cJ0_length_8abf5 10 = .ok (.ireturn, 1) := by decide +kernel
set_option maxRecDepth 20000 in
theorem ggJ0_charAt_5068e_J0_isLatin1_aae02 : GoodIn wsJ0_charAt_5068e wsJ0_isLatin1_aae02 := goodIn_r _ [6, 7, 8] (by decide +kernel) (by decide +kernel)
set_option maxRecDepth 20000 in
theorem gJ0_charAt_5068e_J0_isLatin1_aae02 : GoodIn wsJ0_charAt_5068e (wsV RJ0 492 RJ0 yJ0_isLatin1_aae02 wsJ0_isLatin1_aae02) := goodIn_app (goodIn_of _ (by decide +kernel)) ggJ0_charAt_5068e_J0_isLatin1_aae02
set_option maxRecDepth 20000 in
theorem ggJ0_charAt_5068e_J1_charAt_3b067 : GoodIn wsJ0_charAt_5068e wsJ1_charAt_3b067 := goodIn_r _ [12, 13, 14, 5, 15, 16, 17, 18, 19, 20] (by decide +kernel) (by decide +kernel)
set_option maxRecDepth 20000 in
theorem gJ0_charAt_5068e_J1_charAt_3b067 : GoodIn wsJ0_charAt_5068e (va_wsS RJ0 495 yJ1_charAt_3b067 wsJ1_charAt_3b067) := goodIn_app (goodIn_of _ (by decide +kernel)) ggJ0_charAt_5068e_J1_charAt_3b067
set_option maxRecDepth 20000 in
theorem ggJ0_charAt_5068e_J2_charAt_3b067 : GoodIn wsJ0_charAt_5068e wsJ2_charAt_3b067 := goodIn_r _ [24, 25, 26, 23, 27, 28, 29, 30, 31, 14, 5, 15, 16, 17, 18, 19, 20, 32, 33, 34, 35, 36, 37] (by decide +kernel) (by decide +kernel)
set_option maxRecDepth 20000 in
theorem gJ0_charAt_5068e_J2_charAt_3b067 : GoodIn wsJ0_charAt_5068e (va_wsS RJ0 498 yJ2_charAt_3b067 wsJ2_charAt_3b067) := goodIn_app (goodIn_of _ (by decide +kernel)) ggJ0_charAt_5068e_J2_charAt_3b067
theorem dJ0_charAt_5068e_0 : decode cJ0_charAt_5068e 0 = .ok (.aload_n 0, 1) := by decide +kernel
theorem dJ0_charAt_5068e_1 : decode cJ0_charAt_5068e 1 = .ok (.invokevirtual 492, 3) := by decide +kernel
theorem dJ0_charAt_5068e_4 : decode cJ0_charAt_5068e 4 = .ok (.ifCond .eq 12, 3) := by decide +kernel
theorem dJ0_charAt_5068e_7 : decode cJ0_charAt_5068e 7 = .ok (.aload_n 0, 1) := by decide +kernel
theorem dJ0_charAt_5068e_8 : decode cJ0_charAt_5068e 8 = .ok (.getfield 9, 3) := by decide +kernel
theorem dJ0_charAt_5068e_11 : decode cJ0_charAt_5068e 11 = .ok (.iload_n 1, 1) := by decide +kernel
theorem dJ0_charAt_5068e_12 : decode cJ0_charAt_5068e 12 = .ok (.invokestatic 495, 3) := by decide +kernel
theorem dJ0_charAt_5068e_15 : decode cJ0_charAt_5068e 15 = .ok (.ireturn, 1) := by decide +kernel
theorem dJ0_charAt_5068e_16 : decode cJ0_charAt_5068e 16 = .ok (.aload_n 0, 1) := by decide +kernel
theorem dJ0_charAt_5068e_17 : decode cJ0_charAt_5068e 17 = .ok (.getfield 9, 3) := by decide +kernel
theorem dJ0_charAt_5068e_20 : decode cJ0_charAt_5068e 20 = .ok (.iload_n 1, 1) := by decide +kernel
theorem dJ0_charAt_5068e_21 : decode cJ0_charAt_5068e 21 = .ok (.invokestatic 498, 3) := by decide +kernel
theorem dJ0_charAt_5068e_24 : decode cJ0_charAt_5068e 24 = .ok (.ireturn, 1) := by decide +kernel
theorem dJ0_coder_7d493_0 : decode cJ0_coder_7d493 0 = .ok (.getstatic 38, 3) := by decide +kernel
theorem dJ0_coder_7d493_3 : decode cJ0_coder_7d493 3 = .ok (.ifCond .eq 10, 3) := by decide +kernel
theorem dJ0_coder_7d493_6 : decode cJ0_coder_7d493 6 = .ok (.aload_n 0, 1) := by decide +kernel
theorem dJ0_coder_7d493_7 : decode cJ0_coder_7d493 7 = .ok (.getfield 15, 3) := by decide +kernel
theorem dJ0_coder_7d493_10 : decode cJ0_coder_7d493 10 = .ok (.goto 4, 3) := by decide +kernel
theorem dJ0_coder_7d493_13 : decode cJ0_coder_7d493 13 = .ok (.iconst 1, 1) := by decide +kernel
theorem dJ0_coder_7d493_14 : decode cJ0_coder_7d493 14 = .ok (.ireturn, 1) := by decide +kernel
theorem dJ0_isLatin1_aae02_0 : decode cJ0_isLatin1_aae02 0 = .ok (.getstatic 38, 3) := by decide +kernel
theorem dJ0_isLatin1_aae02_3 : decode cJ0_isLatin1_aae02 3 = .ok (.ifCond .eq 14, 3) := by decide +kernel
theorem dJ0_isLatin1_aae02_6 : decode cJ0_isLatin1_aae02 6 = .ok (.aload_n 0, 1) := by decide +kernel
theorem dJ0_isLatin1_aae02_7 : decode cJ0_isLatin1_aae02 7 = .ok (.getfield 15, 3) := by decide +kernel
theorem dJ0_isLatin1_aae02_10 : decode cJ0_isLatin1_aae02 10 = .ok (.ifCond .ne 7, 3) := by decide +kernel
theorem dJ0_isLatin1_aae02_13 : decode cJ0_isLatin1_aae02 13 = .ok (.iconst 1, 1) := by decide +kernel
theorem dJ0_isLatin1_aae02_14 : decode cJ0_isLatin1_aae02 14 = .ok (.goto 4, 3) := by decide +kernel
theorem dJ0_isLatin1_aae02_17 : decode cJ0_isLatin1_aae02 17 = .ok (.iconst 0, 1) := by decide +kernel
theorem dJ0_isLatin1_aae02_18 : decode cJ0_isLatin1_aae02 18 = .ok (.ireturn, 1) := by decide +kernel
set_option maxRecDepth 20000 in
theorem ggJ0_checkIndex_df160_J3_checkIndex_8e157 : GoodIn wsJ0_checkIndex_df160 wsJ3_checkIndex_8e157 := goodIn_r _ [5] (by decide +kernel) (by decide +kernel)
set_option maxRecDepth 20000 in
theorem gJ0_checkIndex_df160_J3_checkIndex_8e157 : GoodIn wsJ0_checkIndex_df160 (va_wsS RJ0 1059 yJ3_checkIndex_8e157 wsJ3_checkIndex_8e157) := goodIn_app (goodIn_of _ (by decide +kernel)) ggJ0_checkIndex_df160_J3_checkIndex_8e157
theorem dJ0_checkIndex_df160_0 : decode cJ0_checkIndex_df160 0 = .ok (.iload_n 0, 1) := by decide +kernel
theorem dJ0_checkIndex_df160_1 : decode cJ0_checkIndex_df160 1 = .ok (.iload_n 1, 1) := by decide +kernel
theorem dJ0_checkIndex_df160_2 : decode cJ0_checkIndex_df160 2 = .ok (.getstatic 1053, 3) := by decide +kernel
theorem dJ0_checkIndex_df160_5 : decode cJ0_checkIndex_df160 5 = .ok (.invokestatic 1059, 3) := by decide +kernel
theorem dJ0_checkIndex_df160_8 : decode cJ0_checkIndex_df160 8 = .ok (.pop, 1) := by decide +kernel
theorem dJ0_checkIndex_df160_9 : decode cJ0_checkIndex_df160 9 = .ok (.return_, 1) := by decide +kernel
set_option maxRecDepth 20000 in
theorem ggJ1_charAt_3b067_J0_checkIndex_df160 : GoodIn wsJ1_charAt_3b067 wsJ0_checkIndex_df160 := goodIn_r _ [4, 5, 6, 7, 8, 9] (by decide +kernel) (by decide +kernel)
set_option maxRecDepth 20000 in
theorem gJ1_charAt_3b067_J0_checkIndex_df160 : GoodIn wsJ1_charAt_3b067 (va_wsS RJ1 9 yJ0_checkIndex_df160 wsJ0_checkIndex_df160) := goodIn_app (goodIn_of _ (by decide +kernel)) ggJ1_charAt_3b067_J0_checkIndex_df160
theorem dJ1_charAt_3b067_0 : decode cJ1_charAt_3b067 0 = .ok (.iload_n 1, 1) := by decide +kernel
theorem dJ1_charAt_3b067_1 : decode cJ1_charAt_3b067 1 = .ok (.aload_n 0, 1) := by decide +kernel
theorem dJ1_charAt_3b067_2 : decode cJ1_charAt_3b067 2 = .ok (.arraylength, 1) := by decide +kernel
theorem dJ1_charAt_3b067_3 : decode cJ1_charAt_3b067 3 = .ok (.invokestatic 9, 3) := by decide +kernel
theorem dJ1_charAt_3b067_6 : decode cJ1_charAt_3b067 6 = .ok (.aload_n 0, 1) := by decide +kernel
theorem dJ1_charAt_3b067_7 : decode cJ1_charAt_3b067 7 = .ok (.iload_n 1, 1) := by decide +kernel
theorem dJ1_charAt_3b067_8 : decode cJ1_charAt_3b067 8 = .ok (.baload, 1) := by decide +kernel
theorem dJ1_charAt_3b067_9 : decode cJ1_charAt_3b067 9 = .ok (.sipush 255, 3) := by decide +kernel
theorem dJ1_charAt_3b067_12 : decode cJ1_charAt_3b067 12 = .ok (.iand, 1) := by decide +kernel
theorem dJ1_charAt_3b067_13 : decode cJ1_charAt_3b067 13 = .ok (.i2c, 1) := by decide +kernel
theorem dJ1_charAt_3b067_14 : decode cJ1_charAt_3b067 14 = .ok (.ireturn, 1) := by decide +kernel
set_option maxRecDepth 20000 in
theorem ggJ2_getChar_3b067_J2_length_9d52b : GoodIn wsJ2_getChar_3b067 wsJ2_length_9d52b := goodIn_r _ [7] (by decide +kernel) (by decide +kernel)
set_option maxRecDepth 20000 in
theorem gJ2_getChar_3b067_J2_length_9d52b : GoodIn wsJ2_getChar_3b067 (va_wsS RJ2 48 yJ2_length_9d52b wsJ2_length_9d52b) := goodIn_app (goodIn_of _ (by decide +kernel)) ggJ2_getChar_3b067_J2_length_9d52b
theorem dJ2_getChar_3b067_0 : decode cJ2_getChar_3b067 0 = .ok (.getstatic 44, 3) := by decide +kernel
theorem dJ2_getChar_3b067_3 : decode cJ2_getChar_3b067 3 = .ok (.ifCond .ne 25, 3) := by decide +kernel
theorem dJ2_getChar_3b067_6 : decode cJ2_getChar_3b067 6 = .ok (.iload_n 1, 1) := by decide +kernel
theorem dJ2_getChar_3b067_7 : decode cJ2_getChar_3b067 7 = .ok (.ifCond .lt 11, 3) := by decide +kernel
theorem dJ2_getChar_3b067_10 : decode cJ2_getChar_3b067 10 = .ok (.iload_n 1, 1) := by decide +kernel
theorem dJ2_getChar_3b067_11 : decode cJ2_getChar_3b067 11 = .ok (.aload_n 0, 1) := by decide +kernel
theorem dJ2_getChar_3b067_12 : decode cJ2_getChar_3b067 12 = .ok (.invokestatic 48, 3) := by decide +kernel
theorem dJ2_getChar_3b067_15 : decode cJ2_getChar_3b067 15 = .ok (.if_icmp .lt 13, 3) := by decide +kernel
theorem dJ2_getChar_3b067_18 : decode cJ2_getChar_3b067 18 = .ok (.new 52, 3) := by decide +kernel
theorem dJ2_getChar_3b067_21 : decode cJ2_getChar_3b067 21 = .ok (.dup, 1) := by decide +kernel
theorem dJ2_getChar_3b067_22 : decode cJ2_getChar_3b067 22 = .ok (.ldc 54, 2) := by decide +kernel
theorem dJ2_getChar_3b067_24 : decode cJ2_getChar_3b067 24 = .ok (.invokespecial 56, 3) := by decide +kernel
theorem dJ2_getChar_3b067_27 : decode cJ2_getChar_3b067 27 = .ok (.athrow, 1) := by decide +kernel
theorem dJ2_getChar_3b067_28 : decode cJ2_getChar_3b067 28 = .ok (.iload_n 1, 1) := by decide +kernel
theorem dJ2_getChar_3b067_29 : decode cJ2_getChar_3b067 29 = .ok (.iconst 1, 1) := by decide +kernel
theorem dJ2_getChar_3b067_30 : decode cJ2_getChar_3b067 30 = .ok (.ishl, 1) := by decide +kernel
theorem dJ2_getChar_3b067_31 : decode cJ2_getChar_3b067 31 = .ok (.istore_n 1, 1) := by decide +kernel
theorem dJ2_getChar_3b067_32 : decode cJ2_getChar_3b067 32 = .ok (.aload_n 0, 1) := by decide +kernel
theorem dJ2_getChar_3b067_33 : decode cJ2_getChar_3b067 33 = .ok (.iload_n 1, 1) := by decide +kernel
theorem dJ2_getChar_3b067_34 : decode cJ2_getChar_3b067 34 = .ok (.iinc 1 1, 3) := by decide +kernel
theorem dJ2_getChar_3b067_37 : decode cJ2_getChar_3b067 37 = .ok (.baload, 1) := by decide +kernel
theorem dJ2_getChar_3b067_38 : decode cJ2_getChar_3b067 38 = .ok (.sipush 255, 3) := by decide +kernel
theorem dJ2_getChar_3b067_41 : decode cJ2_getChar_3b067 41 = .ok (.iand, 1) := by decide +kernel
theorem dJ2_getChar_3b067_42 : decode cJ2_getChar_3b067 42 = .ok (.getstatic 59, 3) := by decide +kernel
theorem dJ2_getChar_3b067_45 : decode cJ2_getChar_3b067 45 = .ok (.ishl, 1) := by decide +kernel
theorem dJ2_getChar_3b067_46 : decode cJ2_getChar_3b067 46 = .ok (.aload_n 0, 1) := by decide +kernel
theorem dJ2_getChar_3b067_47 : decode cJ2_getChar_3b067 47 = .ok (.iload_n 1, 1) := by decide +kernel
theorem dJ2_getChar_3b067_48 : decode cJ2_getChar_3b067 48 = .ok (.baload, 1) := by decide +kernel
theorem dJ2_getChar_3b067_49 : decode cJ2_getChar_3b067 49 = .ok (.sipush 255, 3) := by decide +kernel
theorem dJ2_getChar_3b067_52 : decode cJ2_getChar_3b067 52 = .ok (.iand, 1) := by decide +kernel
theorem dJ2_getChar_3b067_53 : decode cJ2_getChar_3b067 53 = .ok (.getstatic 63, 3) := by decide +kernel
theorem dJ2_getChar_3b067_56 : decode cJ2_getChar_3b067 56 = .ok (.ishl, 1) := by decide +kernel
theorem dJ2_getChar_3b067_57 : decode cJ2_getChar_3b067 57 = .ok (.ior, 1) := by decide +kernel
theorem dJ2_getChar_3b067_58 : decode cJ2_getChar_3b067 58 = .ok (.i2c, 1) := by decide +kernel
theorem dJ2_getChar_3b067_59 : decode cJ2_getChar_3b067 59 = .ok (.ireturn, 1) := by decide +kernel
theorem dJ2_length_9d52b_0 : decode cJ2_length_9d52b 0 = .ok (.aload_n 0, 1) := by decide +kernel
theorem dJ2_length_9d52b_1 : decode cJ2_length_9d52b 1 = .ok (.arraylength, 1) := by decide +kernel
theorem dJ2_length_9d52b_2 : decode cJ2_length_9d52b 2 = .ok (.iconst 1, 1) := by decide +kernel
theorem dJ2_length_9d52b_3 : decode cJ2_length_9d52b 3 = .ok (.ishr, 1) := by decide +kernel
theorem dJ2_length_9d52b_4 : decode cJ2_length_9d52b 4 = .ok (.ireturn, 1) := by decide +kernel
set_option maxRecDepth 20000 in
theorem ggJ2_charAt_3b067_J2_checkIndex_2214a : GoodIn wsJ2_charAt_3b067 wsJ2_checkIndex_2214a := goodIn_r _ [4, 5, 6, 3, 7, 8, 9, 10, 11, 12, 13, 14, 15, 16] (by decide +kernel) (by decide +kernel)
set_option maxRecDepth 20000 in
theorem gJ2_charAt_3b067_J2_checkIndex_2214a : GoodIn wsJ2_charAt_3b067 (va_wsS RJ2 67 yJ2_checkIndex_2214a wsJ2_checkIndex_2214a) := goodIn_app (goodIn_of _ (by decide +kernel)) ggJ2_charAt_3b067_J2_checkIndex_2214a
set_option maxRecDepth 20000 in
theorem ggJ2_charAt_3b067_J2_getChar_3b067 : GoodIn wsJ2_charAt_3b067 wsJ2_getChar_3b067 := goodIn_r _ [19, 20, 21, 22, 5, 6, 3, 7] (by decide +kernel) (by decide +kernel)
set_option maxRecDepth 20000 in
theorem gJ2_charAt_3b067_J2_getChar_3b067 : GoodIn wsJ2_charAt_3b067 (va_wsS RJ2 71 yJ2_getChar_3b067 wsJ2_getChar_3b067) := goodIn_app (goodIn_of _ (by decide +kernel)) ggJ2_charAt_3b067_J2_getChar_3b067
theorem dJ2_charAt_3b067_0 : decode cJ2_charAt_3b067 0 = .ok (.iload_n 1, 1) := by decide +kernel
theorem dJ2_charAt_3b067_1 : decode cJ2_charAt_3b067 1 = .ok (.aload_n 0, 1) := by decide +kernel
theorem dJ2_charAt_3b067_2 : decode cJ2_charAt_3b067 2 = .ok (.invokestatic 67, 3) := by decide +kernel
theorem dJ2_charAt_3b067_5 : decode cJ2_charAt_3b067 5 = .ok (.aload_n 0, 1) := by decide +kernel
theorem dJ2_charAt_3b067_6 : decode cJ2_charAt_3b067 6 = .ok (.iload_n 1, 1) := by decide +kernel
theorem dJ2_charAt_3b067_7 : decode cJ2_charAt_3b067 7 = .ok (.invokestatic 71, 3) := by decide +kernel
theorem dJ2_charAt_3b067_10 : decode cJ2_charAt_3b067 10 = .ok (.ireturn, 1) := by decide +kernel
set_option maxRecDepth 20000 in
theorem ggJ2_checkIndex_2214a_J2_length_9d52b : GoodIn wsJ2_checkIndex_2214a wsJ2_length_9d52b := goodIn_r _ [4] (by decide +kernel) (by decide +kernel)
set_option maxRecDepth 20000 in
theorem gJ2_checkIndex_2214a_J2_length_9d52b : GoodIn wsJ2_checkIndex_2214a (va_wsS RJ2 48 yJ2_length_9d52b wsJ2_length_9d52b) := goodIn_app (goodIn_of _ (by decide +kernel)) ggJ2_checkIndex_2214a_J2_length_9d52b
set_option maxRecDepth 20000 in
theorem ggJ2_checkIndex_2214a_J0_checkIndex_df160 : GoodIn wsJ2_checkIndex_2214a wsJ0_checkIndex_df160 := goodIn_r _ [8, 9, 10, 11, 12, 13] (by decide +kernel) (by decide +kernel)
set_option maxRecDepth 20000 in
theorem gJ2_checkIndex_2214a_J0_checkIndex_df160 : GoodIn wsJ2_checkIndex_2214a (va_wsS RJ2 414 yJ0_checkIndex_df160 wsJ0_checkIndex_df160) := goodIn_app (goodIn_of _ (by decide +kernel)) ggJ2_checkIndex_2214a_J0_checkIndex_df160
theorem dJ2_checkIndex_2214a_0 : decode cJ2_checkIndex_2214a 0 = .ok (.iload_n 0, 1) := by decide +kernel
theorem dJ2_checkIndex_2214a_1 : decode cJ2_checkIndex_2214a 1 = .ok (.aload_n 1, 1) := by decide +kernel
theorem dJ2_checkIndex_2214a_2 : decode cJ2_checkIndex_2214a 2 = .ok (.invokestatic 48, 3) := by decide +kernel
theorem dJ2_checkIndex_2214a_5 : decode cJ2_checkIndex_2214a 5 = .ok (.invokestatic 414, 3) := by decide +kernel
theorem dJ2_checkIndex_2214a_8 : decode cJ2_checkIndex_2214a 8 = .ok (.return_, 1) := by decide +kernel
theorem dJ3_checkIndex_8e157_0 : decode cJ3_checkIndex_8e157 0 = .ok (.iload_n 0, 1) := by decide +kernel
theorem dJ3_checkIndex_8e157_1 : decode cJ3_checkIndex_8e157 1 = .ok (.ifCond .lt 8, 3) := by decide +kernel
theorem dJ3_checkIndex_8e157_4 : decode cJ3_checkIndex_8e157 4 = .ok (.iload_n 0, 1) := by decide +kernel
theorem dJ3_checkIndex_8e157_5 : decode cJ3_checkIndex_8e157 5 = .ok (.iload_n 1, 1) := by decide +kernel
theorem dJ3_checkIndex_8e157_6 : decode cJ3_checkIndex_8e157 6 = .ok (.if_icmp .lt 10, 3) := by decide +kernel
theorem dJ3_checkIndex_8e157_9 : decode cJ3_checkIndex_8e157 9 = .ok (.aload_n 2, 1) := by decide +kernel
theorem dJ3_checkIndex_8e157_10 : decode cJ3_checkIndex_8e157 10 = .ok (.iload_n 0, 1) := by decide +kernel
theorem dJ3_checkIndex_8e157_11 : decode cJ3_checkIndex_8e157 11 = .ok (.iload_n 1, 1) := by decide +kernel
theorem dJ3_checkIndex_8e157_12 : decode cJ3_checkIndex_8e157 12 = .ok (.invokestatic 95, 3) := by decide +kernel
theorem dJ3_checkIndex_8e157_15 : decode cJ3_checkIndex_8e157 15 = .ok (.athrow, 1) := by decide +kernel
theorem dJ3_checkIndex_8e157_16 : decode cJ3_checkIndex_8e157 16 = .ok (.iload_n 0, 1) := by decide +kernel
theorem dJ3_checkIndex_8e157_17 : decode cJ3_checkIndex_8e157 17 = .ok (.ireturn, 1) := by decide +kernel
abbrev vwCl : List vw_C := [(RX0, TX0, 3), (RX1, TX1, 7), (RX2, TX2, 2), (RX3, TX3, 3), (RX4, TX4, 6), (RX5, TX5, 14), (RX6, TX6, 10), (RX7, TX7, 33)]
