set_option maxRecDepth 20000 in
theorem gX5_hearersOf_X6_with_n61 : GoodIn wsX5_hearersOf (wsX6_with) := ggX5_hearersOf_X6_with
theorem dX5_hearersOf_0 : decode cX5_hearersOf 0 = .ok (.iconst 0, 1) := by decide +kernel
theorem dX5_hearersOf_1 : decode cX5_hearersOf 1 = .ok (.istore_n 2, 1) := by decide +kernel
theorem dX5_hearersOf_2 : decode cX5_hearersOf 2 = .ok (.iconst 0, 1) := by decide +kernel
theorem dX5_hearersOf_3 : decode cX5_hearersOf 3 = .ok (.istore_n 3, 1) := by decide +kernel
theorem dX5_hearersOf_4 : decode cX5_hearersOf 4 = .ok (.iload_n 3, 1) := by decide +kernel
theorem dX5_hearersOf_5 : decode cX5_hearersOf 5 = .ok (.aload_n 0, 1) := by decide +kernel
theorem dX5_hearersOf_6 : decode cX5_hearersOf 6 = .ok (.getfield 15, 3) := by decide +kernel
theorem dX5_hearersOf_9 : decode cX5_hearersOf 9 = .ok (.if_icmp .ge 31, 3) := by decide +kernel
theorem dX5_hearersOf_12 : decode cX5_hearersOf 12 = .ok (.iload_n 2, 1) := by decide +kernel
theorem dX5_hearersOf_13 : decode cX5_hearersOf 13 = .ok (.iload_n 3, 1) := by decide +kernel
theorem dX5_hearersOf_14 : decode cX5_hearersOf 14 = .ok (.aload_n 0, 1) := by decide +kernel
theorem dX5_hearersOf_15 : decode cX5_hearersOf 15 = .ok (.getfield 43, 3) := by decide +kernel
theorem dX5_hearersOf_18 : decode cX5_hearersOf 18 = .ok (.iload_n 3, 1) := by decide +kernel
theorem dX5_hearersOf_19 : decode cX5_hearersOf 19 = .ok (.iaload, 1) := by decide +kernel
theorem dX5_hearersOf_20 : decode cX5_hearersOf 20 = .ok (.iload_n 1, 1) := by decide +kernel
theorem dX5_hearersOf_21 : decode cX5_hearersOf 21 = .ok (.iand, 1) := by decide +kernel
theorem dX5_hearersOf_22 : decode cX5_hearersOf 22 = .ok (.ifCond .eq 7, 3) := by decide +kernel
theorem dX5_hearersOf_25 : decode cX5_hearersOf 25 = .ok (.iconst 1, 1) := by decide +kernel
theorem dX5_hearersOf_26 : decode cX5_hearersOf 26 = .ok (.goto 4, 3) := by decide +kernel
theorem dX5_hearersOf_29 : decode cX5_hearersOf 29 = .ok (.iconst 0, 1) := by decide +kernel
theorem dX5_hearersOf_30 : decode cX5_hearersOf 30 = .ok (.invokestatic 61, 3) := by decide +kernel
theorem dX5_hearersOf_33 : decode cX5_hearersOf 33 = .ok (.istore_n 2, 1) := by decide +kernel
theorem dX5_hearersOf_34 : decode cX5_hearersOf 34 = .ok (.iinc 3 1, 3) := by decide +kernel
theorem dX5_hearersOf_37 : decode cX5_hearersOf 37 = .ok (.goto (-33), 3) := by decide +kernel
theorem dX5_hearersOf_40 : decode cX5_hearersOf 40 = .ok (.iload_n 2, 1) := by decide +kernel
theorem dX5_hearersOf_41 : decode cX5_hearersOf 41 = .ok (.ireturn, 1) := by decide +kernel
set_option maxRecDepth 20000 in
theorem ggX5_sayingsBetween_X5_whoIsBarred : GoodIn wsX5_sayingsBetween wsX5_whoIsBarred := goodIn_r _ [6, 1, 7, 8, 9, 5, 10, 11, 12, 13, 14, 15, 16, 17, 18, 24, 25, 26, 27, 28, 29, 30, 31, 32, 33, 34, 35, 36, 37] (by decide +kernel) (by decide +kernel)
set_option maxRecDepth 20000 in
theorem gX5_sayingsBetween_X5_whoIsBarred : GoodIn wsX5_sayingsBetween (wsV RX5 101 RX5 yX5_whoIsBarred wsX5_whoIsBarred) := goodIn_app (goodIn_of _ (by decide +kernel)) ggX5_sayingsBetween_X5_whoIsBarred
set_option maxRecDepth 20000 in
theorem ggX5_sayingsBetween_X6_has : GoodIn wsX5_sayingsBetween wsX6_has := goodIn_r _ [16] (by decide +kernel) (by decide +kernel)
set_option maxRecDepth 20000 in
theorem gX5_sayingsBetween_X6_has_n65 : GoodIn wsX5_sayingsBetween (wsX6_has) := ggX5_sayingsBetween_X6_has
set_option maxRecDepth 20000 in
theorem ggX5_sayingsBetween_X5_hearersOf : GoodIn wsX5_sayingsBetween wsX5_hearersOf := goodIn_r _ [22, 1, 23, 17, 15, 18, 24, 25, 26, 27, 28, 29, 30, 31, 32, 33, 34, 35, 36, 37] (by decide +kernel) (by decide +kernel)
set_option maxRecDepth 20000 in
theorem gX5_sayingsBetween_X5_hearersOf : GoodIn wsX5_sayingsBetween (wsV RX5 104 RX5 yX5_hearersOf wsX5_hearersOf) := goodIn_app (goodIn_of _ (by decide +kernel)) ggX5_sayingsBetween_X5_hearersOf
theorem dX5_sayingsBetween_0 : decode cX5_sayingsBetween 0 = .ok (.aload_n 0, 1) := by decide +kernel
theorem dX5_sayingsBetween_1 : decode cX5_sayingsBetween 1 = .ok (.iload_n 3, 1) := by decide +kernel
theorem dX5_sayingsBetween_2 : decode cX5_sayingsBetween 2 = .ok (.invokevirtual 101, 3) := by decide +kernel
theorem dX5_sayingsBetween_5 : decode cX5_sayingsBetween 5 = .ok (.istore 4, 2) := by decide +kernel
theorem dX5_sayingsBetween_7 : decode cX5_sayingsBetween 7 = .ok (.iconst 1, 1) := by decide +kernel
theorem dX5_sayingsBetween_8 : decode cX5_sayingsBetween 8 = .ok (.iload_n 1, 1) := by decide +kernel
theorem dX5_sayingsBetween_9 : decode cX5_sayingsBetween 9 = .ok (.ishl, 1) := by decide +kernel
theorem dX5_sayingsBetween_10 : decode cX5_sayingsBetween 10 = .ok (.istore 5, 2) := by decide +kernel
theorem dX5_sayingsBetween_12 : decode cX5_sayingsBetween 12 = .ok (.iload 5, 2) := by decide +kernel
theorem dX5_sayingsBetween_14 : decode cX5_sayingsBetween 14 = .ok (.istore 6, 2) := by decide +kernel
theorem dX5_sayingsBetween_16 : decode cX5_sayingsBetween 16 = .ok (.iconst 0, 1) := by decide +kernel
theorem dX5_sayingsBetween_17 : decode cX5_sayingsBetween 17 = .ok (.istore 7, 2) := by decide +kernel
theorem dX5_sayingsBetween_19 : decode cX5_sayingsBetween 19 = .ok (.iload 7, 2) := by decide +kernel
theorem dX5_sayingsBetween_21 : decode cX5_sayingsBetween 21 = .ok (.aload_n 0, 1) := by decide +kernel
theorem dX5_sayingsBetween_22 : decode cX5_sayingsBetween 22 = .ok (.getfield 15, 3) := by decide +kernel
theorem dX5_sayingsBetween_25 : decode cX5_sayingsBetween 25 = .ok (.if_icmp .ge 50, 3) := by decide +kernel
theorem dX5_sayingsBetween_28 : decode cX5_sayingsBetween 28 = .ok (.iload 5, 2) := by decide +kernel
theorem dX5_sayingsBetween_30 : decode cX5_sayingsBetween 30 = .ok (.iload_n 2, 1) := by decide +kernel
theorem dX5_sayingsBetween_31 : decode cX5_sayingsBetween 31 = .ok (.invokestatic 65, 3) := by decide +kernel
theorem dX5_sayingsBetween_34 : decode cX5_sayingsBetween 34 = .ok (.ifCond .eq 6, 3) := by decide +kernel
theorem dX5_sayingsBetween_37 : decode cX5_sayingsBetween 37 = .ok (.iload 7, 2) := by decide +kernel
theorem dX5_sayingsBetween_39 : decode cX5_sayingsBetween 39 = .ok (.ireturn, 1) := by decide +kernel
theorem dX5_sayingsBetween_40 : decode cX5_sayingsBetween 40 = .ok (.aload_n 0, 1) := by decide +kernel
theorem dX5_sayingsBetween_41 : decode cX5_sayingsBetween 41 = .ok (.iload 6, 2) := by decide +kernel
theorem dX5_sayingsBetween_43 : decode cX5_sayingsBetween 43 = .ok (.invokevirtual 104, 3) := by decide +kernel
theorem dX5_sayingsBetween_46 : decode cX5_sayingsBetween 46 = .ok (.iload 5, 2) := by decide +kernel
theorem dX5_sayingsBetween_48 : decode cX5_sayingsBetween 48 = .ok (.iconst (-1), 1) := by decide +kernel
theorem dX5_sayingsBetween_49 : decode cX5_sayingsBetween 49 = .ok (.ixor, 1) := by decide +kernel
theorem dX5_sayingsBetween_50 : decode cX5_sayingsBetween 50 = .ok (.iand, 1) := by decide +kernel
theorem dX5_sayingsBetween_51 : decode cX5_sayingsBetween 51 = .ok (.istore 8, 2) := by decide +kernel
theorem dX5_sayingsBetween_53 : decode cX5_sayingsBetween 53 = .ok (.iload 5, 2) := by decide +kernel
theorem dX5_sayingsBetween_55 : decode cX5_sayingsBetween 55 = .ok (.iload 8, 2) := by decide +kernel
theorem dX5_sayingsBetween_57 : decode cX5_sayingsBetween 57 = .ok (.ior, 1) := by decide +kernel
theorem dX5_sayingsBetween_58 : decode cX5_sayingsBetween 58 = .ok (.istore 5, 2) := by decide +kernel
theorem dX5_sayingsBetween_60 : decode cX5_sayingsBetween 60 = .ok (.iload 8, 2) := by decide +kernel
theorem dX5_sayingsBetween_62 : decode cX5_sayingsBetween 62 = .ok (.iload 4, 2) := by decide +kernel
theorem dX5_sayingsBetween_64 : decode cX5_sayingsBetween 64 = .ok (.iconst (-1), 1) := by decide +kernel
theorem dX5_sayingsBetween_65 : decode cX5_sayingsBetween 65 = .ok (.ixor, 1) := by decide +kernel
theorem dX5_sayingsBetween_66 : decode cX5_sayingsBetween 66 = .ok (.iand, 1) := by decide +kernel
theorem dX5_sayingsBetween_67 : decode cX5_sayingsBetween 67 = .ok (.istore 6, 2) := by decide +kernel
theorem dX5_sayingsBetween_69 : decode cX5_sayingsBetween 69 = .ok (.iinc 7 1, 3) := by decide +kernel
theorem dX5_sayingsBetween_72 : decode cX5_sayingsBetween 72 = .ok (.goto (-53), 3) := by decide +kernel
theorem dX5_sayingsBetween_75 : decode cX5_sayingsBetween 75 = .ok (.iconst (-1), 1) := by decide +kernel
theorem dX5_sayingsBetween_76 : decode cX5_sayingsBetween 76 = .ok (.ireturn, 1) := by decide +kernel
set_option maxRecDepth 20000 in
theorem ggX5_tell_X6_has : GoodIn wsX5_tell wsX6_has := goodIn_r _ [6] (by decide +kernel) (by decide +kernel)
set_option maxRecDepth 20000 in
theorem gX5_tell_X6_has_n65 : GoodIn wsX5_tell (wsX6_has) := ggX5_tell_X6_has
set_option maxRecDepth 20000 in
theorem ggX5_tell_J6_bitCount_0f7a4 : GoodIn wsX5_tell wsJ6_bitCount_0f7a4 := goodIn_r _ [10, 11, 12, 13] (by decide +kernel) (by decide +kernel)
set_option maxRecDepth 20000 in
theorem gX5_tell_J6_bitCount_0f7a4 : GoodIn wsX5_tell (va_wsS RX5 76 yJ6_bitCount_0f7a4 wsJ6_bitCount_0f7a4) := goodIn_app (goodIn_of _ (by decide +kernel)) ggX5_tell_J6_bitCount_0f7a4
theorem dX5_tell_0 : decode cX5_tell 0 = .ok (.iconst 0, 1) := by decide +kernel
theorem dX5_tell_1 : decode cX5_tell 1 = .ok (.istore_n 3, 1) := by decide +kernel
theorem dX5_tell_2 : decode cX5_tell 2 = .ok (.iconst 0, 1) := by decide +kernel
theorem dX5_tell_3 : decode cX5_tell 3 = .ok (.istore 4, 2) := by decide +kernel
theorem dX5_tell_5 : decode cX5_tell 5 = .ok (.iload 4, 2) := by decide +kernel
theorem dX5_tell_7 : decode cX5_tell 7 = .ok (.aload_n 0, 1) := by decide +kernel
theorem dX5_tell_8 : decode cX5_tell 8 = .ok (.getfield 15, 3) := by decide +kernel
theorem dX5_tell_11 : decode cX5_tell 11 = .ok (.if_icmp .ge 51, 3) := by decide +kernel
theorem dX5_tell_14 : decode cX5_tell 14 = .ok (.aload_n 0, 1) := by decide +kernel
theorem dX5_tell_15 : decode cX5_tell 15 = .ok (.getfield 43, 3) := by decide +kernel
theorem dX5_tell_18 : decode cX5_tell 18 = .ok (.iload 4, 2) := by decide +kernel
theorem dX5_tell_20 : decode cX5_tell 20 = .ok (.iaload, 1) := by decide +kernel
theorem dX5_tell_21 : decode cX5_tell 21 = .ok (.iload_n 1, 1) := by decide +kernel
theorem dX5_tell_22 : decode cX5_tell 22 = .ok (.invokestatic 65, 3) := by decide +kernel
theorem dX5_tell_25 : decode cX5_tell 25 = .ok (.ifCond .eq 31, 3) := by decide +kernel
theorem dX5_tell_28 : decode cX5_tell 28 = .ok (.iload_n 3, 1) := by decide +kernel
theorem dX5_tell_29 : decode cX5_tell 29 = .ok (.iload_n 2, 1) := by decide +kernel
theorem dX5_tell_30 : decode cX5_tell 30 = .ok (.aload_n 0, 1) := by decide +kernel
theorem dX5_tell_31 : decode cX5_tell 31 = .ok (.getfield 40, 3) := by decide +kernel
theorem dX5_tell_34 : decode cX5_tell 34 = .ok (.iload 4, 2) := by decide +kernel
theorem dX5_tell_36 : decode cX5_tell 36 = .ok (.iaload, 1) := by decide +kernel
theorem dX5_tell_37 : decode cX5_tell 37 = .ok (.iconst (-1), 1) := by decide +kernel
theorem dX5_tell_38 : decode cX5_tell 38 = .ok (.ixor, 1) := by decide +kernel
theorem dX5_tell_39 : decode cX5_tell 39 = .ok (.iand, 1) := by decide +kernel
theorem dX5_tell_40 : decode cX5_tell 40 = .ok (.invokestatic 76, 3) := by decide +kernel
theorem dX5_tell_43 : decode cX5_tell 43 = .ok (.iadd, 1) := by decide +kernel
theorem dX5_tell_44 : decode cX5_tell 44 = .ok (.istore_n 3, 1) := by decide +kernel
theorem dX5_tell_45 : decode cX5_tell 45 = .ok (.aload_n 0, 1) := by decide +kernel
theorem dX5_tell_46 : decode cX5_tell 46 = .ok (.getfield 40, 3) := by decide +kernel
theorem dX5_tell_49 : decode cX5_tell 49 = .ok (.iload 4, 2) := by decide +kernel
theorem dX5_tell_51 : decode cX5_tell 51 = .ok (.dup2, 1) := by decide +kernel
theorem dX5_tell_52 : decode cX5_tell 52 = .ok (.iaload, 1) := by decide +kernel
theorem dX5_tell_53 : decode cX5_tell 53 = .ok (.iload_n 2, 1) := by decide +kernel
theorem dX5_tell_54 : decode cX5_tell 54 = .ok (.ior, 1) := by decide +kernel
theorem dX5_tell_55 : decode cX5_tell 55 = .ok (.iastore, 1) := by decide +kernel
theorem dX5_tell_56 : decode cX5_tell 56 = .ok (.iinc 4 1, 3) := by decide +kernel
theorem dX5_tell_59 : decode cX5_tell 59 = .ok (.goto (-54), 3) := by decide +kernel
theorem dX5_tell_62 : decode cX5_tell 62 = .ok (.iload_n 3, 1) := by decide +kernel
theorem dX5_tell_63 : decode cX5_tell 63 = .ok (.ireturn, 1) := by decide +kernel
set_option maxRecDepth 20000 in
theorem ggX5_passRound_X5_sayableBy : GoodIn wsX5_passRound wsX5_sayableBy := goodIn_r _ [7, 8, 9, 10, 11, 12, 13, 6, 14, 15, 16, 17, 18, 19, 20, 21, 22, 23, 24, 25, 26, 1, 27, 28, 29, 30, 49, 50, 51, 52, 53, 54, 55, 56, 57, 58, 59, 60, 61, 62] (by decide +kernel) (by decide +kernel)
set_option maxRecDepth 20000 in
theorem gX5_passRound_X5_sayableBy : GoodIn wsX5_passRound (wsV RX5 84 RX5 yX5_sayableBy wsX5_sayableBy) := goodIn_app (goodIn_of _ (by decide +kernel)) ggX5_passRound_X5_sayableBy
set_option maxRecDepth 20000 in
theorem ggX5_passRound_X5_tell : GoodIn wsX5_passRound wsX5_tell := goodIn_r _ [34, 1, 27, 9, 35, 29, 36, 37, 38, 39, 40, 41, 42, 43, 49, 50, 51, 52, 53, 54, 55, 56, 57, 58, 59, 60, 61, 62] (by decide +kernel) (by decide +kernel)
set_option maxRecDepth 20000 in
theorem gX5_passRound_X5_tell : GoodIn wsX5_passRound (wsV RX5 107 RX5 yX5_tell wsX5_tell) := goodIn_app (goodIn_of _ (by decide +kernel)) ggX5_passRound_X5_tell
set_option maxRecDepth 20000 in
theorem ggX5_passRound_X5_passSigns : GoodIn wsX5_passRound wsX5_passSigns := goodIn_r _ [47, 1, 48, 27, 16, 9, 35, 29, 36, 28, 30, 37, 38, 39, 40, 41, 42, 43, 49, 50, 51, 52, 53, 54, 55, 56, 57, 58, 59, 60, 61, 62] (by decide +kernel) (by decide +kernel)
set_option maxRecDepth 20000 in
theorem gX5_passRound_X5_passSigns : GoodIn wsX5_passRound (wsV RX5 110 RX5 yX5_passSigns wsX5_passSigns) := goodIn_app (goodIn_of _ (by decide +kernel)) ggX5_passRound_X5_passSigns
theorem dX5_passRound_0 : decode cX5_passRound 0 = .ok (.iconst 0, 1) := by decide +kernel
theorem dX5_passRound_1 : decode cX5_passRound 1 = .ok (.istore_n 1, 1) := by decide +kernel
theorem dX5_passRound_2 : decode cX5_passRound 2 = .ok (.iload_n 1, 1) := by decide +kernel
theorem dX5_passRound_3 : decode cX5_passRound 3 = .ok (.aload_n 0, 1) := by decide +kernel
theorem dX5_passRound_4 : decode cX5_passRound 4 = .ok (.getfield 15, 3) := by decide +kernel
theorem dX5_passRound_7 : decode cX5_passRound 7 = .ok (.if_icmp .ge 20, 3) := by decide +kernel
theorem dX5_passRound_10 : decode cX5_passRound 10 = .ok (.aload_n 0, 1) := by decide +kernel
theorem dX5_passRound_11 : decode cX5_passRound 11 = .ok (.getfield 52, 3) := by decide +kernel
theorem dX5_passRound_14 : decode cX5_passRound 14 = .ok (.iload_n 1, 1) := by decide +kernel
theorem dX5_passRound_15 : decode cX5_passRound 15 = .ok (.aload_n 0, 1) := by decide +kernel
theorem dX5_passRound_16 : decode cX5_passRound 16 = .ok (.iload_n 1, 1) := by decide +kernel
theorem dX5_passRound_17 : decode cX5_passRound 17 = .ok (.invokevirtual 84, 3) := by decide +kernel
theorem dX5_passRound_20 : decode cX5_passRound 20 = .ok (.iastore, 1) := by decide +kernel
theorem dX5_passRound_21 : decode cX5_passRound 21 = .ok (.iinc 1 1, 3) := by decide +kernel
theorem dX5_passRound_24 : decode cX5_passRound 24 = .ok (.goto (-22), 3) := by decide +kernel
theorem dX5_passRound_27 : decode cX5_passRound 27 = .ok (.iconst 0, 1) := by decide +kernel
theorem dX5_passRound_28 : decode cX5_passRound 28 = .ok (.istore_n 1, 1) := by decide +kernel
theorem dX5_passRound_29 : decode cX5_passRound 29 = .ok (.iconst 0, 1) := by decide +kernel
theorem dX5_passRound_30 : decode cX5_passRound 30 = .ok (.istore_n 2, 1) := by decide +kernel
theorem dX5_passRound_31 : decode cX5_passRound 31 = .ok (.iload_n 2, 1) := by decide +kernel
theorem dX5_passRound_32 : decode cX5_passRound 32 = .ok (.aload_n 0, 1) := by decide +kernel
theorem dX5_passRound_33 : decode cX5_passRound 33 = .ok (.getfield 15, 3) := by decide +kernel
theorem dX5_passRound_36 : decode cX5_passRound 36 = .ok (.if_icmp .ge 23, 3) := by decide +kernel
theorem dX5_passRound_39 : decode cX5_passRound 39 = .ok (.iload_n 1, 1) := by decide +kernel
theorem dX5_passRound_40 : decode cX5_passRound 40 = .ok (.aload_n 0, 1) := by decide +kernel
theorem dX5_passRound_41 : decode cX5_passRound 41 = .ok (.iload_n 2, 1) := by decide +kernel
theorem dX5_passRound_42 : decode cX5_passRound 42 = .ok (.aload_n 0, 1) := by decide +kernel
theorem dX5_passRound_43 : decode cX5_passRound 43 = .ok (.getfield 52, 3) := by decide +kernel
theorem dX5_passRound_46 : decode cX5_passRound 46 = .ok (.iload_n 2, 1) := by decide +kernel
theorem dX5_passRound_47 : decode cX5_passRound 47 = .ok (.iaload, 1) := by decide +kernel
theorem dX5_passRound_48 : decode cX5_passRound 48 = .ok (.invokevirtual 107, 3) := by decide +kernel
theorem dX5_passRound_51 : decode cX5_passRound 51 = .ok (.iadd, 1) := by decide +kernel
theorem dX5_passRound_52 : decode cX5_passRound 52 = .ok (.istore_n 1, 1) := by decide +kernel
theorem dX5_passRound_53 : decode cX5_passRound 53 = .ok (.iinc 2 1, 3) := by decide +kernel
theorem dX5_passRound_56 : decode cX5_passRound 56 = .ok (.goto (-25), 3) := by decide +kernel
theorem dX5_passRound_59 : decode cX5_passRound 59 = .ok (.iload_n 1, 1) := by decide +kernel
theorem dX5_passRound_60 : decode cX5_passRound 60 = .ok (.aload_n 0, 1) := by decide +kernel
theorem dX5_passRound_61 : decode cX5_passRound 61 = .ok (.invokevirtual 110, 3) := by decide +kernel
theorem dX5_passRound_64 : decode cX5_passRound 64 = .ok (.iadd, 1) := by decide +kernel
theorem dX5_passRound_65 : decode cX5_passRound 65 = .ok (.ifCond .le 7, 3) := by decide +kernel
theorem dX5_passRound_68 : decode cX5_passRound 68 = .ok (.iconst 1, 1) := by decide +kernel
theorem dX5_passRound_69 : decode cX5_passRound 69 = .ok (.goto 4, 3) := by decide +kernel
theorem dX5_passRound_72 : decode cX5_passRound 72 = .ok (.iconst 0, 1) := by decide +kernel
theorem dX5_passRound_73 : decode cX5_passRound 73 = .ok (.ireturn, 1) := by decide +kernel
set_option maxRecDepth 20000 in
theorem ggX5_passSigns_X6_has : GoodIn wsX5_passSigns wsX6_has := goodIn_r _ [8] (by decide +kernel) (by decide +kernel)
set_option maxRecDepth 20000 in
theorem gX5_passSigns_X6_has_n65 : GoodIn wsX5_passSigns (wsX6_has) := ggX5_passSigns_X6_has
set_option maxRecDepth 20000 in
theorem ggX5_passSigns_X6_firstBits : GoodIn wsX5_passSigns wsX6_firstBits := goodIn_r _ [10] (by decide +kernel) (by decide +kernel)
set_option maxRecDepth 20000 in
theorem gX5_passSigns_X6_firstBits_n94 : GoodIn wsX5_passSigns (wsX6_firstBits) := ggX5_passSigns_X6_firstBits
set_option maxRecDepth 20000 in
theorem ggX5_passSigns_J6_bitCount_0f7a4 : GoodIn wsX5_passSigns wsJ6_bitCount_0f7a4 := goodIn_r _ [14, 15, 16, 17] (by decide +kernel) (by decide +kernel)
set_option maxRecDepth 20000 in
theorem gX5_passSigns_J6_bitCount_0f7a4 : GoodIn wsX5_passSigns (va_wsS RX5 76 yJ6_bitCount_0f7a4 wsJ6_bitCount_0f7a4) := goodIn_app (goodIn_of _ (by decide +kernel)) ggX5_passSigns_J6_bitCount_0f7a4
theorem dX5_passSigns_0 : decode cX5_passSigns 0 = .ok (.iconst 0, 1) := by decide +kernel
theorem dX5_passSigns_1 : decode cX5_passSigns 1 = .ok (.istore_n 1, 1) := by decide +kernel
theorem dX5_passSigns_2 : decode cX5_passSigns 2 = .ok (.iconst 0, 1) := by decide +kernel
theorem dX5_passSigns_3 : decode cX5_passSigns 3 = .ok (.istore_n 2, 1) := by decide +kernel
theorem dX5_passSigns_4 : decode cX5_passSigns 4 = .ok (.iload_n 2, 1) := by decide +kernel
theorem dX5_passSigns_5 : decode cX5_passSigns 5 = .ok (.aload_n 0, 1) := by decide +kernel
theorem dX5_passSigns_6 : decode cX5_passSigns 6 = .ok (.getfield 15, 3) := by decide +kernel
theorem dX5_passSigns_9 : decode cX5_passSigns 9 = .ok (.if_icmp .ge 91, 3) := by decide +kernel
theorem dX5_passSigns_12 : decode cX5_passSigns 12 = .ok (.iconst 0, 1) := by decide +kernel
theorem dX5_passSigns_13 : decode cX5_passSigns 13 = .ok (.istore_n 3, 1) := by decide +kernel
theorem dX5_passSigns_14 : decode cX5_passSigns 14 = .ok (.iload_n 3, 1) := by decide +kernel
theorem dX5_passSigns_15 : decode cX5_passSigns 15 = .ok (.aload_n 0, 1) := by decide +kernel
theorem dX5_passSigns_16 : decode cX5_passSigns 16 = .ok (.getfield 15, 3) := by decide +kernel
theorem dX5_passSigns_19 : decode cX5_passSigns 19 = .ok (.if_icmp .ge 75, 3) := by decide +kernel
theorem dX5_passSigns_22 : decode cX5_passSigns 22 = .ok (.iload_n 1, 1) := by decide +kernel
theorem dX5_passSigns_23 : decode cX5_passSigns 23 = .ok (.aload_n 0, 1) := by decide +kernel
theorem dX5_passSigns_24 : decode cX5_passSigns 24 = .ok (.getfield 21, 3) := by decide +kernel
theorem dX5_passSigns_27 : decode cX5_passSigns 27 = .ok (.if_icmp .ge 67, 3) := by decide +kernel
theorem dX5_passSigns_30 : decode cX5_passSigns 30 = .ok (.aload_n 0, 1) := by decide +kernel
theorem dX5_passSigns_31 : decode cX5_passSigns 31 = .ok (.getfield 43, 3) := by decide +kernel
theorem dX5_passSigns_34 : decode cX5_passSigns 34 = .ok (.iload_n 3, 1) := by decide +kernel
theorem dX5_passSigns_35 : decode cX5_passSigns 35 = .ok (.iaload, 1) := by decide +kernel
theorem dX5_passSigns_36 : decode cX5_passSigns 36 = .ok (.iload_n 2, 1) := by decide +kernel
theorem dX5_passSigns_37 : decode cX5_passSigns 37 = .ok (.invokestatic 65, 3) := by decide +kernel
theorem dX5_passSigns_40 : decode cX5_passSigns 40 = .ok (.ifCond .eq 48, 3) := by decide +kernel
theorem dX5_passSigns_43 : decode cX5_passSigns 43 = .ok (.aload_n 0, 1) := by decide +kernel
theorem dX5_passSigns_44 : decode cX5_passSigns 44 = .ok (.getfield 33, 3) := by decide +kernel
theorem dX5_passSigns_47 : decode cX5_passSigns 47 = .ok (.iload_n 2, 1) := by decide +kernel
theorem dX5_passSigns_48 : decode cX5_passSigns 48 = .ok (.iaload, 1) := by decide +kernel
theorem dX5_passSigns_49 : decode cX5_passSigns 49 = .ok (.aload_n 0, 1) := by decide +kernel
theorem dX5_passSigns_50 : decode cX5_passSigns 50 = .ok (.getfield 40, 3) := by decide +kernel
theorem dX5_passSigns_53 : decode cX5_passSigns 53 = .ok (.iload_n 3, 1) := by decide +kernel
theorem dX5_passSigns_54 : decode cX5_passSigns 54 = .ok (.iaload, 1) := by decide +kernel
theorem dX5_passSigns_55 : decode cX5_passSigns 55 = .ok (.iconst (-1), 1) := by decide +kernel
theorem dX5_passSigns_56 : decode cX5_passSigns 56 = .ok (.ixor, 1) := by decide +kernel
theorem dX5_passSigns_57 : decode cX5_passSigns 57 = .ok (.iand, 1) := by decide +kernel
theorem dX5_passSigns_58 : decode cX5_passSigns 58 = .ok (.aload_n 0, 1) := by decide +kernel
theorem dX5_passSigns_59 : decode cX5_passSigns 59 = .ok (.getfield 21, 3) := by decide +kernel
theorem dX5_passSigns_62 : decode cX5_passSigns 62 = .ok (.iload_n 1, 1) := by decide +kernel
theorem dX5_passSigns_63 : decode cX5_passSigns 63 = .ok (.isub, 1) := by decide +kernel
theorem dX5_passSigns_64 : decode cX5_passSigns 64 = .ok (.invokestatic 94, 3) := by decide +kernel
theorem dX5_passSigns_67 : decode cX5_passSigns 67 = .ok (.istore 4, 2) := by decide +kernel
theorem dX5_passSigns_69 : decode cX5_passSigns 69 = .ok (.aload_n 0, 1) := by decide +kernel
theorem dX5_passSigns_70 : decode cX5_passSigns 70 = .ok (.getfield 40, 3) := by decide +kernel
theorem dX5_passSigns_73 : decode cX5_passSigns 73 = .ok (.iload_n 3, 1) := by decide +kernel
theorem dX5_passSigns_74 : decode cX5_passSigns 74 = .ok (.dup2, 1) := by decide +kernel
theorem dX5_passSigns_75 : decode cX5_passSigns 75 = .ok (.iaload, 1) := by decide +kernel
theorem dX5_passSigns_76 : decode cX5_passSigns 76 = .ok (.iload 4, 2) := by decide +kernel
theorem dX5_passSigns_78 : decode cX5_passSigns 78 = .ok (.ior, 1) := by decide +kernel
theorem dX5_passSigns_79 : decode cX5_passSigns 79 = .ok (.iastore, 1) := by decide +kernel
theorem dX5_passSigns_80 : decode cX5_passSigns 80 = .ok (.iload_n 1, 1) := by decide +kernel
theorem dX5_passSigns_81 : decode cX5_passSigns 81 = .ok (.iload 4, 2) := by decide +kernel
theorem dX5_passSigns_83 : decode cX5_passSigns 83 = .ok (.invokestatic 76, 3) := by decide +kernel
theorem dX5_passSigns_86 : decode cX5_passSigns 86 = .ok (.iadd, 1) := by decide +kernel
theorem dX5_passSigns_87 : decode cX5_passSigns 87 = .ok (.istore_n 1, 1) := by decide +kernel
theorem dX5_passSigns_88 : decode cX5_passSigns 88 = .ok (.iinc 3 1, 3) := by decide +kernel
theorem dX5_passSigns_91 : decode cX5_passSigns 91 = .ok (.goto (-77), 3) := by decide +kernel
theorem dX5_passSigns_94 : decode cX5_passSigns 94 = .ok (.iinc 2 1, 3) := by decide +kernel
theorem dX5_passSigns_97 : decode cX5_passSigns 97 = .ok (.goto (-93), 3) := by decide +kernel
theorem dX5_passSigns_100 : decode cX5_passSigns 100 = .ok (.iload_n 1, 1) := by decide +kernel
theorem dX5_passSigns_101 : decode cX5_passSigns 101 = .ok (.ireturn, 1) := by decide +kernel
set_option maxRecDepth 20000 in
theorem ggX5_passRounds_X5_passRound : GoodIn wsX5_passRounds wsX5_passRound := goodIn_r _ [5, 6, 7, 8, 9, 10, 4, 11, 12, 13, 14, 15, 16, 17, 18, 19, 20, 21, 22, 23, 24, 25, 26, 27, 28, 29, 30, 31, 32, 33, 34, 35, 36, 37, 38, 39, 40, 41, 42, 43, 44, 45, 46, 47, 48, 49, 50, 51, 52, 53, 54, 55, 56, 57, 58, 59, 60, 61, 62, 63, 64, 65, 66] (by decide +kernel) (by decide +kernel)
set_option maxRecDepth 20000 in
theorem gX5_passRounds_X5_passRound : GoodIn wsX5_passRounds (wsV RX5 113 RX5 yX5_passRound wsX5_passRound) := goodIn_app (goodIn_of _ (by decide +kernel)) ggX5_passRounds_X5_passRound
theorem dX5_passRounds_0 : decode cX5_passRounds 0 = .ok (.iconst 1, 1) := by decide +kernel
theorem dX5_passRounds_1 : decode cX5_passRounds 1 = .ok (.istore_n 2, 1) := by decide +kernel
theorem dX5_passRounds_2 : decode cX5_passRounds 2 = .ok (.iconst 0, 1) := by decide +kernel
theorem dX5_passRounds_3 : decode cX5_passRounds 3 = .ok (.istore_n 3, 1) := by decide +kernel
theorem dX5_passRounds_4 : decode cX5_passRounds 4 = .ok (.iload_n 3, 1) := by decide +kernel
theorem dX5_passRounds_5 : decode cX5_passRounds 5 = .ok (.iload_n 1, 1) := by decide +kernel
theorem dX5_passRounds_6 : decode cX5_passRounds 6 = .ok (.if_icmp .ge 18, 3) := by decide +kernel
theorem dX5_passRounds_9 : decode cX5_passRounds 9 = .ok (.iload_n 2, 1) := by decide +kernel
theorem dX5_passRounds_10 : decode cX5_passRounds 10 = .ok (.ifCond .eq 14, 3) := by decide +kernel
theorem dX5_passRounds_13 : decode cX5_passRounds 13 = .ok (.aload_n 0, 1) := by decide +kernel
theorem dX5_passRounds_14 : decode cX5_passRounds 14 = .ok (.invokevirtual 113, 3) := by decide +kernel
theorem dX5_passRounds_17 : decode cX5_passRounds 17 = .ok (.istore_n 2, 1) := by decide +kernel
theorem dX5_passRounds_18 : decode cX5_passRounds 18 = .ok (.iinc 3 1, 3) := by decide +kernel
theorem dX5_passRounds_21 : decode cX5_passRounds 21 = .ok (.goto (-17), 3) := by decide +kernel
theorem dX5_passRounds_24 : decode cX5_passRounds 24 = .ok (.return_, 1) := by decide +kernel
set_option maxRecDepth 20000 in
theorem ggX5_passNight_X6_firstBits : GoodIn wsX5_passNight wsX6_firstBits := goodIn_r _ [8] (by decide +kernel) (by decide +kernel)
set_option maxRecDepth 20000 in
theorem gX5_passNight_X6_firstBits_n94 : GoodIn wsX5_passNight (wsX6_firstBits) := ggX5_passNight_X6_firstBits
theorem dX5_passNight_0 : decode cX5_passNight 0 = .ok (.aload_n 0, 1) := by decide +kernel
theorem dX5_passNight_1 : decode cX5_passNight 1 = .ok (.dup, 1) := by decide +kernel
theorem dX5_passNight_2 : decode cX5_passNight 2 = .ok (.getfield 27, 3) := by decide +kernel
theorem dX5_passNight_5 : decode cX5_passNight 5 = .ok (.iconst 1, 1) := by decide +kernel
theorem dX5_passNight_6 : decode cX5_passNight 6 = .ok (.iadd, 1) := by decide +kernel
theorem dX5_passNight_7 : decode cX5_passNight 7 = .ok (.putfield 27, 3) := by decide +kernel
theorem dX5_passNight_10 : decode cX5_passNight 10 = .ok (.iconst 0, 1) := by decide +kernel
theorem dX5_passNight_11 : decode cX5_passNight 11 = .ok (.istore_n 1, 1) := by decide +kernel
theorem dX5_passNight_12 : decode cX5_passNight 12 = .ok (.iload_n 1, 1) := by decide +kernel
theorem dX5_passNight_13 : decode cX5_passNight 13 = .ok (.aload_n 0, 1) := by decide +kernel
theorem dX5_passNight_14 : decode cX5_passNight 14 = .ok (.getfield 15, 3) := by decide +kernel
theorem dX5_passNight_17 : decode cX5_passNight 17 = .ok (.if_icmp .ge 56, 3) := by decide +kernel
theorem dX5_passNight_20 : decode cX5_passNight 20 = .ok (.aload_n 0, 1) := by decide +kernel
theorem dX5_passNight_21 : decode cX5_passNight 21 = .ok (.getfield 46, 3) := by decide +kernel
theorem dX5_passNight_24 : decode cX5_passNight 24 = .ok (.iload_n 1, 1) := by decide +kernel
theorem dX5_passNight_25 : decode cX5_passNight 25 = .ok (.iaload, 1) := by decide +kernel
theorem dX5_passNight_26 : decode cX5_passNight 26 = .ok (.iconst 5, 1) := by decide +kernel
theorem dX5_passNight_27 : decode cX5_passNight 27 = .ok (.if_icmp .ne 16, 3) := by decide +kernel
theorem dX5_passNight_30 : decode cX5_passNight 30 = .ok (.aload_n 0, 1) := by decide +kernel
theorem dX5_passNight_31 : decode cX5_passNight 31 = .ok (.getfield 33, 3) := by decide +kernel
theorem dX5_passNight_34 : decode cX5_passNight 34 = .ok (.iload_n 1, 1) := by decide +kernel
theorem dX5_passNight_35 : decode cX5_passNight 35 = .ok (.iaload, 1) := by decide +kernel
theorem dX5_passNight_36 : decode cX5_passNight 36 = .ok (.iconst 1, 1) := by decide +kernel
theorem dX5_passNight_37 : decode cX5_passNight 37 = .ok (.invokestatic 94, 3) := by decide +kernel
theorem dX5_passNight_40 : decode cX5_passNight 40 = .ok (.goto 4, 3) := by decide +kernel
theorem dX5_passNight_43 : decode cX5_passNight 43 = .ok (.iconst 0, 1) := by decide +kernel
theorem dX5_passNight_44 : decode cX5_passNight 44 = .ok (.istore_n 2, 1) := by decide +kernel
theorem dX5_passNight_45 : decode cX5_passNight 45 = .ok (.aload_n 0, 1) := by decide +kernel
theorem dX5_passNight_46 : decode cX5_passNight 46 = .ok (.getfield 33, 3) := by decide +kernel
theorem dX5_passNight_49 : decode cX5_passNight 49 = .ok (.iload_n 1, 1) := by decide +kernel
theorem dX5_passNight_50 : decode cX5_passNight 50 = .ok (.dup2, 1) := by decide +kernel
theorem dX5_passNight_51 : decode cX5_passNight 51 = .ok (.iaload, 1) := by decide +kernel
theorem dX5_passNight_52 : decode cX5_passNight 52 = .ok (.iload_n 2, 1) := by decide +kernel
theorem dX5_passNight_53 : decode cX5_passNight 53 = .ok (.iconst (-1), 1) := by decide +kernel
theorem dX5_passNight_54 : decode cX5_passNight 54 = .ok (.ixor, 1) := by decide +kernel
theorem dX5_passNight_55 : decode cX5_passNight 55 = .ok (.iand, 1) := by decide +kernel
theorem dX5_passNight_56 : decode cX5_passNight 56 = .ok (.iastore, 1) := by decide +kernel
theorem dX5_passNight_57 : decode cX5_passNight 57 = .ok (.aload_n 0, 1) := by decide +kernel
theorem dX5_passNight_58 : decode cX5_passNight 58 = .ok (.getfield 40, 3) := by decide +kernel
theorem dX5_passNight_61 : decode cX5_passNight 61 = .ok (.iload_n 1, 1) := by decide +kernel
theorem dX5_passNight_62 : decode cX5_passNight 62 = .ok (.dup2, 1) := by decide +kernel
theorem dX5_passNight_63 : decode cX5_passNight 63 = .ok (.iaload, 1) := by decide +kernel
theorem dX5_passNight_64 : decode cX5_passNight 64 = .ok (.iload_n 2, 1) := by decide +kernel
theorem dX5_passNight_65 : decode cX5_passNight 65 = .ok (.ior, 1) := by decide +kernel
theorem dX5_passNight_66 : decode cX5_passNight 66 = .ok (.iastore, 1) := by decide +kernel
theorem dX5_passNight_67 : decode cX5_passNight 67 = .ok (.iinc 1 1, 3) := by decide +kernel
theorem dX5_passNight_70 : decode cX5_passNight 70 = .ok (.goto (-58), 3) := by decide +kernel
theorem dX5_passNight_73 : decode cX5_passNight 73 = .ok (.return_, 1) := by decide +kernel
set_option maxRecDepth 20000 in
theorem ggX5_sayByDraws_X5_drawBelow : GoodIn wsX5_sayByDraws wsX5_drawBelow := goodIn_r _ [7, 8, 9, 53, 54, 55, 56, 57, 58, 59, 60, 61, 62, 63, 64, 65, 66] (by decide +kernel) (by decide +kernel)
set_option maxRecDepth 20000 in
theorem gX5_sayByDraws_X5_drawBelow : GoodIn wsX5_sayByDraws (wsV RX5 117 RX5 yX5_drawBelow wsX5_drawBelow) := goodIn_app (goodIn_of _ (by decide +kernel)) ggX5_sayByDraws_X5_drawBelow
set_option maxRecDepth 20000 in
theorem ggX5_sayByDraws_X5_isOne : GoodIn wsX5_sayByDraws wsX5_isOne := goodIn_r _ [13, 1, 53, 54, 55, 56, 57, 58, 59, 60, 61, 62, 63, 64, 65, 66] (by decide +kernel) (by decide +kernel)
set_option maxRecDepth 20000 in
theorem gX5_sayByDraws_X5_isOne : GoodIn wsX5_sayByDraws (wsV RX5 120 RX5 yX5_isOne wsX5_isOne) := goodIn_app (goodIn_of _ (by decide +kernel)) ggX5_sayByDraws_X5_isOne
set_option maxRecDepth 20000 in
theorem ggX5_sayByDraws_X5_sayableBy : GoodIn wsX5_sayByDraws wsX5_sayableBy := goodIn_r _ [17, 18, 19, 20, 21, 22, 23, 6, 24, 25, 26, 27, 28, 29, 30, 31, 2, 32, 33, 34, 35, 1, 36, 37, 38, 39, 53, 54, 55, 56, 57, 58, 59, 60, 61, 62, 63, 64, 65, 66] (by decide +kernel) (by decide +kernel)
set_option maxRecDepth 20000 in
theorem gX5_sayByDraws_X5_sayableBy : GoodIn wsX5_sayByDraws (wsV RX5 84 RX5 yX5_sayableBy wsX5_sayableBy) := goodIn_app (goodIn_of _ (by decide +kernel)) ggX5_sayByDraws_X5_sayableBy
set_option maxRecDepth 20000 in
theorem ggX5_sayByDraws_X6_has : GoodIn wsX5_sayByDraws wsX6_has := goodIn_r _ [41] (by decide +kernel) (by decide +kernel)
set_option maxRecDepth 20000 in
theorem gX5_sayByDraws_X6_has_n65 : GoodIn wsX5_sayByDraws (wsX6_has) := ggX5_sayByDraws_X6_has
set_option maxRecDepth 20000 in
theorem ggX5_sayByDraws_X5_tell : GoodIn wsX5_sayByDraws wsX5_tell := goodIn_r _ [45, 1, 36, 19, 40, 38, 41, 46, 47, 48, 49, 50, 51, 52, 53, 54, 55, 56, 57, 58, 59, 60, 61, 62, 63, 64, 65, 66] (by decide +kernel) (by decide +kernel)
set_option maxRecDepth 20000 in
theorem gX5_sayByDraws_X5_tell : GoodIn wsX5_sayByDraws (wsV RX5 107 RX5 yX5_tell wsX5_tell) := goodIn_app (goodIn_of _ (by decide +kernel)) ggX5_sayByDraws_X5_tell
theorem dX5_sayByDraws_0 : decode cX5_sayByDraws 0 = .ok (.iconst 0, 1) := by decide +kernel
theorem dX5_sayByDraws_1 : decode cX5_sayByDraws 1 = .ok (.istore_n 2, 1) := by decide +kernel
theorem dX5_sayByDraws_2 : decode cX5_sayByDraws 2 = .ok (.iconst 0, 1) := by decide +kernel
theorem dX5_sayByDraws_3 : decode cX5_sayByDraws 3 = .ok (.istore_n 3, 1) := by decide +kernel
theorem dX5_sayByDraws_4 : decode cX5_sayByDraws 4 = .ok (.iload_n 3, 1) := by decide +kernel
theorem dX5_sayByDraws_5 : decode cX5_sayByDraws 5 = .ok (.iload_n 1, 1) := by decide +kernel
theorem dX5_sayByDraws_6 : decode cX5_sayByDraws 6 = .ok (.if_icmp .ge 66, 3) := by decide +kernel
theorem dX5_sayByDraws_9 : decode cX5_sayByDraws 9 = .ok (.aload_n 0, 1) := by decide +kernel
theorem dX5_sayByDraws_10 : decode cX5_sayByDraws 10 = .ok (.aload_n 0, 1) := by decide +kernel
theorem dX5_sayByDraws_11 : decode cX5_sayByDraws 11 = .ok (.getfield 15, 3) := by decide +kernel
theorem dX5_sayByDraws_14 : decode cX5_sayByDraws 14 = .ok (.invokevirtual 117, 3) := by decide +kernel
theorem dX5_sayByDraws_17 : decode cX5_sayByDraws 17 = .ok (.istore 4, 2) := by decide +kernel
theorem dX5_sayByDraws_19 : decode cX5_sayByDraws 19 = .ok (.aload_n 0, 1) := by decide +kernel
theorem dX5_sayByDraws_20 : decode cX5_sayByDraws 20 = .ok (.aload_n 0, 1) := by decide +kernel
theorem dX5_sayByDraws_21 : decode cX5_sayByDraws 21 = .ok (.getfield 9, 3) := by decide +kernel
theorem dX5_sayByDraws_24 : decode cX5_sayByDraws 24 = .ok (.invokevirtual 117, 3) := by decide +kernel
theorem dX5_sayByDraws_27 : decode cX5_sayByDraws 27 = .ok (.istore 5, 2) := by decide +kernel
theorem dX5_sayByDraws_29 : decode cX5_sayByDraws 29 = .ok (.aload_n 0, 1) := by decide +kernel
theorem dX5_sayByDraws_30 : decode cX5_sayByDraws 30 = .ok (.iload 4, 2) := by decide +kernel
theorem dX5_sayByDraws_32 : decode cX5_sayByDraws 32 = .ok (.invokevirtual 120, 3) := by decide +kernel
theorem dX5_sayByDraws_35 : decode cX5_sayByDraws 35 = .ok (.ifCond .eq 31, 3) := by decide +kernel
theorem dX5_sayByDraws_38 : decode cX5_sayByDraws 38 = .ok (.aload_n 0, 1) := by decide +kernel
theorem dX5_sayByDraws_39 : decode cX5_sayByDraws 39 = .ok (.iload 4, 2) := by decide +kernel
theorem dX5_sayByDraws_41 : decode cX5_sayByDraws 41 = .ok (.invokevirtual 84, 3) := by decide +kernel
theorem dX5_sayByDraws_44 : decode cX5_sayByDraws 44 = .ok (.iload 5, 2) := by decide +kernel
theorem dX5_sayByDraws_46 : decode cX5_sayByDraws 46 = .ok (.invokestatic 65, 3) := by decide +kernel
theorem dX5_sayByDraws_49 : decode cX5_sayByDraws 49 = .ok (.ifCond .eq 17, 3) := by decide +kernel
theorem dX5_sayByDraws_52 : decode cX5_sayByDraws 52 = .ok (.aload_n 0, 1) := by decide +kernel
theorem dX5_sayByDraws_53 : decode cX5_sayByDraws 53 = .ok (.iload 4, 2) := by decide +kernel
theorem dX5_sayByDraws_55 : decode cX5_sayByDraws 55 = .ok (.iconst 1, 1) := by decide +kernel
theorem dX5_sayByDraws_56 : decode cX5_sayByDraws 56 = .ok (.iload 5, 2) := by decide +kernel
theorem dX5_sayByDraws_58 : decode cX5_sayByDraws 58 = .ok (.ishl, 1) := by decide +kernel
theorem dX5_sayByDraws_59 : decode cX5_sayByDraws 59 = .ok (.invokevirtual 107, 3) := by decide +kernel
theorem dX5_sayByDraws_62 : decode cX5_sayByDraws 62 = .ok (.pop, 1) := by decide +kernel
theorem dX5_sayByDraws_63 : decode cX5_sayByDraws 63 = .ok (.iinc 2 1, 3) := by decide +kernel
theorem dX5_sayByDraws_66 : decode cX5_sayByDraws 66 = .ok (.iinc 3 1, 3) := by decide +kernel
theorem dX5_sayByDraws_69 : decode cX5_sayByDraws 69 = .ok (.goto (-65), 3) := by decide +kernel
theorem dX5_sayByDraws_72 : decode cX5_sayByDraws 72 = .ok (.iload_n 2, 1) := by decide +kernel
theorem dX5_sayByDraws_73 : decode cX5_sayByDraws 73 = .ok (.ireturn, 1) := by decide +kernel
theorem dX5_drawBelow_0 : decode cX5_drawBelow 0 = .ok (.aload_n 0, 1) := by decide +kernel
theorem dX5_drawBelow_1 : decode cX5_drawBelow 1 = .ok (.aload_n 0, 1) := by decide +kernel
theorem dX5_drawBelow_2 : decode cX5_drawBelow 2 = .ok (.getfield 30, 3) := by decide +kernel
theorem dX5_drawBelow_5 : decode cX5_drawBelow 5 = .ok (.ldc 124, 2) := by decide +kernel
theorem dX5_drawBelow_7 : decode cX5_drawBelow 7 = .ok (.imul, 1) := by decide +kernel
theorem dX5_drawBelow_8 : decode cX5_drawBelow 8 = .ok (.sipush 12345, 3) := by decide +kernel
theorem dX5_drawBelow_11 : decode cX5_drawBelow 11 = .ok (.iadd, 1) := by decide +kernel
theorem dX5_drawBelow_12 : decode cX5_drawBelow 12 = .ok (.putfield 30, 3) := by decide +kernel
theorem dX5_drawBelow_15 : decode cX5_drawBelow 15 = .ok (.iload_n 1, 1) := by decide +kernel
theorem dX5_drawBelow_16 : decode cX5_drawBelow 16 = .ok (.ifCond .le 15, 3) := by decide +kernel
theorem dX5_drawBelow_19 : decode cX5_drawBelow 19 = .ok (.aload_n 0, 1) := by decide +kernel
theorem dX5_drawBelow_20 : decode cX5_drawBelow 20 = .ok (.getfield 30, 3) := by decide +kernel
theorem dX5_drawBelow_23 : decode cX5_drawBelow 23 = .ok (.bipush 16, 2) := by decide +kernel
theorem dX5_drawBelow_25 : decode cX5_drawBelow 25 = .ok (.iushr, 1) := by decide +kernel
theorem dX5_drawBelow_26 : decode cX5_drawBelow 26 = .ok (.iload_n 1, 1) := by decide +kernel
theorem dX5_drawBelow_27 : decode cX5_drawBelow 27 = .ok (.irem, 1) := by decide +kernel
theorem dX5_drawBelow_28 : decode cX5_drawBelow 28 = .ok (.goto 4, 3) := by decide +kernel
theorem dX5_drawBelow_31 : decode cX5_drawBelow 31 = .ok (.iconst 0, 1) := by decide +kernel
theorem dX5_drawBelow_32 : decode cX5_drawBelow 32 = .ok (.ireturn, 1) := by decide +kernel
theorem dX5_makeBlind_0 : decode cX5_makeBlind 0 = .ok (.aload_n 0, 1) := by decide +kernel
theorem dX5_makeBlind_1 : decode cX5_makeBlind 1 = .ok (.getfield 40, 3) := by decide +kernel
theorem dX5_makeBlind_4 : decode cX5_makeBlind 4 = .ok (.iload_n 1, 1) := by decide +kernel
theorem dX5_makeBlind_5 : decode cX5_makeBlind 5 = .ok (.dup2, 1) := by decide +kernel
theorem dX5_makeBlind_6 : decode cX5_makeBlind 6 = .ok (.iaload, 1) := by decide +kernel
theorem dX5_makeBlind_7 : decode cX5_makeBlind 7 = .ok (.aload_n 0, 1) := by decide +kernel
theorem dX5_makeBlind_8 : decode cX5_makeBlind 8 = .ok (.getfield 33, 3) := by decide +kernel
theorem dX5_makeBlind_11 : decode cX5_makeBlind 11 = .ok (.iload_n 1, 1) := by decide +kernel
theorem dX5_makeBlind_12 : decode cX5_makeBlind 12 = .ok (.iaload, 1) := by decide +kernel
theorem dX5_makeBlind_13 : decode cX5_makeBlind 13 = .ok (.aload_n 0, 1) := by decide +kernel
theorem dX5_makeBlind_14 : decode cX5_makeBlind 14 = .ok (.getfield 37, 3) := by decide +kernel
theorem dX5_makeBlind_17 : decode cX5_makeBlind 17 = .ok (.iload_n 1, 1) := by decide +kernel
theorem dX5_makeBlind_18 : decode cX5_makeBlind 18 = .ok (.iaload, 1) := by decide +kernel
theorem dX5_makeBlind_19 : decode cX5_makeBlind 19 = .ok (.ior, 1) := by decide +kernel
theorem dX5_makeBlind_20 : decode cX5_makeBlind 20 = .ok (.ior, 1) := by decide +kernel
theorem dX5_makeBlind_21 : decode cX5_makeBlind 21 = .ok (.iastore, 1) := by decide +kernel
theorem dX5_makeBlind_22 : decode cX5_makeBlind 22 = .ok (.aload_n 0, 1) := by decide +kernel
theorem dX5_makeBlind_23 : decode cX5_makeBlind 23 = .ok (.getfield 33, 3) := by decide +kernel
theorem dX5_makeBlind_26 : decode cX5_makeBlind 26 = .ok (.iload_n 1, 1) := by decide +kernel
theorem dX5_makeBlind_27 : decode cX5_makeBlind 27 = .ok (.iconst 0, 1) := by decide +kernel
theorem dX5_makeBlind_28 : decode cX5_makeBlind 28 = .ok (.iastore, 1) := by decide +kernel
theorem dX5_makeBlind_29 : decode cX5_makeBlind 29 = .ok (.aload_n 0, 1) := by decide +kernel
theorem dX5_makeBlind_30 : decode cX5_makeBlind 30 = .ok (.getfield 37, 3) := by decide +kernel
theorem dX5_makeBlind_33 : decode cX5_makeBlind 33 = .ok (.iload_n 1, 1) := by decide +kernel
theorem dX5_makeBlind_34 : decode cX5_makeBlind 34 = .ok (.iconst 0, 1) := by decide +kernel
theorem dX5_makeBlind_35 : decode cX5_makeBlind 35 = .ok (.iastore, 1) := by decide +kernel
theorem dX5_makeBlind_36 : decode cX5_makeBlind 36 = .ok (.aload_n 0, 1) := by decide +kernel
theorem dX5_makeBlind_37 : decode cX5_makeBlind 37 = .ok (.getfield 46, 3) := by decide +kernel
theorem dX5_makeBlind_40 : decode cX5_makeBlind 40 = .ok (.iload_n 1, 1) := by decide +kernel
theorem dX5_makeBlind_41 : decode cX5_makeBlind 41 = .ok (.iconst 4, 1) := by decide +kernel
theorem dX5_makeBlind_42 : decode cX5_makeBlind 42 = .ok (.iastore, 1) := by decide +kernel
theorem dX5_makeBlind_43 : decode cX5_makeBlind 43 = .ok (.return_, 1) := by decide +kernel
set_option maxRecDepth 20000 in
theorem ggX5_cutOff_X6_with : GoodIn wsX5_cutOff wsX6_with := goodIn_r _ [5] (by decide +kernel) (by decide +kernel)
set_option maxRecDepth 20000 in
theorem gX5_cutOff_X6_with_n61 : GoodIn wsX5_cutOff (wsX6_with) := ggX5_cutOff_X6_with
theorem dX5_cutOff_0 : decode cX5_cutOff 0 = .ok (.aload_n 0, 1) := by decide +kernel
theorem dX5_cutOff_1 : decode cX5_cutOff 1 = .ok (.getfield 43, 3) := by decide +kernel
theorem dX5_cutOff_4 : decode cX5_cutOff 4 = .ok (.iload_n 1, 1) := by decide +kernel
theorem dX5_cutOff_5 : decode cX5_cutOff 5 = .ok (.iconst 0, 1) := by decide +kernel
theorem dX5_cutOff_6 : decode cX5_cutOff 6 = .ok (.iastore, 1) := by decide +kernel
theorem dX5_cutOff_7 : decode cX5_cutOff 7 = .ok (.iconst 0, 1) := by decide +kernel
theorem dX5_cutOff_8 : decode cX5_cutOff 8 = .ok (.istore_n 2, 1) := by decide +kernel
theorem dX5_cutOff_9 : decode cX5_cutOff 9 = .ok (.iload_n 2, 1) := by decide +kernel
theorem dX5_cutOff_10 : decode cX5_cutOff 10 = .ok (.aload_n 0, 1) := by decide +kernel
theorem dX5_cutOff_11 : decode cX5_cutOff 11 = .ok (.getfield 15, 3) := by decide +kernel
theorem dX5_cutOff_14 : decode cX5_cutOff 14 = .ok (.if_icmp .ge 26, 3) := by decide +kernel
theorem dX5_cutOff_17 : decode cX5_cutOff 17 = .ok (.aload_n 0, 1) := by decide +kernel
theorem dX5_cutOff_18 : decode cX5_cutOff 18 = .ok (.getfield 43, 3) := by decide +kernel
theorem dX5_cutOff_21 : decode cX5_cutOff 21 = .ok (.iload_n 2, 1) := by decide +kernel
theorem dX5_cutOff_22 : decode cX5_cutOff 22 = .ok (.aload_n 0, 1) := by decide +kernel
theorem dX5_cutOff_23 : decode cX5_cutOff 23 = .ok (.getfield 43, 3) := by decide +kernel
theorem dX5_cutOff_26 : decode cX5_cutOff 26 = .ok (.iload_n 2, 1) := by decide +kernel
theorem dX5_cutOff_27 : decode cX5_cutOff 27 = .ok (.iaload, 1) := by decide +kernel
theorem dX5_cutOff_28 : decode cX5_cutOff 28 = .ok (.iload_n 1, 1) := by decide +kernel
theorem dX5_cutOff_29 : decode cX5_cutOff 29 = .ok (.iconst 0, 1) := by decide +kernel
theorem dX5_cutOff_30 : decode cX5_cutOff 30 = .ok (.invokestatic 61, 3) := by decide +kernel
theorem dX5_cutOff_33 : decode cX5_cutOff 33 = .ok (.iastore, 1) := by decide +kernel
theorem dX5_cutOff_34 : decode cX5_cutOff 34 = .ok (.iinc 2 1, 3) := by decide +kernel
theorem dX5_cutOff_37 : decode cX5_cutOff 37 = .ok (.goto (-28), 3) := by decide +kernel
theorem dX5_cutOff_40 : decode cX5_cutOff 40 = .ok (.return_, 1) := by decide +kernel
set_option maxRecDepth 20000 in
theorem ggX5_showTo_X6_has : GoodIn wsX5_showTo wsX6_has := goodIn_r _ [4] (by decide +kernel) (by decide +kernel)
set_option maxRecDepth 20000 in
theorem gX5_showTo_X6_has_n65 : GoodIn wsX5_showTo (wsX6_has) := ggX5_showTo_X6_has
set_option maxRecDepth 20000 in
theorem ggX5_showTo_X5_putSeen : GoodIn wsX5_showTo wsX5_putSeen := goodIn_r _ [9, 10, 11, 12, 3, 13, 14, 15, 16, 17, 18, 19, 20, 21, 22, 23, 24, 25, 26, 27] (by decide +kernel) (by decide +kernel)
set_option maxRecDepth 20000 in
theorem gX5_showTo_X5_putSeen : GoodIn wsX5_showTo (wsV RX5 125 RX5 yX5_putSeen wsX5_putSeen) := goodIn_app (goodIn_of _ (by decide +kernel)) ggX5_showTo_X5_putSeen
theorem dX5_showTo_0 : decode cX5_showTo 0 = .ok (.iconst 0, 1) := by decide +kernel
theorem dX5_showTo_1 : decode cX5_showTo 1 = .ok (.istore_n 3, 1) := by decide +kernel
theorem dX5_showTo_2 : decode cX5_showTo 2 = .ok (.iload_n 3, 1) := by decide +kernel
theorem dX5_showTo_3 : decode cX5_showTo 3 = .ok (.aload_n 0, 1) := by decide +kernel
theorem dX5_showTo_4 : decode cX5_showTo 4 = .ok (.getfield 15, 3) := by decide +kernel
theorem dX5_showTo_7 : decode cX5_showTo 7 = .ok (.if_icmp .ge 24, 3) := by decide +kernel
theorem dX5_showTo_10 : decode cX5_showTo 10 = .ok (.iload_n 1, 1) := by decide +kernel
theorem dX5_showTo_11 : decode cX5_showTo 11 = .ok (.iload_n 3, 1) := by decide +kernel
theorem dX5_showTo_12 : decode cX5_showTo 12 = .ok (.invokestatic 65, 3) := by decide +kernel
theorem dX5_showTo_15 : decode cX5_showTo 15 = .ok (.ifCond .eq 10, 3) := by decide +kernel
theorem dX5_showTo_18 : decode cX5_showTo 18 = .ok (.aload_n 0, 1) := by decide +kernel
theorem dX5_showTo_19 : decode cX5_showTo 19 = .ok (.iload_n 3, 1) := by decide +kernel
theorem dX5_showTo_20 : decode cX5_showTo 20 = .ok (.iload_n 2, 1) := by decide +kernel
theorem dX5_showTo_21 : decode cX5_showTo 21 = .ok (.iconst 2, 1) := by decide +kernel
theorem dX5_showTo_22 : decode cX5_showTo 22 = .ok (.invokevirtual 125, 3) := by decide +kernel
theorem dX5_showTo_25 : decode cX5_showTo 25 = .ok (.iinc 3 1, 3) := by decide +kernel
theorem dX5_showTo_28 : decode cX5_showTo 28 = .ok (.goto (-26), 3) := by decide +kernel
theorem dX5_showTo_31 : decode cX5_showTo 31 = .ok (.return_, 1) := by decide +kernel
set_option maxRecDepth 20000 in
theorem ggX6_init_X5_init : GoodIn wsX6_init wsX5_init := goodIn_r _ [34, 35, 2, 3, 36, 37, 38, 39, 40, 41, 42, 30, 43, 44, 45, 46, 47, 48, 49, 92, 93, 94, 95, 96, 97, 98, 99, 100, 101, 102, 103, 104, 105] (by decide +kernel) (by decide +kernel)
set_option maxRecDepth 20000 in
theorem gX6_init_X5_init_n9 : GoodIn wsX6_init (wsX5_init) := ggX6_init_X5_init
set_option maxRecDepth 20000 in
theorem ggX6_init_X3_init : GoodIn wsX6_init wsX3_init := goodIn_r _ [51, 52, 2, 3, 30, 53, 54, 55, 56, 57, 116, 117, 118] (by decide +kernel) (by decide +kernel)
set_option maxRecDepth 20000 in
theorem gX6_init_X3_init_n24 : GoodIn wsX6_init (wsX3_init) := ggX6_init_X3_init
set_option maxRecDepth 20000 in
theorem ggX6_init_X4_init : GoodIn wsX6_init wsX4_init := goodIn_r _ [59, 60, 2, 3, 61, 62, 30, 63, 64, 65, 66, 119, 120, 121, 122, 123, 124] (by decide +kernel) (by decide +kernel)
set_option maxRecDepth 20000 in
theorem gX6_init_X4_init_n31 : GoodIn wsX6_init (wsX4_init) := ggX6_init_X4_init
set_option maxRecDepth 20000 in
theorem ggX6_init_X2_init : GoodIn wsX6_init wsX2_init := goodIn_r _ [69, 70, 2, 3, 71, 72, 125, 126] (by decide +kernel) (by decide +kernel)
set_option maxRecDepth 20000 in
theorem gX6_init_X2_init : GoodIn wsX6_init (wsX2_init) := ggX6_init_X2_init
set_option maxRecDepth 20000 in
theorem ggX6_init_X1_init : GoodIn wsX6_init wsX1_init := goodIn_r _ [75, 76, 2, 3, 77, 30, 78, 79, 80, 81, 82, 83, 84, 127, 128, 129, 130, 131, 132, 133] (by decide +kernel) (by decide +kernel)
set_option maxRecDepth 20000 in
theorem gX6_init_X1_init : GoodIn wsX6_init (wsX1_init) := ggX6_init_X1_init
set_option maxRecDepth 20000 in
theorem ggX6_init_X0_init : GoodIn wsX6_init wsX0_init := goodIn_r _ [87, 88, 2, 3, 89, 90, 91, 134, 135, 136] (by decide +kernel) (by decide +kernel)
set_option maxRecDepth 20000 in
theorem gX6_init_X0_init : GoodIn wsX6_init (wsX0_init) := ggX6_init_X0_init
theorem dX6_init_0 : decode cX6_init 0 = .ok (.aload_n 0, 1) := by decide +kernel
theorem dX6_init_1 : decode cX6_init 1 = .ok (.invokespecial 1, 3) := by decide +kernel
theorem dX6_init_4 : decode cX6_init 4 = .ok (.aload_n 0, 1) := by decide +kernel
theorem dX6_init_5 : decode cX6_init 5 = .ok (.new 7, 3) := by decide +kernel
theorem dX6_init_8 : decode cX6_init 8 = .ok (.dup, 1) := by decide +kernel
theorem dX6_init_9 : decode cX6_init 9 = .ok (.invokespecial 9, 3) := by decide +kernel
theorem dX6_init_12 : decode cX6_init 12 = .ok (.putfield 10, 3) := by decide +kernel
theorem dX6_init_15 : decode cX6_init 15 = .ok (.aload_n 0, 1) := by decide +kernel
theorem dX6_init_16 : decode cX6_init 16 = .ok (.new 7, 3) := by decide +kernel
theorem dX6_init_19 : decode cX6_init 19 = .ok (.dup, 1) := by decide +kernel
theorem dX6_init_20 : decode cX6_init 20 = .ok (.invokespecial 9, 3) := by decide +kernel
theorem dX6_init_23 : decode cX6_init 23 = .ok (.putfield 16, 3) := by decide +kernel
theorem dX6_init_26 : decode cX6_init 26 = .ok (.aload_n 0, 1) := by decide +kernel
theorem dX6_init_27 : decode cX6_init 27 = .ok (.new 7, 3) := by decide +kernel
theorem dX6_init_30 : decode cX6_init 30 = .ok (.dup, 1) := by decide +kernel
theorem dX6_init_31 : decode cX6_init 31 = .ok (.invokespecial 9, 3) := by decide +kernel
theorem dX6_init_34 : decode cX6_init 34 = .ok (.putfield 19, 3) := by decide +kernel
theorem dX6_init_37 : decode cX6_init 37 = .ok (.aload_n 0, 1) := by decide +kernel
theorem dX6_init_38 : decode cX6_init 38 = .ok (.new 22, 3) := by decide +kernel
theorem dX6_init_41 : decode cX6_init 41 = .ok (.dup, 1) := by decide +kernel
theorem dX6_init_42 : decode cX6_init 42 = .ok (.invokespecial 24, 3) := by decide +kernel
theorem dX6_init_45 : decode cX6_init 45 = .ok (.putfield 25, 3) := by decide +kernel
theorem dX6_init_48 : decode cX6_init 48 = .ok (.aload_n 0, 1) := by decide +kernel
theorem dX6_init_49 : decode cX6_init 49 = .ok (.new 29, 3) := by decide +kernel
theorem dX6_init_52 : decode cX6_init 52 = .ok (.dup, 1) := by decide +kernel
theorem dX6_init_53 : decode cX6_init 53 = .ok (.invokespecial 31, 3) := by decide +kernel
theorem dX6_init_56 : decode cX6_init 56 = .ok (.putfield 32, 3) := by decide +kernel
theorem dX6_init_59 : decode cX6_init 59 = .ok (.aload_n 0, 1) := by decide +kernel
theorem dX6_init_60 : decode cX6_init 60 = .ok (.new 36, 3) := by decide +kernel
theorem dX6_init_63 : decode cX6_init 63 = .ok (.dup, 1) := by decide +kernel
theorem dX6_init_64 : decode cX6_init 64 = .ok (.aload_n 0, 1) := by decide +kernel
theorem dX6_init_65 : decode cX6_init 65 = .ok (.getfield 10, 3) := by decide +kernel
theorem dX6_init_68 : decode cX6_init 68 = .ok (.aload_n 0, 1) := by decide +kernel
theorem dX6_init_69 : decode cX6_init 69 = .ok (.getfield 19, 3) := by decide +kernel
theorem dX6_init_72 : decode cX6_init 72 = .ok (.invokespecial 38, 3) := by decide +kernel
theorem dX6_init_75 : decode cX6_init 75 = .ok (.putfield 41, 3) := by decide +kernel
theorem dX6_init_78 : decode cX6_init 78 = .ok (.aload_n 0, 1) := by decide +kernel
theorem dX6_init_79 : decode cX6_init 79 = .ok (.new 45, 3) := by decide +kernel
theorem dX6_init_82 : decode cX6_init 82 = .ok (.dup, 1) := by decide +kernel
theorem dX6_init_83 : decode cX6_init 83 = .ok (.aload_n 0, 1) := by decide +kernel
theorem dX6_init_84 : decode cX6_init 84 = .ok (.getfield 10, 3) := by decide +kernel
theorem dX6_init_87 : decode cX6_init 87 = .ok (.aload_n 0, 1) := by decide +kernel
theorem dX6_init_88 : decode cX6_init 88 = .ok (.getfield 19, 3) := by decide +kernel
theorem dX6_init_91 : decode cX6_init 91 = .ok (.invokespecial 47, 3) := by decide +kernel
theorem dX6_init_94 : decode cX6_init 94 = .ok (.putfield 48, 3) := by decide +kernel
theorem dX6_init_97 : decode cX6_init 97 = .ok (.aload_n 0, 1) := by decide +kernel
theorem dX6_init_98 : decode cX6_init 98 = .ok (.new 52, 3) := by decide +kernel
theorem dX6_init_101 : decode cX6_init 101 = .ok (.dup, 1) := by decide +kernel
theorem dX6_init_102 : decode cX6_init 102 = .ok (.aload_n 0, 1) := by decide +kernel
theorem dX6_init_103 : decode cX6_init 103 = .ok (.getfield 10, 3) := by decide +kernel
theorem dX6_init_106 : decode cX6_init 106 = .ok (.aload_n 0, 1) := by decide +kernel
theorem dX6_init_107 : decode cX6_init 107 = .ok (.getfield 19, 3) := by decide +kernel
theorem dX6_init_110 : decode cX6_init 110 = .ok (.aload_n 0, 1) := by decide +kernel
theorem dX6_init_111 : decode cX6_init 111 = .ok (.getfield 25, 3) := by decide +kernel
theorem dX6_init_114 : decode cX6_init 114 = .ok (.invokespecial 54, 3) := by decide +kernel
theorem dX6_init_117 : decode cX6_init 117 = .ok (.putfield 57, 3) := by decide +kernel
theorem dX6_init_120 : decode cX6_init 120 = .ok (.aload_n 0, 1) := by decide +kernel
theorem dX6_init_121 : decode cX6_init 121 = .ok (.iconst 5, 1) := by decide +kernel
theorem dX6_init_122 : decode cX6_init 122 = .ok (.newarray .int, 2) := by decide +kernel
theorem dX6_init_124 : decode cX6_init 124 = .ok (.putfield 61, 3) := by decide +kernel
theorem dX6_init_127 : decode cX6_init 127 = .ok (.aload_n 0, 1) := by decide +kernel
theorem dX6_init_128 : decode cX6_init 128 = .ok (.iconst 0, 1) := by decide +kernel
theorem dX6_init_129 : decode cX6_init 129 = .ok (.putfield 65, 3) := by decide +kernel
theorem dX6_init_132 : decode cX6_init 132 = .ok (.return_, 1) := by decide +kernel
set_option maxRecDepth 20000 in
theorem ggX6_row_X6_isShelf : GoodIn wsX6_row wsX6_isShelf := goodIn_r _ [5, 6, 7, 4, 8] (by decide +kernel) (by decide +kernel)
set_option maxRecDepth 20000 in
theorem gX6_row_X6_isShelf : GoodIn wsX6_row (va_wsS RX6 69 yX6_isShelf wsX6_isShelf) := goodIn_app (goodIn_of _ (by decide +kernel)) ggX6_row_X6_isShelf
set_option maxRecDepth 20000 in
theorem ggX6_row_X6_isWithin : GoodIn wsX6_row wsX6_isWithin := goodIn_r _ [8] (by decide +kernel) (by decide +kernel)
set_option maxRecDepth 20000 in
theorem gX6_row_X6_isWithin : GoodIn wsX6_row (va_wsS RX6 73 yX6_isWithin wsX6_isWithin) := goodIn_app (goodIn_of _ (by decide +kernel)) ggX6_row_X6_isWithin
set_option maxRecDepth 20000 in
theorem ggX6_row_X6_refuse : GoodIn wsX6_row wsX6_refuse := goodIn_r _ [12, 13, 22, 23, 24, 25, 26, 27, 28, 29, 30, 31] (by decide +kernel) (by decide +kernel)
set_option maxRecDepth 20000 in
theorem gX6_row_X6_refuse : GoodIn wsX6_row (wsV RX6 77 RX6 yX6_refuse wsX6_refuse) := goodIn_app (goodIn_of _ (by decide +kernel)) ggX6_row_X6_refuse
set_option maxRecDepth 20000 in
theorem ggX6_row_X3_putRow : GoodIn wsX6_row wsX3_putRow := goodIn_r _ [18, 19, 20, 21, 32, 33, 34] (by decide +kernel) (by decide +kernel)
set_option maxRecDepth 20000 in
theorem gX6_row_X3_putRow : GoodIn wsX6_row (wsV RX6 81 RX3 yX3_putRow wsX3_putRow) := goodIn_app (goodIn_of _ (by decide +kernel)) ggX6_row_X3_putRow
theorem dX6_row_0 : decode cX6_row 0 = .ok (.iload_n 1, 1) := by decide +kernel
theorem dX6_row_1 : decode cX6_row 1 = .ok (.invokestatic 69, 3) := by decide +kernel
theorem dX6_row_4 : decode cX6_row 4 = .ok (.ifCond .eq 22, 3) := by decide +kernel
theorem dX6_row_7 : decode cX6_row 7 = .ok (.iload_n 2, 1) := by decide +kernel
theorem dX6_row_8 : decode cX6_row 8 = .ok (.iconst 0, 1) := by decide +kernel
theorem dX6_row_9 : decode cX6_row 9 = .ok (.iconst 4, 1) := by decide +kernel
theorem dX6_row_10 : decode cX6_row 10 = .ok (.invokestatic 73, 3) := by decide +kernel
theorem dX6_row_13 : decode cX6_row 13 = .ok (.ifCond .eq 13, 3) := by decide +kernel
theorem dX6_row_16 : decode cX6_row 16 = .ok (.iload_n 3, 1) := by decide +kernel
theorem dX6_row_17 : decode cX6_row 17 = .ok (.iconst 0, 1) := by decide +kernel
theorem dX6_row_18 : decode cX6_row 18 = .ok (.bipush 40, 2) := by decide +kernel
theorem dX6_row_20 : decode cX6_row 20 = .ok (.invokestatic 73, 3) := by decide +kernel
theorem dX6_row_23 : decode cX6_row 23 = .ok (.ifCond .ne 10, 3) := by decide +kernel
theorem dX6_row_26 : decode cX6_row 26 = .ok (.aload_n 0, 1) := by decide +kernel
theorem dX6_row_27 : decode cX6_row 27 = .ok (.bipush (-2), 2) := by decide +kernel
theorem dX6_row_29 : decode cX6_row 29 = .ok (.invokevirtual 77, 3) := by decide +kernel
theorem dX6_row_32 : decode cX6_row 32 = .ok (.ireturn, 1) := by decide +kernel
theorem dX6_row_33 : decode cX6_row 33 = .ok (.aload_n 0, 1) := by decide +kernel
theorem dX6_row_34 : decode cX6_row 34 = .ok (.getfield 25, 3) := by decide +kernel
theorem dX6_row_37 : decode cX6_row 37 = .ok (.iload_n 1, 1) := by decide +kernel
theorem dX6_row_38 : decode cX6_row 38 = .ok (.iload_n 2, 1) := by decide +kernel
theorem dX6_row_39 : decode cX6_row 39 = .ok (.iload_n 3, 1) := by decide +kernel
theorem dX6_row_40 : decode cX6_row 40 = .ok (.invokevirtual 81, 3) := by decide +kernel
theorem dX6_row_43 : decode cX6_row 43 = .ok (.iconst 1, 1) := by decide +kernel
theorem dX6_row_44 : decode cX6_row 44 = .ok (.ireturn, 1) := by decide +kernel
set_option maxRecDepth 20000 in
theorem ggX6_set_X3_troubleWithRow : GoodIn wsX6_set wsX3_troubleWithRow := goodIn_r _ [6, 7, 8, 9, 10, 11, 12, 13, 14, 42, 43, 44] (by decide +kernel) (by decide +kernel)
set_option maxRecDepth 20000 in
theorem gX6_set_X3_troubleWithRow : GoodIn wsX6_set (wsV RX6 85 RX3 yX3_troubleWithRow wsX3_troubleWithRow) := goodIn_app (goodIn_of _ (by decide +kernel)) ggX6_set_X3_troubleWithRow
set_option maxRecDepth 20000 in
theorem ggX6_set_X6_refuse : GoodIn wsX6_set wsX6_refuse := goodIn_r _ [18, 19, 32, 33, 34, 35, 36, 37, 38, 39, 40, 41] (by decide +kernel) (by decide +kernel)
set_option maxRecDepth 20000 in
theorem gX6_set_X6_refuse : GoodIn wsX6_set (wsV RX6 77 RX6 yX6_refuse wsX6_refuse) := goodIn_app (goodIn_of _ (by decide +kernel)) ggX6_set_X6_refuse
set_option maxRecDepth 20000 in
theorem ggX6_set_X3_sizeOf : GoodIn wsX6_set wsX3_sizeOf := goodIn_r _ [23, 8, 9, 10, 11, 12, 13, 14, 42, 43, 44] (by decide +kernel) (by decide +kernel)
set_option maxRecDepth 20000 in
theorem gX6_set_X3_sizeOf : GoodIn wsX6_set (wsV RX6 89 RX3 yX3_sizeOf wsX3_sizeOf) := goodIn_app (goodIn_of _ (by decide +kernel)) ggX6_set_X3_sizeOf
set_option maxRecDepth 20000 in
theorem ggX6_set_X6_isWithin : GoodIn wsX6_set wsX6_isWithin := goodIn_r _ [14] (by decide +kernel) (by decide +kernel)
set_option maxRecDepth 20000 in
theorem gX6_set_X6_isWithin : GoodIn wsX6_set (va_wsS RX6 73 yX6_isWithin wsX6_isWithin) := goodIn_app (goodIn_of _ (by decide +kernel)) ggX6_set_X6_isWithin
set_option maxRecDepth 20000 in
theorem ggX6_set_X3_putElement : GoodIn wsX6_set wsX3_putElement := goodIn_r _ [27, 28, 7, 29, 30, 5, 31, 42, 43, 44] (by decide +kernel) (by decide +kernel)
set_option maxRecDepth 20000 in
theorem gX6_set_X3_putElement : GoodIn wsX6_set (wsV RX6 92 RX3 yX3_putElement wsX3_putElement) := goodIn_app (goodIn_of _ (by decide +kernel)) ggX6_set_X3_putElement
theorem dX6_set_0 : decode cX6_set 0 = .ok (.aload_n 0, 1) := by decide +kernel
theorem dX6_set_1 : decode cX6_set 1 = .ok (.getfield 25, 3) := by decide +kernel
theorem dX6_set_4 : decode cX6_set 4 = .ok (.iload_n 1, 1) := by decide +kernel
theorem dX6_set_5 : decode cX6_set 5 = .ok (.iconst 0, 1) := by decide +kernel
theorem dX6_set_6 : decode cX6_set 6 = .ok (.invokevirtual 85, 3) := by decide +kernel
theorem dX6_set_9 : decode cX6_set 9 = .ok (.istore 5, 2) := by decide +kernel
theorem dX6_set_11 : decode cX6_set 11 = .ok (.iload 5, 2) := by decide +kernel
theorem dX6_set_13 : decode cX6_set 13 = .ok (.ifCond .eq 10, 3) := by decide +kernel
theorem dX6_set_16 : decode cX6_set 16 = .ok (.aload_n 0, 1) := by decide +kernel
theorem dX6_set_17 : decode cX6_set 17 = .ok (.iload 5, 2) := by decide +kernel
theorem dX6_set_19 : decode cX6_set 19 = .ok (.invokevirtual 77, 3) := by decide +kernel
theorem dX6_set_22 : decode cX6_set 22 = .ok (.ireturn, 1) := by decide +kernel
theorem dX6_set_23 : decode cX6_set 23 = .ok (.iload_n 2, 1) := by decide +kernel
theorem dX6_set_24 : decode cX6_set 24 = .ok (.iconst 0, 1) := by decide +kernel
theorem dX6_set_25 : decode cX6_set 25 = .ok (.aload_n 0, 1) := by decide +kernel
theorem dX6_set_26 : decode cX6_set 26 = .ok (.getfield 25, 3) := by decide +kernel
theorem dX6_set_29 : decode cX6_set 29 = .ok (.iload_n 1, 1) := by decide +kernel
theorem dX6_set_30 : decode cX6_set 30 = .ok (.invokevirtual 89, 3) := by decide +kernel
theorem dX6_set_33 : decode cX6_set 33 = .ok (.iconst 1, 1) := by decide +kernel
theorem dX6_set_34 : decode cX6_set 34 = .ok (.isub, 1) := by decide +kernel
theorem dX6_set_35 : decode cX6_set 35 = .ok (.invokestatic 73, 3) := by decide +kernel
theorem dX6_set_38 : decode cX6_set 38 = .ok (.ifCond .ne 10, 3) := by decide +kernel
theorem dX6_set_41 : decode cX6_set 41 = .ok (.aload_n 0, 1) := by decide +kernel
theorem dX6_set_42 : decode cX6_set 42 = .ok (.bipush (-2), 2) := by decide +kernel
theorem dX6_set_44 : decode cX6_set 44 = .ok (.invokevirtual 77, 3) := by decide +kernel
theorem dX6_set_47 : decode cX6_set 47 = .ok (.ireturn, 1) := by decide +kernel
theorem dX6_set_48 : decode cX6_set 48 = .ok (.aload_n 0, 1) := by decide +kernel
theorem dX6_set_49 : decode cX6_set 49 = .ok (.getfield 25, 3) := by decide +kernel
theorem dX6_set_52 : decode cX6_set 52 = .ok (.iload_n 1, 1) := by decide +kernel
theorem dX6_set_53 : decode cX6_set 53 = .ok (.iload_n 2, 1) := by decide +kernel
theorem dX6_set_54 : decode cX6_set 54 = .ok (.lload_n 3, 1) := by decide +kernel
theorem dX6_set_55 : decode cX6_set 55 = .ok (.invokevirtual 92, 3) := by decide +kernel
theorem dX6_set_58 : decode cX6_set 58 = .ok (.iconst 1, 1) := by decide +kernel
theorem dX6_set_59 : decode cX6_set 59 = .ok (.ireturn, 1) := by decide +kernel
set_option maxRecDepth 20000 in
theorem ggX6_copy_X3_troubleWithRows : GoodIn wsX6_copy wsX3_troubleWithRows := goodIn_r _ [6, 7, 8, 9, 10, 11, 12, 13, 46, 47, 48] (by decide +kernel) (by decide +kernel)
set_option maxRecDepth 20000 in
theorem gX6_copy_X3_troubleWithRows : GoodIn wsX6_copy (wsV RX6 96 RX3 yX3_troubleWithRows wsX3_troubleWithRows) := goodIn_app (goodIn_of _ (by decide +kernel)) ggX6_copy_X3_troubleWithRows
set_option maxRecDepth 20000 in
theorem ggX6_copy_X6_refuse : GoodIn wsX6_copy wsX6_refuse := goodIn_r _ [17, 18, 36, 37, 38, 39, 40, 41, 42, 43, 44, 45] (by decide +kernel) (by decide +kernel)
set_option maxRecDepth 20000 in
theorem gX6_copy_X6_refuse : GoodIn wsX6_copy (wsV RX6 77 RX6 yX6_refuse wsX6_refuse) := goodIn_app (goodIn_of _ (by decide +kernel)) ggX6_copy_X6_refuse
set_option maxRecDepth 20000 in
theorem ggX6_copy_X3_sizeOf : GoodIn wsX6_copy wsX3_sizeOf := goodIn_r _ [22, 23, 8, 9, 10, 11, 12, 13, 46, 47, 48] (by decide +kernel) (by decide +kernel)
set_option maxRecDepth 20000 in
theorem gX6_copy_X3_sizeOf : GoodIn wsX6_copy (wsV RX6 89 RX3 yX3_sizeOf wsX3_sizeOf) := goodIn_app (goodIn_of _ (by decide +kernel)) ggX6_copy_X3_sizeOf
set_option maxRecDepth 20000 in
theorem ggX6_copy_X6_isPart : GoodIn wsX6_copy wsX6_isPart := goodIn_r _ [26] (by decide +kernel) (by decide +kernel)
set_option maxRecDepth 20000 in
theorem gX6_copy_X6_isPart : GoodIn wsX6_copy (va_wsS RX6 99 yX6_isPart wsX6_isPart) := goodIn_app (goodIn_of _ (by decide +kernel)) ggX6_copy_X6_isPart
set_option maxRecDepth 20000 in
theorem ggX6_copy_X3_copyElements : GoodIn wsX6_copy wsX3_copyElements := goodIn_r _ [30, 31, 32, 33, 34, 35, 46, 47, 48] (by decide +kernel) (by decide +kernel)
set_option maxRecDepth 20000 in
theorem gX6_copy_X3_copyElements : GoodIn wsX6_copy (wsV RX6 102 RX3 yX3_copyElements wsX3_copyElements) := goodIn_app (goodIn_of _ (by decide +kernel)) ggX6_copy_X3_copyElements
theorem dX6_copy_0 : decode cX6_copy 0 = .ok (.aload_n 0, 1) := by decide +kernel
theorem dX6_copy_1 : decode cX6_copy 1 = .ok (.getfield 25, 3) := by decide +kernel
theorem dX6_copy_4 : decode cX6_copy 4 = .ok (.iload_n 1, 1) := by decide +kernel
theorem dX6_copy_5 : decode cX6_copy 5 = .ok (.iload_n 2, 1) := by decide +kernel
theorem dX6_copy_6 : decode cX6_copy 6 = .ok (.invokevirtual 96, 3) := by decide +kernel
theorem dX6_copy_9 : decode cX6_copy 9 = .ok (.istore 6, 2) := by decide +kernel
theorem dX6_copy_11 : decode cX6_copy 11 = .ok (.iload 6, 2) := by decide +kernel
theorem dX6_copy_13 : decode cX6_copy 13 = .ok (.ifCond .eq 10, 3) := by decide +kernel
theorem dX6_copy_16 : decode cX6_copy 16 = .ok (.aload_n 0, 1) := by decide +kernel
theorem dX6_copy_17 : decode cX6_copy 17 = .ok (.iload 6, 2) := by decide +kernel
theorem dX6_copy_19 : decode cX6_copy 19 = .ok (.invokevirtual 77, 3) := by decide +kernel
theorem dX6_copy_22 : decode cX6_copy 22 = .ok (.ireturn, 1) := by decide +kernel
theorem dX6_copy_23 : decode cX6_copy 23 = .ok (.iload_n 3, 1) := by decide +kernel
theorem dX6_copy_24 : decode cX6_copy 24 = .ok (.iload 5, 2) := by decide +kernel
theorem dX6_copy_26 : decode cX6_copy 26 = .ok (.aload_n 0, 1) := by decide +kernel
theorem dX6_copy_27 : decode cX6_copy 27 = .ok (.getfield 25, 3) := by decide +kernel
theorem dX6_copy_30 : decode cX6_copy 30 = .ok (.iload_n 1, 1) := by decide +kernel
theorem dX6_copy_31 : decode cX6_copy 31 = .ok (.invokevirtual 89, 3) := by decide +kernel
theorem dX6_copy_34 : decode cX6_copy 34 = .ok (.invokestatic 99, 3) := by decide +kernel
theorem dX6_copy_37 : decode cX6_copy 37 = .ok (.ifCond .eq 21, 3) := by decide +kernel
theorem dX6_copy_40 : decode cX6_copy 40 = .ok (.iload 4, 2) := by decide +kernel
theorem dX6_copy_42 : decode cX6_copy 42 = .ok (.iload 5, 2) := by decide +kernel
theorem dX6_copy_44 : decode cX6_copy 44 = .ok (.aload_n 0, 1) := by decide +kernel
theorem dX6_copy_45 : decode cX6_copy 45 = .ok (.getfield 25, 3) := by decide +kernel
theorem dX6_copy_48 : decode cX6_copy 48 = .ok (.iload_n 2, 1) := by decide +kernel
theorem dX6_copy_49 : decode cX6_copy 49 = .ok (.invokevirtual 89, 3) := by decide +kernel
theorem dX6_copy_52 : decode cX6_copy 52 = .ok (.invokestatic 99, 3) := by decide +kernel
theorem dX6_copy_55 : decode cX6_copy 55 = .ok (.ifCond .ne 10, 3) := by decide +kernel
theorem dX6_copy_58 : decode cX6_copy 58 = .ok (.aload_n 0, 1) := by decide +kernel
theorem dX6_copy_59 : decode cX6_copy 59 = .ok (.bipush (-2), 2) := by decide +kernel
theorem dX6_copy_61 : decode cX6_copy 61 = .ok (.invokevirtual 77, 3) := by decide +kernel
theorem dX6_copy_64 : decode cX6_copy 64 = .ok (.ireturn, 1) := by decide +kernel
theorem dX6_copy_65 : decode cX6_copy 65 = .ok (.aload_n 0, 1) := by decide +kernel
theorem dX6_copy_66 : decode cX6_copy 66 = .ok (.getfield 25, 3) := by decide +kernel
theorem dX6_copy_69 : decode cX6_copy 69 = .ok (.iload_n 1, 1) := by decide +kernel
theorem dX6_copy_70 : decode cX6_copy 70 = .ok (.iload_n 2, 1) := by decide +kernel
theorem dX6_copy_71 : decode cX6_copy 71 = .ok (.iload_n 3, 1) := by decide +kernel
theorem dX6_copy_72 : decode cX6_copy 72 = .ok (.iload 4, 2) := by decide +kernel
theorem dX6_copy_74 : decode cX6_copy 74 = .ok (.iload 5, 2) := by decide +kernel
theorem dX6_copy_76 : decode cX6_copy 76 = .ok (.invokevirtual 102, 3) := by decide +kernel
theorem dX6_copy_79 : decode cX6_copy 79 = .ok (.iload 5, 2) := by decide +kernel
theorem dX6_copy_81 : decode cX6_copy 81 = .ok (.ireturn, 1) := by decide +kernel
set_option maxRecDepth 20000 in
theorem ggX6_element_X3_elementOf : GoodIn wsX6_element wsX3_elementOf := goodIn_r _ [6, 7, 8, 9, 10, 11, 12, 13, 14, 25, 26, 27] (by decide +kernel) (by decide +kernel)
set_option maxRecDepth 20000 in
theorem gX6_element_X3_elementOf : GoodIn wsX6_element (wsV RX6 106 RX3 yX3_elementOf wsX3_elementOf) := goodIn_app (goodIn_of _ (by decide +kernel)) ggX6_element_X3_elementOf
theorem dX6_element_0 : decode cX6_element 0 = .ok (.aload_n 0, 1) := by decide +kernel
theorem dX6_element_1 : decode cX6_element 1 = .ok (.getfield 25, 3) := by decide +kernel
theorem dX6_element_4 : decode cX6_element 4 = .ok (.iload_n 1, 1) := by decide +kernel
theorem dX6_element_5 : decode cX6_element 5 = .ok (.iload_n 2, 1) := by decide +kernel
theorem dX6_element_6 : decode cX6_element 6 = .ok (.invokevirtual 106, 3) := by decide +kernel
theorem dX6_element_9 : decode cX6_element 9 = .ok (.lreturn, 1) := by decide +kernel
set_option maxRecDepth 20000 in
theorem ggX6_holds_X3_heldBy : GoodIn wsX6_holds wsX3_heldBy := goodIn_r _ [6, 7, 8, 9, 10, 11, 12, 13, 24, 25, 26] (by decide +kernel) (by decide +kernel)
set_option maxRecDepth 20000 in
theorem gX6_holds_X3_heldBy : GoodIn wsX6_holds (wsV RX6 110 RX3 yX3_heldBy wsX3_heldBy) := goodIn_app (goodIn_of _ (by decide +kernel)) ggX6_holds_X3_heldBy
theorem dX6_holds_0 : decode cX6_holds 0 = .ok (.aload_n 0, 1) := by decide +kernel
theorem dX6_holds_1 : decode cX6_holds 1 = .ok (.getfield 25, 3) := by decide +kernel
theorem dX6_holds_4 : decode cX6_holds 4 = .ok (.iload_n 1, 1) := by decide +kernel
theorem dX6_holds_5 : decode cX6_holds 5 = .ok (.invokevirtual 110, 3) := by decide +kernel
theorem dX6_holds_8 : decode cX6_holds 8 = .ok (.ireturn, 1) := by decide +kernel
set_option maxRecDepth 20000 in
theorem ggX6_show_X6_isShelf : GoodIn wsX6_show wsX6_isShelf := goodIn_r _ [6, 7, 8, 5, 9] (by decide +kernel) (by decide +kernel)
set_option maxRecDepth 20000 in
theorem gX6_show_X6_isShelf : GoodIn wsX6_show (va_wsS RX6 69 yX6_isShelf wsX6_isShelf) := goodIn_app (goodIn_of _ (by decide +kernel)) ggX6_show_X6_isShelf
set_option maxRecDepth 20000 in
theorem ggX6_show_X5_isOne : GoodIn wsX6_show wsX5_isOne := goodIn_r _ [14, 15, 38, 39, 40, 41, 42, 43, 44, 45, 46, 47, 48, 49, 50, 51] (by decide +kernel) (by decide +kernel)
set_option maxRecDepth 20000 in
theorem gX6_show_X5_isOne : GoodIn wsX6_show (wsV RX6 113 RX5 yX5_isOne wsX5_isOne) := goodIn_app (goodIn_of _ (by decide +kernel)) ggX6_show_X5_isOne
set_option maxRecDepth 20000 in
theorem ggX6_show_X6_refuse : GoodIn wsX6_show wsX6_refuse := goodIn_r _ [19, 20, 28, 29, 30, 31, 32, 33, 34, 35, 36, 37] (by decide +kernel) (by decide +kernel)
set_option maxRecDepth 20000 in
theorem gX6_show_X6_refuse : GoodIn wsX6_show (wsV RX6 77 RX6 yX6_refuse wsX6_refuse) := goodIn_app (goodIn_of _ (by decide +kernel)) ggX6_show_X6_refuse
set_option maxRecDepth 20000 in
theorem ggX6_show_X3_putOne : GoodIn wsX6_show wsX3_putOne := goodIn_r _ [25, 26, 27, 52, 53, 54] (by decide +kernel) (by decide +kernel)
set_option maxRecDepth 20000 in
theorem gX6_show_X3_putOne : GoodIn wsX6_show (wsV RX6 116 RX3 yX3_putOne wsX3_putOne) := goodIn_app (goodIn_of _ (by decide +kernel)) ggX6_show_X3_putOne
theorem dX6_show_0 : decode cX6_show 0 = .ok (.iload_n 1, 1) := by decide +kernel
theorem dX6_show_1 : decode cX6_show 1 = .ok (.invokestatic 69, 3) := by decide +kernel
theorem dX6_show_4 : decode cX6_show 4 = .ok (.ifCond .eq 19, 3) := by decide +kernel
theorem dX6_show_7 : decode cX6_show 7 = .ok (.iload_n 2, 1) := by decide +kernel
theorem dX6_show_8 : decode cX6_show 8 = .ok (.iconst (-1), 1) := by decide +kernel
theorem dX6_show_9 : decode cX6_show 9 = .ok (.if_icmp .eq 21, 3) := by decide +kernel
theorem dX6_show_12 : decode cX6_show 12 = .ok (.aload_n 0, 1) := by decide +kernel
theorem dX6_show_13 : decode cX6_show 13 = .ok (.getfield 10, 3) := by decide +kernel
theorem dX6_show_16 : decode cX6_show 16 = .ok (.iload_n 2, 1) := by decide +kernel
theorem dX6_show_17 : decode cX6_show 17 = .ok (.invokevirtual 113, 3) := by decide +kernel
theorem dX6_show_20 : decode cX6_show 20 = .ok (.ifCond .ne 10, 3) := by decide +kernel
theorem dX6_show_23 : decode cX6_show 23 = .ok (.aload_n 0, 1) := by decide +kernel
theorem dX6_show_24 : decode cX6_show 24 = .ok (.bipush (-2), 2) := by decide +kernel
theorem dX6_show_26 : decode cX6_show 26 = .ok (.invokevirtual 77, 3) := by decide +kernel
theorem dX6_show_29 : decode cX6_show 29 = .ok (.ireturn, 1) := by decide +kernel
theorem dX6_show_30 : decode cX6_show 30 = .ok (.aload_n 0, 1) := by decide +kernel
theorem dX6_show_31 : decode cX6_show 31 = .ok (.getfield 25, 3) := by decide +kernel
theorem dX6_show_34 : decode cX6_show 34 = .ok (.iload_n 1, 1) := by decide +kernel
theorem dX6_show_35 : decode cX6_show 35 = .ok (.iload_n 2, 1) := by decide +kernel
theorem dX6_show_36 : decode cX6_show 36 = .ok (.invokevirtual 116, 3) := by decide +kernel
theorem dX6_show_39 : decode cX6_show 39 = .ok (.iconst 1, 1) := by decide +kernel
theorem dX6_show_40 : decode cX6_show 40 = .ok (.ireturn, 1) := by decide +kernel
set_option maxRecDepth 20000 in
theorem ggX6_says_X6_isShelf : GoodIn wsX6_says wsX6_isShelf := goodIn_r _ [6, 7, 8, 5, 9] (by decide +kernel) (by decide +kernel)
set_option maxRecDepth 20000 in
theorem gX6_says_X6_isShelf : GoodIn wsX6_says (va_wsS RX6 69 yX6_isShelf wsX6_isShelf) := goodIn_app (goodIn_of _ (by decide +kernel)) ggX6_says_X6_isShelf
set_option maxRecDepth 20000 in
theorem ggX6_says_X6_isKind : GoodIn wsX6_says wsX6_isKind := goodIn_r _ [12, 7, 8, 5, 9] (by decide +kernel) (by decide +kernel)
set_option maxRecDepth 20000 in
theorem gX6_says_X6_isKind : GoodIn wsX6_says (va_wsS RX6 120 yX6_isKind wsX6_isKind) := goodIn_app (goodIn_of _ (by decide +kernel)) ggX6_says_X6_isKind
set_option maxRecDepth 20000 in
theorem ggX6_says_X6_refuse : GoodIn wsX6_says wsX6_refuse := goodIn_r _ [16, 17, 76, 77, 78, 79, 80, 81, 82, 83, 84, 85] (by decide +kernel) (by decide +kernel)
set_option maxRecDepth 20000 in
theorem gX6_says_X6_refuse : GoodIn wsX6_says (wsV RX6 77 RX6 yX6_refuse wsX6_refuse) := goodIn_app (goodIn_of _ (by decide +kernel)) ggX6_says_X6_refuse
set_option maxRecDepth 20000 in
theorem ggX6_says_X3_heldBy : GoodIn wsX6_says wsX3_heldBy := goodIn_r _ [22, 23, 4, 5, 6, 7, 8, 9, 86, 87, 88] (by decide +kernel) (by decide +kernel)
set_option maxRecDepth 20000 in
theorem gX6_says_X3_heldBy : GoodIn wsX6_says (wsV RX6 110 RX3 yX3_heldBy wsX3_heldBy) := goodIn_app (goodIn_of _ (by decide +kernel)) ggX6_says_X3_heldBy
set_option maxRecDepth 20000 in
theorem ggX6_says_X5_isOne : GoodIn wsX6_says wsX5_isOne := goodIn_r _ [28, 29, 89, 90, 91, 92, 93, 94, 95, 96, 97, 98, 99, 100, 101, 102] (by decide +kernel) (by decide +kernel)
set_option maxRecDepth 20000 in
theorem gX6_says_X5_isOne : GoodIn wsX6_says (wsV RX6 113 RX5 yX5_isOne wsX5_isOne) := goodIn_app (goodIn_of _ (by decide +kernel)) ggX6_says_X5_isOne
set_option maxRecDepth 20000 in
theorem ggX6_says_X5_isOfKind : GoodIn wsX6_says wsX5_isOfKind := goodIn_r _ [33, 34, 89, 90, 91, 92, 93, 94, 95, 96, 97, 98, 99, 100, 101, 102] (by decide +kernel) (by decide +kernel)
set_option maxRecDepth 20000 in
theorem gX6_says_X5_isOfKind : GoodIn wsX6_says (wsV RX6 123 RX5 yX5_isOfKind wsX5_isOfKind) := goodIn_app (goodIn_of _ (by decide +kernel)) ggX6_says_X5_isOfKind
set_option maxRecDepth 20000 in
theorem ggX6_says_X5_sayingAs : GoodIn wsX6_says wsX5_sayingAs := goodIn_r _ [38, 39, 40, 41, 42, 43, 44, 45, 46, 47, 48, 49, 50, 51, 52, 27, 53, 54, 55, 56, 5, 57, 58, 59, 60, 61, 62, 63, 64, 34, 65, 66, 67, 68, 69, 70, 71, 72, 73, 29, 74, 75, 89, 90, 91, 92, 93, 94, 95, 96, 97, 98, 99, 100, 101, 102] (by decide +kernel) (by decide +kernel)
set_option maxRecDepth 20000 in
theorem gX6_says_X5_sayingAs : GoodIn wsX6_says (wsV RX6 127 RX5 yX5_sayingAs wsX5_sayingAs) := goodIn_app (goodIn_of _ (by decide +kernel)) ggX6_says_X5_sayingAs
theorem dX6_says_0 : decode cX6_says 0 = .ok (.iload_n 1, 1) := by decide +kernel
theorem dX6_says_1 : decode cX6_says 1 = .ok (.invokestatic 69, 3) := by decide +kernel
theorem dX6_says_4 : decode cX6_says 4 = .ok (.ifCond .eq 10, 3) := by decide +kernel
theorem dX6_says_7 : decode cX6_says 7 = .ok (.iload_n 2, 1) := by decide +kernel
theorem dX6_says_8 : decode cX6_says 8 = .ok (.invokestatic 120, 3) := by decide +kernel
theorem dX6_says_11 : decode cX6_says 11 = .ok (.ifCond .ne 10, 3) := by decide +kernel
theorem dX6_says_14 : decode cX6_says 14 = .ok (.aload_n 0, 1) := by decide +kernel
theorem dX6_says_15 : decode cX6_says 15 = .ok (.bipush (-2), 2) := by decide +kernel
theorem dX6_says_17 : decode cX6_says 17 = .ok (.invokevirtual 77, 3) := by decide +kernel
theorem dX6_says_20 : decode cX6_says 20 = .ok (.ireturn, 1) := by decide +kernel
theorem dX6_says_21 : decode cX6_says 21 = .ok (.aload_n 0, 1) := by decide +kernel
theorem dX6_says_22 : decode cX6_says 22 = .ok (.getfield 25, 3) := by decide +kernel
theorem dX6_says_25 : decode cX6_says 25 = .ok (.iload_n 1, 1) := by decide +kernel
theorem dX6_says_26 : decode cX6_says 26 = .ok (.invokevirtual 110, 3) := by decide +kernel
theorem dX6_says_29 : decode cX6_says 29 = .ok (.istore_n 3, 1) := by decide +kernel
theorem dX6_says_30 : decode cX6_says 30 = .ok (.iload_n 3, 1) := by decide +kernel
theorem dX6_says_31 : decode cX6_says 31 = .ok (.iconst (-1), 1) := by decide +kernel
theorem dX6_says_32 : decode cX6_says 32 = .ok (.if_icmp .ne 10, 3) := by decide +kernel
theorem dX6_says_35 : decode cX6_says 35 = .ok (.aload_n 0, 1) := by decide +kernel
theorem dX6_says_36 : decode cX6_says 36 = .ok (.bipush (-4), 2) := by decide +kernel
theorem dX6_says_38 : decode cX6_says 38 = .ok (.invokevirtual 77, 3) := by decide +kernel
theorem dX6_says_41 : decode cX6_says 41 = .ok (.ireturn, 1) := by decide +kernel
theorem dX6_says_42 : decode cX6_says 42 = .ok (.iload_n 3, 1) := by decide +kernel
theorem dX6_says_43 : decode cX6_says 43 = .ok (.bipush 10, 2) := by decide +kernel
theorem dX6_says_45 : decode cX6_says 45 = .ok (.isub, 1) := by decide +kernel
theorem dX6_says_46 : decode cX6_says 46 = .ok (.istore 4, 2) := by decide +kernel
theorem dX6_says_48 : decode cX6_says 48 = .ok (.aload_n 0, 1) := by decide +kernel
theorem dX6_says_49 : decode cX6_says 49 = .ok (.getfield 10, 3) := by decide +kernel
theorem dX6_says_52 : decode cX6_says 52 = .ok (.iload 4, 2) := by decide +kernel
theorem dX6_says_54 : decode cX6_says 54 = .ok (.invokevirtual 113, 3) := by decide +kernel
theorem dX6_says_57 : decode cX6_says 57 = .ok (.ifCond .eq 16, 3) := by decide +kernel
theorem dX6_says_60 : decode cX6_says 60 = .ok (.aload_n 0, 1) := by decide +kernel
theorem dX6_says_61 : decode cX6_says 61 = .ok (.getfield 10, 3) := by decide +kernel
theorem dX6_says_64 : decode cX6_says 64 = .ok (.iload 4, 2) := by decide +kernel
theorem dX6_says_66 : decode cX6_says 66 = .ok (.iload_n 2, 1) := by decide +kernel
theorem dX6_says_67 : decode cX6_says 67 = .ok (.invokevirtual 123, 3) := by decide +kernel
theorem dX6_says_70 : decode cX6_says 70 = .ok (.ifCond .ne 10, 3) := by decide +kernel
theorem dX6_says_73 : decode cX6_says 73 = .ok (.aload_n 0, 1) := by decide +kernel
theorem dX6_says_74 : decode cX6_says 74 = .ok (.bipush (-3), 2) := by decide +kernel
theorem dX6_says_76 : decode cX6_says 76 = .ok (.invokevirtual 77, 3) := by decide +kernel
theorem dX6_says_79 : decode cX6_says 79 = .ok (.ireturn, 1) := by decide +kernel
theorem dX6_says_80 : decode cX6_says 80 = .ok (.aload_n 0, 1) := by decide +kernel
theorem dX6_says_81 : decode cX6_says 81 = .ok (.getfield 10, 3) := by decide +kernel
theorem dX6_says_84 : decode cX6_says 84 = .ok (.iload 4, 2) := by decide +kernel
theorem dX6_says_86 : decode cX6_says 86 = .ok (.iload_n 2, 1) := by decide +kernel
theorem dX6_says_87 : decode cX6_says 87 = .ok (.invokevirtual 127, 3) := by decide +kernel
theorem dX6_says_90 : decode cX6_says 90 = .ok (.ireturn, 1) := by decide +kernel
set_option maxRecDepth 20000 in
theorem ggX6_sights_X6_isWithin : GoodIn wsX6_sights wsX6_isWithin := goodIn_r _ [6] (by decide +kernel) (by decide +kernel)
set_option maxRecDepth 20000 in
theorem gX6_sights_X6_isWithin : GoodIn wsX6_sights (va_wsS RX6 73 yX6_isWithin wsX6_isWithin) := goodIn_app (goodIn_of _ (by decide +kernel)) ggX6_sights_X6_isWithin
set_option maxRecDepth 20000 in
theorem ggX6_sights_X6_refuse : GoodIn wsX6_sights wsX6_refuse := goodIn_r _ [10, 11, 12, 13, 14, 15, 16, 17, 18, 19, 20, 21] (by decide +kernel) (by decide +kernel)
set_option maxRecDepth 20000 in
theorem gX6_sights_X6_refuse : GoodIn wsX6_sights (wsV RX6 77 RX6 yX6_refuse wsX6_refuse) := goodIn_app (goodIn_of _ (by decide +kernel)) ggX6_sights_X6_refuse
theorem dX6_sights_0 : decode cX6_sights 0 = .ok (.iload_n 1, 1) := by decide +kernel
theorem dX6_sights_1 : decode cX6_sights 1 = .ok (.aload_n 0, 1) := by decide +kernel
theorem dX6_sights_2 : decode cX6_sights 2 = .ok (.getfield 10, 3) := by decide +kernel
theorem dX6_sights_5 : decode cX6_sights 5 = .ok (.getfield 130, 3) := by decide +kernel
theorem dX6_sights_8 : decode cX6_sights 8 = .ok (.bipush 8, 2) := by decide +kernel
theorem dX6_sights_10 : decode cX6_sights 10 = .ok (.invokestatic 73, 3) := by decide +kernel
theorem dX6_sights_13 : decode cX6_sights 13 = .ok (.ifCond .ne 10, 3) := by decide +kernel
theorem dX6_sights_16 : decode cX6_sights 16 = .ok (.aload_n 0, 1) := by decide +kernel
theorem dX6_sights_17 : decode cX6_sights 17 = .ok (.bipush (-2), 2) := by decide +kernel
theorem dX6_sights_19 : decode cX6_sights 19 = .ok (.invokevirtual 77, 3) := by decide +kernel
theorem dX6_sights_22 : decode cX6_sights 22 = .ok (.ireturn, 1) := by decide +kernel
theorem dX6_sights_23 : decode cX6_sights 23 = .ok (.aload_n 0, 1) := by decide +kernel
theorem dX6_sights_24 : decode cX6_sights 24 = .ok (.getfield 10, 3) := by decide +kernel
theorem dX6_sights_27 : decode cX6_sights 27 = .ok (.getfield 130, 3) := by decide +kernel
theorem dX6_sights_30 : decode cX6_sights 30 = .ok (.istore_n 2, 1) := by decide +kernel
theorem dX6_sights_31 : decode cX6_sights 31 = .ok (.aload_n 0, 1) := by decide +kernel
theorem dX6_sights_32 : decode cX6_sights 32 = .ok (.getfield 10, 3) := by decide +kernel
theorem dX6_sights_35 : decode cX6_sights 35 = .ok (.iload_n 1, 1) := by decide +kernel
theorem dX6_sights_36 : decode cX6_sights 36 = .ok (.putfield 130, 3) := by decide +kernel
theorem dX6_sights_39 : decode cX6_sights 39 = .ok (.iload_n 2, 1) := by decide +kernel
theorem dX6_sights_40 : decode cX6_sights 40 = .ok (.ireturn, 1) := by decide +kernel
set_option maxRecDepth 20000 in
theorem ggX6_person_X6_isKind : GoodIn wsX6_person wsX6_isKind := goodIn_r _ [5, 6, 7, 4, 8] (by decide +kernel) (by decide +kernel)
set_option maxRecDepth 20000 in
theorem gX6_person_X6_isKind : GoodIn wsX6_person (va_wsS RX6 120 yX6_isKind wsX6_isKind) := goodIn_app (goodIn_of _ (by decide +kernel)) ggX6_person_X6_isKind
set_option maxRecDepth 20000 in
theorem ggX6_person_X6_isWithin : GoodIn wsX6_person wsX6_isWithin := goodIn_r _ [8] (by decide +kernel) (by decide +kernel)
set_option maxRecDepth 20000 in
theorem gX6_person_X6_isWithin : GoodIn wsX6_person (va_wsS RX6 73 yX6_isWithin wsX6_isWithin) := goodIn_app (goodIn_of _ (by decide +kernel)) ggX6_person_X6_isWithin
set_option maxRecDepth 20000 in
theorem ggX6_person_X6_refuse : GoodIn wsX6_person wsX6_refuse := goodIn_r _ [12, 13, 30, 31, 32, 33, 34, 35, 36, 37, 38, 39] (by decide +kernel) (by decide +kernel)
set_option maxRecDepth 20000 in
theorem gX6_person_X6_refuse : GoodIn wsX6_person (wsV RX6 77 RX6 yX6_refuse wsX6_refuse) := goodIn_app (goodIn_of _ (by decide +kernel)) ggX6_person_X6_refuse
set_option maxRecDepth 20000 in
theorem ggX6_person_X5_isFull : GoodIn wsX6_person wsX5_isFull := goodIn_r _ [18, 19, 40, 41, 42, 43, 44, 45, 46, 47, 48, 49, 50, 51, 52, 53] (by decide +kernel) (by decide +kernel)
set_option maxRecDepth 20000 in
theorem gX6_person_X5_isFull : GoodIn wsX6_person (wsV RX6 134 RX5 yX5_isFull wsX5_isFull) := goodIn_app (goodIn_of _ (by decide +kernel)) ggX6_person_X5_isFull
set_option maxRecDepth 20000 in
theorem ggX6_person_X5_join : GoodIn wsX6_person wsX5_join := goodIn_r _ [23, 19, 24, 25, 26, 27, 28, 29, 40, 41, 42, 43, 44, 45, 46, 47, 48, 49, 50, 51, 52, 53] (by decide +kernel) (by decide +kernel)
set_option maxRecDepth 20000 in
theorem gX6_person_X5_join : GoodIn wsX6_person (wsV RX6 138 RX5 yX5_join wsX5_join) := goodIn_app (goodIn_of _ (by decide +kernel)) ggX6_person_X5_join
theorem dX6_person_0 : decode cX6_person 0 = .ok (.iload_n 1, 1) := by decide +kernel
theorem dX6_person_1 : decode cX6_person 1 = .ok (.invokestatic 120, 3) := by decide +kernel
theorem dX6_person_4 : decode cX6_person 4 = .ok (.ifCond .eq 13, 3) := by decide +kernel
theorem dX6_person_7 : decode cX6_person 7 = .ok (.iload_n 2, 1) := by decide +kernel
theorem dX6_person_8 : decode cX6_person 8 = .ok (.iconst 0, 1) := by decide +kernel
theorem dX6_person_9 : decode cX6_person 9 = .ok (.bipush 9, 2) := by decide +kernel
theorem dX6_person_11 : decode cX6_person 11 = .ok (.invokestatic 73, 3) := by decide +kernel
theorem dX6_person_14 : decode cX6_person 14 = .ok (.ifCond .ne 10, 3) := by decide +kernel
theorem dX6_person_17 : decode cX6_person 17 = .ok (.aload_n 0, 1) := by decide +kernel
theorem dX6_person_18 : decode cX6_person 18 = .ok (.bipush (-2), 2) := by decide +kernel
theorem dX6_person_20 : decode cX6_person 20 = .ok (.invokevirtual 77, 3) := by decide +kernel
theorem dX6_person_23 : decode cX6_person 23 = .ok (.ireturn, 1) := by decide +kernel
theorem dX6_person_24 : decode cX6_person 24 = .ok (.aload_n 0, 1) := by decide +kernel
theorem dX6_person_25 : decode cX6_person 25 = .ok (.getfield 10, 3) := by decide +kernel
theorem dX6_person_28 : decode cX6_person 28 = .ok (.invokevirtual 134, 3) := by decide +kernel
theorem dX6_person_31 : decode cX6_person 31 = .ok (.ifCond .eq 10, 3) := by decide +kernel
theorem dX6_person_34 : decode cX6_person 34 = .ok (.aload_n 0, 1) := by decide +kernel
theorem dX6_person_35 : decode cX6_person 35 = .ok (.bipush (-6), 2) := by decide +kernel
theorem dX6_person_37 : decode cX6_person 37 = .ok (.invokevirtual 77, 3) := by decide +kernel
theorem dX6_person_40 : decode cX6_person 40 = .ok (.ireturn, 1) := by decide +kernel
theorem dX6_person_41 : decode cX6_person 41 = .ok (.aload_n 0, 1) := by decide +kernel
theorem dX6_person_42 : decode cX6_person 42 = .ok (.getfield 10, 3) := by decide +kernel
theorem dX6_person_45 : decode cX6_person 45 = .ok (.iload_n 1, 1) := by decide +kernel
theorem dX6_person_46 : decode cX6_person 46 = .ok (.iload_n 2, 1) := by decide +kernel
theorem dX6_person_47 : decode cX6_person 47 = .ok (.invokevirtual 138, 3) := by decide +kernel
theorem dX6_person_50 : decode cX6_person 50 = .ok (.ireturn, 1) := by decide +kernel
set_option maxRecDepth 20000 in
theorem ggX6_see_X5_isOne : GoodIn wsX6_see wsX5_isOne := goodIn_r _ [6, 7, 51, 52, 53, 54, 55, 56, 57, 58, 59, 60, 61, 62, 63, 64] (by decide +kernel) (by decide +kernel)
set_option maxRecDepth 20000 in
theorem gX6_see_X5_isOne : GoodIn wsX6_see (wsV RX6 113 RX5 yX5_isOne wsX5_isOne) := goodIn_app (goodIn_of _ (by decide +kernel)) ggX6_see_X5_isOne
set_option maxRecDepth 20000 in
theorem ggX6_see_X5_isSight : GoodIn wsX6_see wsX5_isSight := goodIn_r _ [11, 12, 51, 52, 53, 54, 55, 56, 57, 58, 59, 60, 61, 62, 63, 64] (by decide +kernel) (by decide +kernel)
set_option maxRecDepth 20000 in
theorem gX6_see_X5_isSight : GoodIn wsX6_see (wsV RX6 141 RX5 yX5_isSight wsX5_isSight) := goodIn_app (goodIn_of _ (by decide +kernel)) ggX6_see_X5_isSight
set_option maxRecDepth 20000 in
theorem ggX6_see_X6_isWithin : GoodIn wsX6_see wsX6_isWithin := goodIn_r _ [16] (by decide +kernel) (by decide +kernel)
set_option maxRecDepth 20000 in
theorem gX6_see_X6_isWithin : GoodIn wsX6_see (va_wsS RX6 73 yX6_isWithin wsX6_isWithin) := goodIn_app (goodIn_of _ (by decide +kernel)) ggX6_see_X6_isWithin
set_option maxRecDepth 20000 in
theorem ggX6_see_X6_refuse : GoodIn wsX6_see wsX6_refuse := goodIn_r _ [20, 21, 41, 42, 43, 44, 45, 46, 47, 48, 49, 50] (by decide +kernel) (by decide +kernel)
set_option maxRecDepth 20000 in
theorem gX6_see_X6_refuse : GoodIn wsX6_see (wsV RX6 77 RX6 yX6_refuse wsX6_refuse) := goodIn_app (goodIn_of _ (by decide +kernel)) ggX6_see_X6_refuse
set_option maxRecDepth 20000 in
theorem ggX6_see_X5_kindOf : GoodIn wsX6_see wsX5_kindOf := goodIn_r _ [25, 26, 51, 52, 53, 54, 55, 56, 57, 58, 59, 60, 61, 62, 63, 64] (by decide +kernel) (by decide +kernel)
set_option maxRecDepth 20000 in
theorem gX6_see_X5_kindOf : GoodIn wsX6_see (wsV RX6 144 RX5 yX5_kindOf wsX5_kindOf) := goodIn_app (goodIn_of _ (by decide +kernel)) ggX6_see_X5_kindOf
set_option maxRecDepth 20000 in
theorem ggX6_see_X5_howSeen : GoodIn wsX6_see wsX5_howSeen := goodIn_r _ [30, 31, 32, 33, 15, 34, 51, 52, 53, 54, 55, 56, 57, 58, 59, 60, 61, 62, 63, 64] (by decide +kernel) (by decide +kernel)
set_option maxRecDepth 20000 in
theorem gX6_see_X5_howSeen : GoodIn wsX6_see (wsV RX6 147 RX5 yX5_howSeen wsX5_howSeen) := goodIn_app (goodIn_of _ (by decide +kernel)) ggX6_see_X5_howSeen
set_option maxRecDepth 20000 in
theorem ggX6_see_X5_putSeen : GoodIn wsX6_see wsX5_putSeen := goodIn_r _ [38, 31, 32, 39, 15, 40, 51, 52, 53, 54, 55, 56, 57, 58, 59, 60, 61, 62, 63, 64] (by decide +kernel) (by decide +kernel)
set_option maxRecDepth 20000 in
theorem gX6_see_X5_putSeen : GoodIn wsX6_see (wsV RX6 150 RX5 yX5_putSeen wsX5_putSeen) := goodIn_app (goodIn_of _ (by decide +kernel)) ggX6_see_X5_putSeen
theorem dX6_see_0 : decode cX6_see 0 = .ok (.aload_n 0, 1) := by decide +kernel
theorem dX6_see_1 : decode cX6_see 1 = .ok (.getfield 10, 3) := by decide +kernel
theorem dX6_see_4 : decode cX6_see 4 = .ok (.iload_n 1, 1) := by decide +kernel
theorem dX6_see_5 : decode cX6_see 5 = .ok (.invokevirtual 113, 3) := by decide +kernel
theorem dX6_see_8 : decode cX6_see 8 = .ok (.ifCond .eq 23, 3) := by decide +kernel
theorem dX6_see_11 : decode cX6_see 11 = .ok (.aload_n 0, 1) := by decide +kernel
theorem dX6_see_12 : decode cX6_see 12 = .ok (.getfield 10, 3) := by decide +kernel
theorem dX6_see_15 : decode cX6_see 15 = .ok (.iload_n 2, 1) := by decide +kernel
theorem dX6_see_16 : decode cX6_see 16 = .ok (.invokevirtual 141, 3) := by decide +kernel
theorem dX6_see_19 : decode cX6_see 19 = .ok (.ifCond .eq 12, 3) := by decide +kernel
theorem dX6_see_22 : decode cX6_see 22 = .ok (.iload_n 3, 1) := by decide +kernel
theorem dX6_see_23 : decode cX6_see 23 = .ok (.iconst 0, 1) := by decide +kernel
theorem dX6_see_24 : decode cX6_see 24 = .ok (.iconst 2, 1) := by decide +kernel
theorem dX6_see_25 : decode cX6_see 25 = .ok (.invokestatic 73, 3) := by decide +kernel
theorem dX6_see_28 : decode cX6_see 28 = .ok (.ifCond .ne 10, 3) := by decide +kernel
theorem dX6_see_31 : decode cX6_see 31 = .ok (.aload_n 0, 1) := by decide +kernel
theorem dX6_see_32 : decode cX6_see 32 = .ok (.bipush (-2), 2) := by decide +kernel
theorem dX6_see_34 : decode cX6_see 34 = .ok (.invokevirtual 77, 3) := by decide +kernel
theorem dX6_see_37 : decode cX6_see 37 = .ok (.ireturn, 1) := by decide +kernel
theorem dX6_see_38 : decode cX6_see 38 = .ok (.iload_n 3, 1) := by decide +kernel
theorem dX6_see_39 : decode cX6_see 39 = .ok (.ifCond .eq 22, 3) := by decide +kernel
theorem dX6_see_42 : decode cX6_see 42 = .ok (.aload_n 0, 1) := by decide +kernel
theorem dX6_see_43 : decode cX6_see 43 = .ok (.getfield 10, 3) := by decide +kernel
theorem dX6_see_46 : decode cX6_see 46 = .ok (.iload_n 1, 1) := by decide +kernel
theorem dX6_see_47 : decode cX6_see 47 = .ok (.invokevirtual 144, 3) := by decide +kernel
theorem dX6_see_50 : decode cX6_see 50 = .ok (.iconst 4, 1) := by decide +kernel
theorem dX6_see_51 : decode cX6_see 51 = .ok (.if_icmp .ne 10, 3) := by decide +kernel
theorem dX6_see_54 : decode cX6_see 54 = .ok (.aload_n 0, 1) := by decide +kernel
theorem dX6_see_55 : decode cX6_see 55 = .ok (.bipush (-5), 2) := by decide +kernel
theorem dX6_see_57 : decode cX6_see 57 = .ok (.invokevirtual 77, 3) := by decide +kernel
theorem dX6_see_60 : decode cX6_see 60 = .ok (.ireturn, 1) := by decide +kernel
theorem dX6_see_61 : decode cX6_see 61 = .ok (.aload_n 0, 1) := by decide +kernel
theorem dX6_see_62 : decode cX6_see 62 = .ok (.getfield 10, 3) := by decide +kernel
theorem dX6_see_65 : decode cX6_see 65 = .ok (.iload_n 1, 1) := by decide +kernel
theorem dX6_see_66 : decode cX6_see 66 = .ok (.iload_n 2, 1) := by decide +kernel
theorem dX6_see_67 : decode cX6_see 67 = .ok (.invokevirtual 147, 3) := by decide +kernel
theorem dX6_see_70 : decode cX6_see 70 = .ok (.istore 4, 2) := by decide +kernel
theorem dX6_see_72 : decode cX6_see 72 = .ok (.aload_n 0, 1) := by decide +kernel
theorem dX6_see_73 : decode cX6_see 73 = .ok (.getfield 10, 3) := by decide +kernel
theorem dX6_see_76 : decode cX6_see 76 = .ok (.iload_n 1, 1) := by decide +kernel
theorem dX6_see_77 : decode cX6_see 77 = .ok (.iload_n 2, 1) := by decide +kernel
theorem dX6_see_78 : decode cX6_see 78 = .ok (.iload_n 3, 1) := by decide +kernel
theorem dX6_see_79 : decode cX6_see 79 = .ok (.invokevirtual 150, 3) := by decide +kernel
theorem dX6_see_82 : decode cX6_see 82 = .ok (.iload 4, 2) := by decide +kernel
theorem dX6_see_84 : decode cX6_see 84 = .ok (.ireturn, 1) := by decide +kernel
set_option maxRecDepth 20000 in
theorem ggX6_hear_X5_isOne : GoodIn wsX6_hear wsX5_isOne := goodIn_r _ [7, 8, 40, 41, 42, 43, 44, 45, 46, 47, 48, 49, 50, 51, 52, 53] (by decide +kernel) (by decide +kernel)
set_option maxRecDepth 20000 in
theorem gX6_hear_X5_isOne : GoodIn wsX6_hear (wsV RX6 113 RX5 yX5_isOne wsX5_isOne) := goodIn_app (goodIn_of _ (by decide +kernel)) ggX6_hear_X5_isOne
set_option maxRecDepth 20000 in
theorem ggX6_hear_X5_isSight : GoodIn wsX6_hear wsX5_isSight := goodIn_r _ [12, 13, 40, 41, 42, 43, 44, 45, 46, 47, 48, 49, 50, 51, 52, 53] (by decide +kernel) (by decide +kernel)
set_option maxRecDepth 20000 in
theorem gX6_hear_X5_isSight : GoodIn wsX6_hear (wsV RX6 141 RX5 yX5_isSight wsX5_isSight) := goodIn_app (goodIn_of _ (by decide +kernel)) ggX6_hear_X5_isSight
set_option maxRecDepth 20000 in
theorem ggX6_hear_X6_refuse : GoodIn wsX6_hear wsX6_refuse := goodIn_r _ [18, 19, 30, 31, 32, 33, 34, 35, 36, 37, 38, 39] (by decide +kernel) (by decide +kernel)
set_option maxRecDepth 20000 in
theorem gX6_hear_X6_refuse : GoodIn wsX6_hear (wsV RX6 77 RX6 yX6_refuse wsX6_refuse) := goodIn_app (goodIn_of _ (by decide +kernel)) ggX6_hear_X6_refuse
set_option maxRecDepth 20000 in
theorem ggX6_hear_X6_has : GoodIn wsX6_hear wsX6_has := goodIn_r _ [22] (by decide +kernel) (by decide +kernel)
set_option maxRecDepth 20000 in
theorem gX6_hear_X6_has : GoodIn wsX6_hear (va_wsS RX6 156 yX6_has wsX6_has) := goodIn_app (goodIn_of _ (by decide +kernel)) ggX6_hear_X6_has
set_option maxRecDepth 20000 in
theorem ggX6_hear_X5_putHeard : GoodIn wsX6_hear wsX5_putHeard := goodIn_r _ [26, 27, 28, 17, 29, 40, 41, 42, 43, 44, 45, 46, 47, 48, 49, 50, 51, 52, 53] (by decide +kernel) (by decide +kernel)
set_option maxRecDepth 20000 in
theorem gX6_hear_X5_putHeard : GoodIn wsX6_hear (wsV RX6 159 RX5 yX5_putHeard wsX5_putHeard) := goodIn_app (goodIn_of _ (by decide +kernel)) ggX6_hear_X5_putHeard
theorem dX6_hear_0 : decode cX6_hear 0 = .ok (.aload_n 0, 1) := by decide +kernel
theorem dX6_hear_1 : decode cX6_hear 1 = .ok (.getfield 10, 3) := by decide +kernel
theorem dX6_hear_4 : decode cX6_hear 4 = .ok (.iload_n 1, 1) := by decide +kernel
theorem dX6_hear_5 : decode cX6_hear 5 = .ok (.invokevirtual 113, 3) := by decide +kernel
theorem dX6_hear_8 : decode cX6_hear 8 = .ok (.ifCond .eq 14, 3) := by decide +kernel
theorem dX6_hear_11 : decode cX6_hear 11 = .ok (.aload_n 0, 1) := by decide +kernel
theorem dX6_hear_12 : decode cX6_hear 12 = .ok (.getfield 10, 3) := by decide +kernel
theorem dX6_hear_15 : decode cX6_hear 15 = .ok (.iload_n 2, 1) := by decide +kernel
theorem dX6_hear_16 : decode cX6_hear 16 = .ok (.invokevirtual 141, 3) := by decide +kernel
theorem dX6_hear_19 : decode cX6_hear 19 = .ok (.ifCond .ne 10, 3) := by decide +kernel
theorem dX6_hear_22 : decode cX6_hear 22 = .ok (.aload_n 0, 1) := by decide +kernel
theorem dX6_hear_23 : decode cX6_hear 23 = .ok (.bipush (-2), 2) := by decide +kernel
theorem dX6_hear_25 : decode cX6_hear 25 = .ok (.invokevirtual 77, 3) := by decide +kernel
theorem dX6_hear_28 : decode cX6_hear 28 = .ok (.ireturn, 1) := by decide +kernel
theorem dX6_hear_29 : decode cX6_hear 29 = .ok (.aload_n 0, 1) := by decide +kernel
theorem dX6_hear_30 : decode cX6_hear 30 = .ok (.getfield 10, 3) := by decide +kernel
theorem dX6_hear_33 : decode cX6_hear 33 = .ok (.getfield 153, 3) := by decide +kernel
theorem dX6_hear_36 : decode cX6_hear 36 = .ok (.iload_n 1, 1) := by decide +kernel
theorem dX6_hear_37 : decode cX6_hear 37 = .ok (.iaload, 1) := by decide +kernel
theorem dX6_hear_38 : decode cX6_hear 38 = .ok (.iload_n 2, 1) := by decide +kernel
theorem dX6_hear_39 : decode cX6_hear 39 = .ok (.invokestatic 156, 3) := by decide +kernel
theorem dX6_hear_42 : decode cX6_hear 42 = .ok (.istore 4, 2) := by decide +kernel
theorem dX6_hear_44 : decode cX6_hear 44 = .ok (.aload_n 0, 1) := by decide +kernel
theorem dX6_hear_45 : decode cX6_hear 45 = .ok (.getfield 10, 3) := by decide +kernel
theorem dX6_hear_48 : decode cX6_hear 48 = .ok (.iload_n 1, 1) := by decide +kernel
theorem dX6_hear_49 : decode cX6_hear 49 = .ok (.iload_n 2, 1) := by decide +kernel
theorem dX6_hear_50 : decode cX6_hear 50 = .ok (.iload_n 3, 1) := by decide +kernel
theorem dX6_hear_51 : decode cX6_hear 51 = .ok (.invokevirtual 159, 3) := by decide +kernel
theorem dX6_hear_54 : decode cX6_hear 54 = .ok (.iload 4, 2) := by decide +kernel
theorem dX6_hear_56 : decode cX6_hear 56 = .ok (.iload_n 3, 1) := by decide +kernel
theorem dX6_hear_57 : decode cX6_hear 57 = .ok (.if_icmp .ne 7, 3) := by decide +kernel
theorem dX6_hear_60 : decode cX6_hear 60 = .ok (.iconst 0, 1) := by decide +kernel
theorem dX6_hear_61 : decode cX6_hear 61 = .ok (.goto 4, 3) := by decide +kernel
theorem dX6_hear_64 : decode cX6_hear 64 = .ok (.iconst 1, 1) := by decide +kernel
theorem dX6_hear_65 : decode cX6_hear 65 = .ok (.ireturn, 1) := by decide +kernel
set_option maxRecDepth 20000 in
theorem ggX6_near_X5_isOne : GoodIn wsX6_near wsX5_isOne := goodIn_r _ [7, 8, 35, 36, 37, 38, 39, 40, 41, 42, 43, 44, 45, 46, 47, 48] (by decide +kernel) (by decide +kernel)
set_option maxRecDepth 20000 in
theorem gX6_near_X5_isOne : GoodIn wsX6_near (wsV RX6 113 RX5 yX5_isOne wsX5_isOne) := goodIn_app (goodIn_of _ (by decide +kernel)) ggX6_near_X5_isOne
set_option maxRecDepth 20000 in
theorem ggX6_near_X6_refuse : GoodIn wsX6_near wsX6_refuse := goodIn_r _ [13, 14, 25, 26, 27, 28, 29, 30, 31, 32, 33, 34] (by decide +kernel) (by decide +kernel)
set_option maxRecDepth 20000 in
theorem gX6_near_X6_refuse : GoodIn wsX6_near (wsV RX6 77 RX6 yX6_refuse wsX6_refuse) := goodIn_app (goodIn_of _ (by decide +kernel)) ggX6_near_X6_refuse
set_option maxRecDepth 20000 in
theorem ggX6_near_X6_has : GoodIn wsX6_near wsX6_has := goodIn_r _ [17] (by decide +kernel) (by decide +kernel)
set_option maxRecDepth 20000 in
theorem gX6_near_X6_has : GoodIn wsX6_near (va_wsS RX6 156 yX6_has wsX6_has) := goodIn_app (goodIn_of _ (by decide +kernel)) ggX6_near_X6_has
set_option maxRecDepth 20000 in
theorem ggX6_near_X5_putHears : GoodIn wsX6_near wsX5_putHears := goodIn_r _ [21, 22, 23, 12, 24, 35, 36, 37, 38, 39, 40, 41, 42, 43, 44, 45, 46, 47, 48] (by decide +kernel) (by decide +kernel)
set_option maxRecDepth 20000 in
theorem gX6_near_X5_putHears : GoodIn wsX6_near (wsV RX6 166 RX5 yX5_putHears wsX5_putHears) := goodIn_app (goodIn_of _ (by decide +kernel)) ggX6_near_X5_putHears
theorem dX6_near_0 : decode cX6_near 0 = .ok (.aload_n 0, 1) := by decide +kernel
theorem dX6_near_1 : decode cX6_near 1 = .ok (.getfield 10, 3) := by decide +kernel
theorem dX6_near_4 : decode cX6_near 4 = .ok (.iload_n 1, 1) := by decide +kernel
theorem dX6_near_5 : decode cX6_near 5 = .ok (.invokevirtual 113, 3) := by decide +kernel
theorem dX6_near_8 : decode cX6_near 8 = .ok (.ifCond .eq 19, 3) := by decide +kernel
theorem dX6_near_11 : decode cX6_near 11 = .ok (.aload_n 0, 1) := by decide +kernel
theorem dX6_near_12 : decode cX6_near 12 = .ok (.getfield 10, 3) := by decide +kernel
theorem dX6_near_15 : decode cX6_near 15 = .ok (.iload_n 2, 1) := by decide +kernel
theorem dX6_near_16 : decode cX6_near 16 = .ok (.invokevirtual 113, 3) := by decide +kernel
theorem dX6_near_19 : decode cX6_near 19 = .ok (.ifCond .eq 8, 3) := by decide +kernel
theorem dX6_near_22 : decode cX6_near 22 = .ok (.iload_n 1, 1) := by decide +kernel
theorem dX6_near_23 : decode cX6_near 23 = .ok (.iload_n 2, 1) := by decide +kernel
theorem dX6_near_24 : decode cX6_near 24 = .ok (.if_icmp .ne 10, 3) := by decide +kernel
theorem dX6_near_27 : decode cX6_near 27 = .ok (.aload_n 0, 1) := by decide +kernel
theorem dX6_near_28 : decode cX6_near 28 = .ok (.bipush (-2), 2) := by decide +kernel
theorem dX6_near_30 : decode cX6_near 30 = .ok (.invokevirtual 77, 3) := by decide +kernel
theorem dX6_near_33 : decode cX6_near 33 = .ok (.ireturn, 1) := by decide +kernel
theorem dX6_near_34 : decode cX6_near 34 = .ok (.aload_n 0, 1) := by decide +kernel
theorem dX6_near_35 : decode cX6_near 35 = .ok (.getfield 10, 3) := by decide +kernel
theorem dX6_near_38 : decode cX6_near 38 = .ok (.getfield 163, 3) := by decide +kernel
theorem dX6_near_41 : decode cX6_near 41 = .ok (.iload_n 1, 1) := by decide +kernel
theorem dX6_near_42 : decode cX6_near 42 = .ok (.iaload, 1) := by decide +kernel
theorem dX6_near_43 : decode cX6_near 43 = .ok (.iload_n 2, 1) := by decide +kernel
theorem dX6_near_44 : decode cX6_near 44 = .ok (.invokestatic 156, 3) := by decide +kernel
theorem dX6_near_47 : decode cX6_near 47 = .ok (.istore 4, 2) := by decide +kernel
theorem dX6_near_49 : decode cX6_near 49 = .ok (.aload_n 0, 1) := by decide +kernel
theorem dX6_near_50 : decode cX6_near 50 = .ok (.getfield 10, 3) := by decide +kernel
theorem dX6_near_53 : decode cX6_near 53 = .ok (.iload_n 1, 1) := by decide +kernel
theorem dX6_near_54 : decode cX6_near 54 = .ok (.iload_n 2, 1) := by decide +kernel
theorem dX6_near_55 : decode cX6_near 55 = .ok (.iload_n 3, 1) := by decide +kernel
theorem dX6_near_56 : decode cX6_near 56 = .ok (.invokevirtual 166, 3) := by decide +kernel
theorem dX6_near_59 : decode cX6_near 59 = .ok (.iload 4, 2) := by decide +kernel
theorem dX6_near_61 : decode cX6_near 61 = .ok (.iload_n 3, 1) := by decide +kernel
theorem dX6_near_62 : decode cX6_near 62 = .ok (.if_icmp .ne 7, 3) := by decide +kernel
theorem dX6_near_65 : decode cX6_near 65 = .ok (.iconst 0, 1) := by decide +kernel
theorem dX6_near_66 : decode cX6_near 66 = .ok (.goto 4, 3) := by decide +kernel
theorem dX6_near_69 : decode cX6_near 69 = .ok (.iconst 1, 1) := by decide +kernel
theorem dX6_near_70 : decode cX6_near 70 = .ok (.ireturn, 1) := by decide +kernel
set_option maxRecDepth 20000 in
theorem ggX6_ask_X6_isWithin : GoodIn wsX6_ask wsX6_isWithin := goodIn_r _ [5] (by decide +kernel) (by decide +kernel)
set_option maxRecDepth 20000 in
theorem gX6_ask_X6_isWithin : GoodIn wsX6_ask (va_wsS RX6 73 yX6_isWithin wsX6_isWithin) := goodIn_app (goodIn_of _ (by decide +kernel)) ggX6_ask_X6_isWithin
set_option maxRecDepth 20000 in
theorem ggX6_ask_X5_mostOf : GoodIn wsX6_ask wsX5_mostOf := goodIn_r _ [9] (by decide +kernel) (by decide +kernel)
set_option maxRecDepth 20000 in
theorem gX6_ask_X5_mostOf : GoodIn wsX6_ask (va_wsS RX6 169 yX5_mostOf wsX5_mostOf) := goodIn_app (goodIn_of _ (by decide +kernel)) ggX6_ask_X5_mostOf
set_option maxRecDepth 20000 in
theorem ggX6_ask_X6_refuse : GoodIn wsX6_ask wsX6_refuse := goodIn_r _ [13, 14, 26, 27, 28, 29, 30, 31, 32, 33, 34, 35] (by decide +kernel) (by decide +kernel)
set_option maxRecDepth 20000 in
theorem gX6_ask_X6_refuse : GoodIn wsX6_ask (wsV RX6 77 RX6 yX6_refuse wsX6_refuse) := goodIn_app (goodIn_of _ (by decide +kernel)) ggX6_ask_X6_refuse
set_option maxRecDepth 20000 in
theorem ggX6_ask_X5_settingOf : GoodIn wsX6_ask wsX5_settingOf := goodIn_r _ [18, 19, 20, 21, 36, 37, 38, 39, 40, 41, 42, 43, 44, 45, 46, 47, 48, 49] (by decide +kernel) (by decide +kernel)
set_option maxRecDepth 20000 in
theorem gX6_ask_X5_settingOf : GoodIn wsX6_ask (wsV RX6 172 RX5 yX5_settingOf wsX5_settingOf) := goodIn_app (goodIn_of _ (by decide +kernel)) ggX6_ask_X5_settingOf
set_option maxRecDepth 20000 in
theorem ggX6_ask_X5_putSetting : GoodIn wsX6_ask wsX5_putSetting := goodIn_r _ [25, 19, 20, 21, 36, 37, 38, 39, 40, 41, 42, 43, 44, 45, 46, 47, 48, 49] (by decide +kernel) (by decide +kernel)
set_option maxRecDepth 20000 in
theorem gX6_ask_X5_putSetting : GoodIn wsX6_ask (wsV RX6 175 RX5 yX5_putSetting wsX5_putSetting) := goodIn_app (goodIn_of _ (by decide +kernel)) ggX6_ask_X5_putSetting
theorem dX6_ask_0 : decode cX6_ask 0 = .ok (.iload_n 1, 1) := by decide +kernel
theorem dX6_ask_1 : decode cX6_ask 1 = .ok (.iconst 0, 1) := by decide +kernel
theorem dX6_ask_2 : decode cX6_ask 2 = .ok (.iconst 2, 1) := by decide +kernel
theorem dX6_ask_3 : decode cX6_ask 3 = .ok (.invokestatic 73, 3) := by decide +kernel
theorem dX6_ask_6 : decode cX6_ask 6 = .ok (.ifCond .eq 15, 3) := by decide +kernel
theorem dX6_ask_9 : decode cX6_ask 9 = .ok (.iload_n 2, 1) := by decide +kernel
theorem dX6_ask_10 : decode cX6_ask 10 = .ok (.iconst 0, 1) := by decide +kernel
theorem dX6_ask_11 : decode cX6_ask 11 = .ok (.iload_n 1, 1) := by decide +kernel
theorem dX6_ask_12 : decode cX6_ask 12 = .ok (.invokestatic 169, 3) := by decide +kernel
theorem dX6_ask_15 : decode cX6_ask 15 = .ok (.invokestatic 73, 3) := by decide +kernel
theorem dX6_ask_18 : decode cX6_ask 18 = .ok (.ifCond .ne 10, 3) := by decide +kernel
theorem dX6_ask_21 : decode cX6_ask 21 = .ok (.aload_n 0, 1) := by decide +kernel
theorem dX6_ask_22 : decode cX6_ask 22 = .ok (.bipush (-2), 2) := by decide +kernel
theorem dX6_ask_24 : decode cX6_ask 24 = .ok (.invokevirtual 77, 3) := by decide +kernel
theorem dX6_ask_27 : decode cX6_ask 27 = .ok (.ireturn, 1) := by decide +kernel
theorem dX6_ask_28 : decode cX6_ask 28 = .ok (.aload_n 0, 1) := by decide +kernel
theorem dX6_ask_29 : decode cX6_ask 29 = .ok (.getfield 10, 3) := by decide +kernel
theorem dX6_ask_32 : decode cX6_ask 32 = .ok (.iload_n 1, 1) := by decide +kernel
theorem dX6_ask_33 : decode cX6_ask 33 = .ok (.invokevirtual 172, 3) := by decide +kernel
theorem dX6_ask_36 : decode cX6_ask 36 = .ok (.istore_n 3, 1) := by decide +kernel
theorem dX6_ask_37 : decode cX6_ask 37 = .ok (.aload_n 0, 1) := by decide +kernel
theorem dX6_ask_38 : decode cX6_ask 38 = .ok (.getfield 10, 3) := by decide +kernel
theorem dX6_ask_41 : decode cX6_ask 41 = .ok (.iload_n 1, 1) := by decide +kernel
theorem dX6_ask_42 : decode cX6_ask 42 = .ok (.iload_n 2, 1) := by decide +kernel
theorem dX6_ask_43 : decode cX6_ask 43 = .ok (.invokevirtual 175, 3) := by decide +kernel
theorem dX6_ask_46 : decode cX6_ask 46 = .ok (.iload_n 3, 1) := by decide +kernel
theorem dX6_ask_47 : decode cX6_ask 47 = .ok (.ireturn, 1) := by decide +kernel
set_option maxRecDepth 20000 in
theorem ggX6_feed_X6_isWithin : GoodIn wsX6_feed wsX6_isWithin := goodIn_r _ [6] (by decide +kernel) (by decide +kernel)
set_option maxRecDepth 20000 in
theorem gX6_feed_X6_isWithin : GoodIn wsX6_feed (va_wsS RX6 73 yX6_isWithin wsX6_isWithin) := goodIn_app (goodIn_of _ (by decide +kernel)) ggX6_feed_X6_isWithin
set_option maxRecDepth 20000 in
theorem ggX6_feed_X6_refuse : GoodIn wsX6_feed wsX6_refuse := goodIn_r _ [10, 11, 19, 20, 21, 22, 23, 24, 25, 26, 27, 28] (by decide +kernel) (by decide +kernel)
set_option maxRecDepth 20000 in
theorem gX6_feed_X6_refuse : GoodIn wsX6_feed (wsV RX6 77 RX6 yX6_refuse wsX6_refuse) := goodIn_app (goodIn_of _ (by decide +kernel)) ggX6_feed_X6_refuse
set_option maxRecDepth 20000 in
theorem ggX6_feed_X4_put : GoodIn wsX6_feed wsX4_put := goodIn_r _ [16, 17, 18, 29, 30, 31, 32, 33, 34] (by decide +kernel) (by decide +kernel)
set_option maxRecDepth 20000 in
theorem gX6_feed_X4_put : GoodIn wsX6_feed (wsV RX6 181 RX4 yX4_put wsX4_put) := goodIn_app (goodIn_of _ (by decide +kernel)) ggX6_feed_X4_put
theorem dX6_feed_0 : decode cX6_feed 0 = .ok (.iload_n 1, 1) := by decide +kernel
theorem dX6_feed_1 : decode cX6_feed 1 = .ok (.iconst 0, 1) := by decide +kernel
theorem dX6_feed_2 : decode cX6_feed 2 = .ok (.sipush 255, 3) := by decide +kernel
theorem dX6_feed_5 : decode cX6_feed 5 = .ok (.invokestatic 73, 3) := by decide +kernel
theorem dX6_feed_8 : decode cX6_feed 8 = .ok (.ifCond .ne 10, 3) := by decide +kernel
theorem dX6_feed_11 : decode cX6_feed 11 = .ok (.aload_n 0, 1) := by decide +kernel
theorem dX6_feed_12 : decode cX6_feed 12 = .ok (.bipush (-2), 2) := by decide +kernel
theorem dX6_feed_14 : decode cX6_feed 14 = .ok (.invokevirtual 77, 3) := by decide +kernel
theorem dX6_feed_17 : decode cX6_feed 17 = .ok (.ireturn, 1) := by decide +kernel
theorem dX6_feed_18 : decode cX6_feed 18 = .ok (.aload_n 0, 1) := by decide +kernel
theorem dX6_feed_19 : decode cX6_feed 19 = .ok (.getfield 32, 3) := by decide +kernel
theorem dX6_feed_22 : decode cX6_feed 22 = .ok (.getfield 178, 3) := by decide +kernel
theorem dX6_feed_25 : decode cX6_feed 25 = .ok (.sipush 250, 3) := by decide +kernel
theorem dX6_feed_28 : decode cX6_feed 28 = .ok (.if_icmp .lt 10, 3) := by decide +kernel
theorem dX6_feed_31 : decode cX6_feed 31 = .ok (.aload_n 0, 1) := by decide +kernel
theorem dX6_feed_32 : decode cX6_feed 32 = .ok (.bipush (-6), 2) := by decide +kernel
theorem dX6_feed_34 : decode cX6_feed 34 = .ok (.invokevirtual 77, 3) := by decide +kernel
theorem dX6_feed_37 : decode cX6_feed 37 = .ok (.ireturn, 1) := by decide +kernel
theorem dX6_feed_38 : decode cX6_feed 38 = .ok (.aload_n 0, 1) := by decide +kernel
theorem dX6_feed_39 : decode cX6_feed 39 = .ok (.getfield 32, 3) := by decide +kernel
theorem dX6_feed_42 : decode cX6_feed 42 = .ok (.iload_n 1, 1) := by decide +kernel
theorem dX6_feed_43 : decode cX6_feed 43 = .ok (.invokevirtual 181, 3) := by decide +kernel
theorem dX6_feed_46 : decode cX6_feed 46 = .ok (.aload_n 0, 1) := by decide +kernel
theorem dX6_feed_47 : decode cX6_feed 47 = .ok (.getfield 32, 3) := by decide +kernel
theorem dX6_feed_50 : decode cX6_feed 50 = .ok (.getfield 178, 3) := by decide +kernel
theorem dX6_feed_53 : decode cX6_feed 53 = .ok (.ireturn, 1) := by decide +kernel
theorem dX6_wipe_0 : decode cX6_wipe 0 = .ok (.aload_n 0, 1) := by decide +kernel
theorem dX6_wipe_1 : decode cX6_wipe 1 = .ok (.getfield 32, 3) := by decide +kernel
theorem dX6_wipe_4 : decode cX6_wipe 4 = .ok (.getfield 178, 3) := by decide +kernel
theorem dX6_wipe_7 : decode cX6_wipe 7 = .ok (.istore_n 1, 1) := by decide +kernel
theorem dX6_wipe_8 : decode cX6_wipe 8 = .ok (.aload_n 0, 1) := by decide +kernel
theorem dX6_wipe_9 : decode cX6_wipe 9 = .ok (.getfield 32, 3) := by decide +kernel
theorem dX6_wipe_12 : decode cX6_wipe 12 = .ok (.iconst 0, 1) := by decide +kernel
theorem dX6_wipe_13 : decode cX6_wipe 13 = .ok (.putfield 178, 3) := by decide +kernel
theorem dX6_wipe_16 : decode cX6_wipe 16 = .ok (.iload_n 1, 1) := by decide +kernel
theorem dX6_wipe_17 : decode cX6_wipe 17 = .ok (.ireturn, 1) := by decide +kernel
set_option maxRecDepth 20000 in
theorem ggX6_town_X5_become : GoodIn wsX6_town wsX5_become := goodIn_r _ [10, 11, 12, 13, 14, 15, 16, 17, 18, 19, 20, 21, 22, 23, 24, 25, 26, 27, 208, 209, 210, 211, 212, 213, 214, 215, 216, 217, 218, 219, 220, 221] (by decide +kernel) (by decide +kernel)
set_option maxRecDepth 20000 in
theorem gX6_town_X5_become : GoodIn wsX6_town (wsV RX6 185 RX5 yX5_become wsX5_become) := goodIn_app (goodIn_of _ (by decide +kernel)) ggX6_town_X5_become
set_option maxRecDepth 20000 in
theorem ggX6_town_X4_readInto : GoodIn wsX6_town wsX4_readInto := goodIn_r _ [32, 33, 34, 35, 36, 37, 38, 39, 31, 40, 41, 42, 43, 44, 45, 46, 47, 48, 49, 50, 51, 52, 53, 54, 55, 56, 57, 58, 59, 60, 61, 62, 63, 64, 65, 66, 67, 68, 69, 70, 71, 72, 73, 74, 75, 76, 77, 78, 79, 80, 81, 82, 83, 84, 85, 86, 87, 88, 89, 90, 91, 92, 93, 94, 95, 96, 97, 98, 99, 100, 101, 102, 103, 104, 105, 106, 107, 108, 109, 110, 111, 112, 113, 114, 115, 116, 117, 118, 119, 120, 121, 122, 123, 9, 124, 12, 125, 126, 127, 128, 129, 130, 131, 132, 133, 134, 135, 136, 26, 27, 18, 23, 24, 25, 137, 138, 139, 140, 141, 142, 143, 144, 145, 146, 147, 148, 149, 150, 151, 152, 153, 154, 155, 156, 157, 158, 159, 160, 161, 162, 163, 164, 165, 166, 167, 168, 169, 170, 171, 172, 173, 174, 175, 176, 177, 178, 179, 180, 181, 182, 183, 184, 185, 186, 13, 14, 15, 202, 203, 204, 205, 206, 207, 208, 209, 210, 211, 212, 213, 214, 215, 216, 217, 218, 219, 220, 221] (by decide +kernel) (by decide +kernel)
set_option maxRecDepth 20000 in
theorem gX6_town_X4_readInto : GoodIn wsX6_town (wsV RX6 189 RX4 yX4_readInto wsX4_readInto) := goodIn_app (goodIn_of _ (by decide +kernel)) ggX6_town_X4_readInto
set_option maxRecDepth 20000 in
theorem ggX6_town_X6_refuse : GoodIn wsX6_town wsX6_refuse := goodIn_r _ [190, 191, 192, 193, 194, 195, 196, 197, 198, 199, 200, 201] (by decide +kernel) (by decide +kernel)
set_option maxRecDepth 20000 in
theorem gX6_town_X6_refuse : GoodIn wsX6_town (wsV RX6 77 RX6 yX6_refuse wsX6_refuse) := goodIn_app (goodIn_of _ (by decide +kernel)) ggX6_town_X6_refuse
theorem dX6_town_0 : decode cX6_town 0 = .ok (.aload_n 0, 1) := by decide +kernel
theorem dX6_town_1 : decode cX6_town 1 = .ok (.getfield 19, 3) := by decide +kernel
theorem dX6_town_4 : decode cX6_town 4 = .ok (.aload_n 0, 1) := by decide +kernel
theorem dX6_town_5 : decode cX6_town 5 = .ok (.getfield 10, 3) := by decide +kernel
theorem dX6_town_8 : decode cX6_town 8 = .ok (.invokevirtual 185, 3) := by decide +kernel
theorem dX6_town_11 : decode cX6_town 11 = .ok (.aload_n 0, 1) := by decide +kernel
theorem dX6_town_12 : decode cX6_town 12 = .ok (.getfield 32, 3) := by decide +kernel
theorem dX6_town_15 : decode cX6_town 15 = .ok (.aload_n 0, 1) := by decide +kernel
theorem dX6_town_16 : decode cX6_town 16 = .ok (.getfield 19, 3) := by decide +kernel
theorem dX6_town_19 : decode cX6_town 19 = .ok (.invokevirtual 189, 3) := by decide +kernel
theorem dX6_town_22 : decode cX6_town 22 = .ok (.istore_n 1, 1) := by decide +kernel
theorem dX6_town_23 : decode cX6_town 23 = .ok (.aload_n 0, 1) := by decide +kernel
theorem dX6_town_24 : decode cX6_town 24 = .ok (.getfield 32, 3) := by decide +kernel
theorem dX6_town_27 : decode cX6_town 27 = .ok (.iconst 0, 1) := by decide +kernel
theorem dX6_town_28 : decode cX6_town 28 = .ok (.putfield 178, 3) := by decide +kernel
theorem dX6_town_31 : decode cX6_town 31 = .ok (.iload_n 1, 1) := by decide +kernel
theorem dX6_town_32 : decode cX6_town 32 = .ok (.iconst (-1), 1) := by decide +kernel
theorem dX6_town_33 : decode cX6_town 33 = .ok (.if_icmp .ne 21, 3) := by decide +kernel
theorem dX6_town_36 : decode cX6_town 36 = .ok (.aload_n 0, 1) := by decide +kernel
theorem dX6_town_37 : decode cX6_town 37 = .ok (.bipush (-2), 2) := by decide +kernel
theorem dX6_town_39 : decode cX6_town 39 = .ok (.invokevirtual 77, 3) := by decide +kernel
theorem dX6_town_42 : decode cX6_town 42 = .ok (.pop, 1) := by decide +kernel
theorem dX6_town_43 : decode cX6_town 43 = .ok (.bipush (-20), 2) := by decide +kernel
theorem dX6_town_45 : decode cX6_town 45 = .ok (.aload_n 0, 1) := by decide +kernel
theorem dX6_town_46 : decode cX6_town 46 = .ok (.getfield 32, 3) := by decide +kernel
theorem dX6_town_49 : decode cX6_town 49 = .ok (.getfield 193, 3) := by decide +kernel
theorem dX6_town_52 : decode cX6_town 52 = .ok (.isub, 1) := by decide +kernel
theorem dX6_town_53 : decode cX6_town 53 = .ok (.ireturn, 1) := by decide +kernel
theorem dX6_town_54 : decode cX6_town 54 = .ok (.aload_n 0, 1) := by decide +kernel
theorem dX6_town_55 : decode cX6_town 55 = .ok (.getfield 10, 3) := by decide +kernel
theorem dX6_town_58 : decode cX6_town 58 = .ok (.aload_n 0, 1) := by decide +kernel
theorem dX6_town_59 : decode cX6_town 59 = .ok (.getfield 19, 3) := by decide +kernel
theorem dX6_town_62 : decode cX6_town 62 = .ok (.invokevirtual 185, 3) := by decide +kernel
theorem dX6_town_65 : decode cX6_town 65 = .ok (.iload_n 1, 1) := by decide +kernel
theorem dX6_town_66 : decode cX6_town 66 = .ok (.ireturn, 1) := by decide +kernel
set_option maxRecDepth 20000 in
theorem ggX6_personOf_X5_isOne : GoodIn wsX6_personOf wsX5_isOne := goodIn_r _ [6, 7, 46, 47, 48, 49, 50, 51, 52, 53, 54, 55, 56, 57, 58, 59] (by decide +kernel) (by decide +kernel)
set_option maxRecDepth 20000 in
theorem gX6_personOf_X5_isOne : GoodIn wsX6_personOf (wsV RX6 113 RX5 yX5_isOne wsX5_isOne) := goodIn_app (goodIn_of _ (by decide +kernel)) ggX6_personOf_X5_isOne
set_option maxRecDepth 20000 in
theorem ggX6_personOf_X6_isWithin : GoodIn wsX6_personOf wsX6_isWithin := goodIn_r _ [11] (by decide +kernel) (by decide +kernel)
set_option maxRecDepth 20000 in
theorem gX6_personOf_X6_isWithin : GoodIn wsX6_personOf (va_wsS RX6 73 yX6_isWithin wsX6_isWithin) := goodIn_app (goodIn_of _ (by decide +kernel)) ggX6_personOf_X6_isWithin
set_option maxRecDepth 20000 in
theorem ggX6_personOf_X6_refuse : GoodIn wsX6_personOf wsX6_refuse := goodIn_r _ [15, 16, 36, 37, 38, 39, 40, 41, 42, 43, 44, 45] (by decide +kernel) (by decide +kernel)
set_option maxRecDepth 20000 in
theorem gX6_personOf_X6_refuse : GoodIn wsX6_personOf (wsV RX6 77 RX6 yX6_refuse wsX6_refuse) := goodIn_app (goodIn_of _ (by decide +kernel)) ggX6_personOf_X6_refuse
set_option maxRecDepth 20000 in
theorem ggX6_personOf_X5_factOf : GoodIn wsX6_personOf wsX5_factOf := goodIn_r _ [20, 21, 22, 23, 24, 25, 26, 27, 28, 29, 5, 30, 31, 32, 33, 34, 35, 46, 47, 48, 49, 50, 51, 52, 53, 54, 55, 56, 57, 58, 59] (by decide +kernel) (by decide +kernel)
set_option maxRecDepth 20000 in
theorem gX6_personOf_X5_factOf : GoodIn wsX6_personOf (wsV RX6 196 RX5 yX5_factOf wsX5_factOf) := goodIn_app (goodIn_of _ (by decide +kernel)) ggX6_personOf_X5_factOf
theorem dX6_personOf_0 : decode cX6_personOf 0 = .ok (.aload_n 0, 1) := by decide +kernel
theorem dX6_personOf_1 : decode cX6_personOf 1 = .ok (.getfield 10, 3) := by decide +kernel
theorem dX6_personOf_4 : decode cX6_personOf 4 = .ok (.iload_n 1, 1) := by decide +kernel
theorem dX6_personOf_5 : decode cX6_personOf 5 = .ok (.invokevirtual 113, 3) := by decide +kernel
theorem dX6_personOf_8 : decode cX6_personOf 8 = .ok (.ifCond .eq 13, 3) := by decide +kernel
theorem dX6_personOf_11 : decode cX6_personOf 11 = .ok (.iload_n 2, 1) := by decide +kernel
theorem dX6_personOf_12 : decode cX6_personOf 12 = .ok (.iconst 0, 1) := by decide +kernel
theorem dX6_personOf_13 : decode cX6_personOf 13 = .ok (.bipush 7, 2) := by decide +kernel
theorem dX6_personOf_15 : decode cX6_personOf 15 = .ok (.invokestatic 73, 3) := by decide +kernel
theorem dX6_personOf_18 : decode cX6_personOf 18 = .ok (.ifCond .ne 10, 3) := by decide +kernel
theorem dX6_personOf_21 : decode cX6_personOf 21 = .ok (.aload_n 0, 1) := by decide +kernel
theorem dX6_personOf_22 : decode cX6_personOf 22 = .ok (.bipush (-2), 2) := by decide +kernel
theorem dX6_personOf_24 : decode cX6_personOf 24 = .ok (.invokevirtual 77, 3) := by decide +kernel
theorem dX6_personOf_27 : decode cX6_personOf 27 = .ok (.ireturn, 1) := by decide +kernel
theorem dX6_personOf_28 : decode cX6_personOf 28 = .ok (.aload_n 0, 1) := by decide +kernel
theorem dX6_personOf_29 : decode cX6_personOf 29 = .ok (.getfield 10, 3) := by decide +kernel
theorem dX6_personOf_32 : decode cX6_personOf 32 = .ok (.iload_n 1, 1) := by decide +kernel
theorem dX6_personOf_33 : decode cX6_personOf 33 = .ok (.iload_n 2, 1) := by decide +kernel
theorem dX6_personOf_34 : decode cX6_personOf 34 = .ok (.invokevirtual 196, 3) := by decide +kernel
theorem dX6_personOf_37 : decode cX6_personOf 37 = .ok (.ireturn, 1) := by decide +kernel
set_option maxRecDepth 20000 in
theorem ggX6_may_X5_isOne : GoodIn wsX6_may wsX5_isOne := goodIn_r _ [6, 7, 57, 58, 59, 60, 61, 62, 63, 64, 65, 66, 67, 68, 69, 70] (by decide +kernel) (by decide +kernel)
set_option maxRecDepth 20000 in
theorem gX6_may_X5_isOne : GoodIn wsX6_may (wsV RX6 113 RX5 yX5_isOne wsX5_isOne) := goodIn_app (goodIn_of _ (by decide +kernel)) ggX6_may_X5_isOne
set_option maxRecDepth 20000 in
theorem ggX6_may_X5_isSight : GoodIn wsX6_may wsX5_isSight := goodIn_r _ [11, 12, 57, 58, 59, 60, 61, 62, 63, 64, 65, 66, 67, 68, 69, 70] (by decide +kernel) (by decide +kernel)
set_option maxRecDepth 20000 in
theorem gX6_may_X5_isSight : GoodIn wsX6_may (wsV RX6 141 RX5 yX5_isSight wsX5_isSight) := goodIn_app (goodIn_of _ (by decide +kernel)) ggX6_may_X5_isSight
set_option maxRecDepth 20000 in
theorem ggX6_may_X6_refuse : GoodIn wsX6_may wsX6_refuse := goodIn_r _ [17, 18, 47, 48, 49, 50, 51, 52, 53, 54, 55, 56] (by decide +kernel) (by decide +kernel)
set_option maxRecDepth 20000 in
theorem gX6_may_X6_refuse : GoodIn wsX6_may (wsV RX6 77 RX6 yX6_refuse wsX6_refuse) := goodIn_app (goodIn_of _ (by decide +kernel)) ggX6_may_X6_refuse
set_option maxRecDepth 20000 in
theorem ggX6_may_X5_sayableBy : GoodIn wsX6_may wsX5_sayableBy := goodIn_r _ [22, 23, 24, 25, 26, 27, 28, 5, 29, 30, 31, 32, 33, 34, 35, 36, 12, 37, 38, 39, 40, 7, 41, 42, 16, 43, 57, 58, 59, 60, 61, 62, 63, 64, 65, 66, 67, 68, 69, 70] (by decide +kernel) (by decide +kernel)
set_option maxRecDepth 20000 in
theorem gX6_may_X5_sayableBy : GoodIn wsX6_may (wsV RX6 199 RX5 yX5_sayableBy wsX5_sayableBy) := goodIn_app (goodIn_of _ (by decide +kernel)) ggX6_may_X5_sayableBy
set_option maxRecDepth 20000 in
theorem ggX6_may_X6_has : GoodIn wsX6_may wsX6_has := goodIn_r _ [46] (by decide +kernel) (by decide +kernel)
set_option maxRecDepth 20000 in
theorem gX6_may_X6_has : GoodIn wsX6_may (va_wsS RX6 156 yX6_has wsX6_has) := goodIn_app (goodIn_of _ (by decide +kernel)) ggX6_may_X6_has
theorem dX6_may_0 : decode cX6_may 0 = .ok (.aload_n 0, 1) := by decide +kernel
theorem dX6_may_1 : decode cX6_may 1 = .ok (.getfield 10, 3) := by decide +kernel
theorem dX6_may_4 : decode cX6_may 4 = .ok (.iload_n 1, 1) := by decide +kernel
theorem dX6_may_5 : decode cX6_may 5 = .ok (.invokevirtual 113, 3) := by decide +kernel
theorem dX6_may_8 : decode cX6_may 8 = .ok (.ifCond .eq 14, 3) := by decide +kernel
theorem dX6_may_11 : decode cX6_may 11 = .ok (.aload_n 0, 1) := by decide +kernel
theorem dX6_may_12 : decode cX6_may 12 = .ok (.getfield 10, 3) := by decide +kernel
theorem dX6_may_15 : decode cX6_may 15 = .ok (.iload_n 2, 1) := by decide +kernel
theorem dX6_may_16 : decode cX6_may 16 = .ok (.invokevirtual 141, 3) := by decide +kernel
theorem dX6_may_19 : decode cX6_may 19 = .ok (.ifCond .ne 10, 3) := by decide +kernel
theorem dX6_may_22 : decode cX6_may 22 = .ok (.aload_n 0, 1) := by decide +kernel
theorem dX6_may_23 : decode cX6_may 23 = .ok (.bipush (-2), 2) := by decide +kernel
theorem dX6_may_25 : decode cX6_may 25 = .ok (.invokevirtual 77, 3) := by decide +kernel
theorem dX6_may_28 : decode cX6_may 28 = .ok (.ireturn, 1) := by decide +kernel
theorem dX6_may_29 : decode cX6_may 29 = .ok (.aload_n 0, 1) := by decide +kernel
theorem dX6_may_30 : decode cX6_may 30 = .ok (.getfield 10, 3) := by decide +kernel
theorem dX6_may_33 : decode cX6_may 33 = .ok (.iload_n 1, 1) := by decide +kernel
theorem dX6_may_34 : decode cX6_may 34 = .ok (.invokevirtual 199, 3) := by decide +kernel
theorem dX6_may_37 : decode cX6_may 37 = .ok (.iload_n 2, 1) := by decide +kernel
theorem dX6_may_38 : decode cX6_may 38 = .ok (.invokestatic 156, 3) := by decide +kernel
theorem dX6_may_41 : decode cX6_may 41 = .ok (.ifCond .eq 7, 3) := by decide +kernel
theorem dX6_may_44 : decode cX6_may 44 = .ok (.iconst 1, 1) := by decide +kernel
theorem dX6_may_45 : decode cX6_may 45 = .ok (.goto 4, 3) := by decide +kernel
theorem dX6_may_48 : decode cX6_may 48 = .ok (.iconst 0, 1) := by decide +kernel
theorem dX6_may_49 : decode cX6_may 49 = .ok (.ireturn, 1) := by decide +kernel
set_option maxRecDepth 20000 in
theorem ggX6_mouths_X5_isSight : GoodIn wsX6_mouths wsX5_isSight := goodIn_r _ [6, 7, 58, 59, 60, 61, 62, 63, 64, 65, 66, 67, 68, 69, 70, 71] (by decide +kernel) (by decide +kernel)
set_option maxRecDepth 20000 in
theorem gX6_mouths_X5_isSight : GoodIn wsX6_mouths (wsV RX6 141 RX5 yX5_isSight wsX5_isSight) := goodIn_app (goodIn_of _ (by decide +kernel)) ggX6_mouths_X5_isSight
set_option maxRecDepth 20000 in
theorem ggX6_mouths_X5_whoMaySay : GoodIn wsX6_mouths wsX5_whoMaySay := goodIn_r _ [11, 12, 13, 14, 15, 5, 16, 17, 18, 19, 20, 21, 22, 23, 24, 25, 26, 27, 28, 29, 30, 7, 31, 32, 33, 34, 35, 36, 37, 38, 39, 40, 41, 42, 58, 59, 60, 61, 62, 63, 64, 65, 66, 67, 68, 69, 70, 71] (by decide +kernel) (by decide +kernel)
set_option maxRecDepth 20000 in
theorem gX6_mouths_X5_whoMaySay : GoodIn wsX6_mouths (wsV RX6 202 RX5 yX5_whoMaySay wsX5_whoMaySay) := goodIn_app (goodIn_of _ (by decide +kernel)) ggX6_mouths_X5_whoMaySay
set_option maxRecDepth 20000 in
theorem ggX6_mouths_X6_refuse : GoodIn wsX6_mouths wsX6_refuse := goodIn_r _ [46, 47, 48, 49, 50, 51, 52, 53, 54, 55, 56, 57] (by decide +kernel) (by decide +kernel)
set_option maxRecDepth 20000 in
theorem gX6_mouths_X6_refuse : GoodIn wsX6_mouths (wsV RX6 77 RX6 yX6_refuse wsX6_refuse) := goodIn_app (goodIn_of _ (by decide +kernel)) ggX6_mouths_X6_refuse
theorem dX6_mouths_0 : decode cX6_mouths 0 = .ok (.aload_n 0, 1) := by decide +kernel
theorem dX6_mouths_1 : decode cX6_mouths 1 = .ok (.getfield 10, 3) := by decide +kernel
theorem dX6_mouths_4 : decode cX6_mouths 4 = .ok (.iload_n 1, 1) := by decide +kernel
theorem dX6_mouths_5 : decode cX6_mouths 5 = .ok (.invokevirtual 141, 3) := by decide +kernel
theorem dX6_mouths_8 : decode cX6_mouths 8 = .ok (.ifCond .eq 14, 3) := by decide +kernel
theorem dX6_mouths_11 : decode cX6_mouths 11 = .ok (.aload_n 0, 1) := by decide +kernel
theorem dX6_mouths_12 : decode cX6_mouths 12 = .ok (.getfield 10, 3) := by decide +kernel
theorem dX6_mouths_15 : decode cX6_mouths 15 = .ok (.iload_n 1, 1) := by decide +kernel
theorem dX6_mouths_16 : decode cX6_mouths 16 = .ok (.invokevirtual 202, 3) := by decide +kernel
theorem dX6_mouths_19 : decode cX6_mouths 19 = .ok (.goto 9, 3) := by decide +kernel
theorem dX6_mouths_22 : decode cX6_mouths 22 = .ok (.aload_n 0, 1) := by decide +kernel
theorem dX6_mouths_23 : decode cX6_mouths 23 = .ok (.bipush (-2), 2) := by decide +kernel
theorem dX6_mouths_25 : decode cX6_mouths 25 = .ok (.invokevirtual 77, 3) := by decide +kernel
theorem dX6_mouths_28 : decode cX6_mouths 28 = .ok (.ireturn, 1) := by decide +kernel
set_option maxRecDepth 20000 in
theorem ggX6_say_X5_isOne : GoodIn wsX6_say wsX5_isOne := goodIn_r _ [6, 7, 68, 69, 70, 71, 72, 73, 74, 75, 76, 77, 78, 79, 80, 81] (by decide +kernel) (by decide +kernel)
set_option maxRecDepth 20000 in
theorem gX6_say_X5_isOne : GoodIn wsX6_say (wsV RX6 113 RX5 yX5_isOne wsX5_isOne) := goodIn_app (goodIn_of _ (by decide +kernel)) ggX6_say_X5_isOne
set_option maxRecDepth 20000 in
theorem ggX6_say_X5_isSight : GoodIn wsX6_say wsX5_isSight := goodIn_r _ [11, 12, 68, 69, 70, 71, 72, 73, 74, 75, 76, 77, 78, 79, 80, 81] (by decide +kernel) (by decide +kernel)
set_option maxRecDepth 20000 in
theorem gX6_say_X5_isSight : GoodIn wsX6_say (wsV RX6 141 RX5 yX5_isSight wsX5_isSight) := goodIn_app (goodIn_of _ (by decide +kernel)) ggX6_say_X5_isSight
set_option maxRecDepth 20000 in
theorem ggX6_say_X6_refuse : GoodIn wsX6_say wsX6_refuse := goodIn_r _ [17, 18, 58, 59, 60, 61, 62, 63, 64, 65, 66, 67] (by decide +kernel) (by decide +kernel)
set_option maxRecDepth 20000 in
theorem gX6_say_X6_refuse : GoodIn wsX6_say (wsV RX6 77 RX6 yX6_refuse wsX6_refuse) := goodIn_app (goodIn_of _ (by decide +kernel)) ggX6_say_X6_refuse
set_option maxRecDepth 20000 in
theorem ggX6_say_X5_sayableBy : GoodIn wsX6_say wsX5_sayableBy := goodIn_r _ [22, 23, 24, 25, 26, 27, 28, 5, 29, 30, 31, 32, 33, 34, 35, 36, 12, 37, 38, 39, 40, 7, 41, 42, 16, 43, 68, 69, 70, 71, 72, 73, 74, 75, 76, 77, 78, 79, 80, 81] (by decide +kernel) (by decide +kernel)
set_option maxRecDepth 20000 in
theorem gX6_say_X5_sayableBy : GoodIn wsX6_say (wsV RX6 199 RX5 yX5_sayableBy wsX5_sayableBy) := goodIn_app (goodIn_of _ (by decide +kernel)) ggX6_say_X5_sayableBy
set_option maxRecDepth 20000 in
theorem ggX6_say_X6_has : GoodIn wsX6_say wsX6_has := goodIn_r _ [46] (by decide +kernel) (by decide +kernel)
set_option maxRecDepth 20000 in
theorem gX6_say_X6_has : GoodIn wsX6_say (va_wsS RX6 156 yX6_has wsX6_has) := goodIn_app (goodIn_of _ (by decide +kernel)) ggX6_say_X6_has
set_option maxRecDepth 20000 in
theorem ggX6_say_X5_tell : GoodIn wsX6_say wsX5_tell := goodIn_r _ [50, 7, 41, 24, 45, 16, 46, 51, 52, 53, 54, 55, 56, 57, 68, 69, 70, 71, 72, 73, 74, 75, 76, 77, 78, 79, 80, 81] (by decide +kernel) (by decide +kernel)
set_option maxRecDepth 20000 in
theorem gX6_say_X5_tell : GoodIn wsX6_say (wsV RX6 205 RX5 yX5_tell wsX5_tell) := goodIn_app (goodIn_of _ (by decide +kernel)) ggX6_say_X5_tell
theorem dX6_say_0 : decode cX6_say 0 = .ok (.aload_n 0, 1) := by decide +kernel
theorem dX6_say_1 : decode cX6_say 1 = .ok (.getfield 10, 3) := by decide +kernel
theorem dX6_say_4 : decode cX6_say 4 = .ok (.iload_n 1, 1) := by decide +kernel
theorem dX6_say_5 : decode cX6_say 5 = .ok (.invokevirtual 113, 3) := by decide +kernel
theorem dX6_say_8 : decode cX6_say 8 = .ok (.ifCond .eq 14, 3) := by decide +kernel
theorem dX6_say_11 : decode cX6_say 11 = .ok (.aload_n 0, 1) := by decide +kernel
theorem dX6_say_12 : decode cX6_say 12 = .ok (.getfield 10, 3) := by decide +kernel
theorem dX6_say_15 : decode cX6_say 15 = .ok (.iload_n 2, 1) := by decide +kernel
theorem dX6_say_16 : decode cX6_say 16 = .ok (.invokevirtual 141, 3) := by decide +kernel
theorem dX6_say_19 : decode cX6_say 19 = .ok (.ifCond .ne 10, 3) := by decide +kernel
theorem dX6_say_22 : decode cX6_say 22 = .ok (.aload_n 0, 1) := by decide +kernel
theorem dX6_say_23 : decode cX6_say 23 = .ok (.bipush (-2), 2) := by decide +kernel
theorem dX6_say_25 : decode cX6_say 25 = .ok (.invokevirtual 77, 3) := by decide +kernel
theorem dX6_say_28 : decode cX6_say 28 = .ok (.ireturn, 1) := by decide +kernel
theorem dX6_say_29 : decode cX6_say 29 = .ok (.aload_n 0, 1) := by decide +kernel
theorem dX6_say_30 : decode cX6_say 30 = .ok (.getfield 10, 3) := by decide +kernel
theorem dX6_say_33 : decode cX6_say 33 = .ok (.iload_n 1, 1) := by decide +kernel
theorem dX6_say_34 : decode cX6_say 34 = .ok (.invokevirtual 199, 3) := by decide +kernel
theorem dX6_say_37 : decode cX6_say 37 = .ok (.iload_n 2, 1) := by decide +kernel
theorem dX6_say_38 : decode cX6_say 38 = .ok (.invokestatic 156, 3) := by decide +kernel
theorem dX6_say_41 : decode cX6_say 41 = .ok (.ifCond .ne 10, 3) := by decide +kernel
theorem dX6_say_44 : decode cX6_say 44 = .ok (.aload_n 0, 1) := by decide +kernel
theorem dX6_say_45 : decode cX6_say 45 = .ok (.bipush (-5), 2) := by decide +kernel
theorem dX6_say_47 : decode cX6_say 47 = .ok (.invokevirtual 77, 3) := by decide +kernel
theorem dX6_say_50 : decode cX6_say 50 = .ok (.ireturn, 1) := by decide +kernel
theorem dX6_say_51 : decode cX6_say 51 = .ok (.aload_n 0, 1) := by decide +kernel
theorem dX6_say_52 : decode cX6_say 52 = .ok (.getfield 10, 3) := by decide +kernel
theorem dX6_say_55 : decode cX6_say 55 = .ok (.iload_n 1, 1) := by decide +kernel
theorem dX6_say_56 : decode cX6_say 56 = .ok (.iconst 1, 1) := by decide +kernel
theorem dX6_say_57 : decode cX6_say 57 = .ok (.iload_n 2, 1) := by decide +kernel
theorem dX6_say_58 : decode cX6_say 58 = .ok (.ishl, 1) := by decide +kernel
theorem dX6_say_59 : decode cX6_say 59 = .ok (.invokevirtual 205, 3) := by decide +kernel
theorem dX6_say_62 : decode cX6_say 62 = .ok (.ireturn, 1) := by decide +kernel
set_option maxRecDepth 20000 in
theorem ggX6_sign_X5_isOne : GoodIn wsX6_sign wsX5_isOne := goodIn_r _ [9, 10, 42, 43, 44, 45, 46, 47, 48, 49, 50, 51, 52, 53, 54, 55] (by decide +kernel) (by decide +kernel)
set_option maxRecDepth 20000 in
theorem gX6_sign_X5_isOne : GoodIn wsX6_sign (wsV RX6 113 RX5 yX5_isOne wsX5_isOne) := goodIn_app (goodIn_of _ (by decide +kernel)) ggX6_sign_X5_isOne
set_option maxRecDepth 20000 in
theorem ggX6_sign_X5_isSight : GoodIn wsX6_sign wsX5_isSight := goodIn_r _ [14, 15, 42, 43, 44, 45, 46, 47, 48, 49, 50, 51, 52, 53, 54, 55] (by decide +kernel) (by decide +kernel)
set_option maxRecDepth 20000 in
theorem gX6_sign_X5_isSight : GoodIn wsX6_sign (wsV RX6 141 RX5 yX5_isSight wsX5_isSight) := goodIn_app (goodIn_of _ (by decide +kernel)) ggX6_sign_X5_isSight
set_option maxRecDepth 20000 in
theorem ggX6_sign_X6_refuse : GoodIn wsX6_sign wsX6_refuse := goodIn_r _ [20, 21, 32, 33, 34, 35, 36, 37, 38, 39, 40, 41] (by decide +kernel) (by decide +kernel)
set_option maxRecDepth 20000 in
theorem gX6_sign_X6_refuse : GoodIn wsX6_sign (wsV RX6 77 RX6 yX6_refuse wsX6_refuse) := goodIn_app (goodIn_of _ (by decide +kernel)) ggX6_sign_X6_refuse
set_option maxRecDepth 20000 in
theorem ggX6_sign_X6_has : GoodIn wsX6_sign wsX6_has := goodIn_r _ [24] (by decide +kernel) (by decide +kernel)
set_option maxRecDepth 20000 in
theorem gX6_sign_X6_has : GoodIn wsX6_sign (va_wsS RX6 156 yX6_has wsX6_has) := goodIn_app (goodIn_of _ (by decide +kernel)) ggX6_sign_X6_has
set_option maxRecDepth 20000 in
theorem ggX6_sign_X5_putHeard : GoodIn wsX6_sign wsX5_putHeard := goodIn_r _ [28, 29, 30, 19, 31, 42, 43, 44, 45, 46, 47, 48, 49, 50, 51, 52, 53, 54, 55] (by decide +kernel) (by decide +kernel)
set_option maxRecDepth 20000 in
theorem gX6_sign_X5_putHeard : GoodIn wsX6_sign (wsV RX6 159 RX5 yX5_putHeard wsX5_putHeard) := goodIn_app (goodIn_of _ (by decide +kernel)) ggX6_sign_X5_putHeard
theorem dX6_sign_0 : decode cX6_sign 0 = .ok (.aload_n 0, 1) := by decide +kernel
theorem dX6_sign_1 : decode cX6_sign 1 = .ok (.getfield 10, 3) := by decide +kernel
theorem dX6_sign_4 : decode cX6_sign 4 = .ok (.iload_n 1, 1) := by decide +kernel
theorem dX6_sign_5 : decode cX6_sign 5 = .ok (.invokevirtual 113, 3) := by decide +kernel
theorem dX6_sign_8 : decode cX6_sign 8 = .ok (.ifCond .eq 25, 3) := by decide +kernel
theorem dX6_sign_11 : decode cX6_sign 11 = .ok (.aload_n 0, 1) := by decide +kernel
theorem dX6_sign_12 : decode cX6_sign 12 = .ok (.getfield 10, 3) := by decide +kernel
theorem dX6_sign_15 : decode cX6_sign 15 = .ok (.iload_n 2, 1) := by decide +kernel
theorem dX6_sign_16 : decode cX6_sign 16 = .ok (.invokevirtual 113, 3) := by decide +kernel
theorem dX6_sign_19 : decode cX6_sign 19 = .ok (.ifCond .eq 14, 3) := by decide +kernel
theorem dX6_sign_22 : decode cX6_sign 22 = .ok (.aload_n 0, 1) := by decide +kernel
theorem dX6_sign_23 : decode cX6_sign 23 = .ok (.getfield 10, 3) := by decide +kernel
theorem dX6_sign_26 : decode cX6_sign 26 = .ok (.iload_n 3, 1) := by decide +kernel
theorem dX6_sign_27 : decode cX6_sign 27 = .ok (.invokevirtual 141, 3) := by decide +kernel
theorem dX6_sign_30 : decode cX6_sign 30 = .ok (.ifCond .ne 10, 3) := by decide +kernel
theorem dX6_sign_33 : decode cX6_sign 33 = .ok (.aload_n 0, 1) := by decide +kernel
theorem dX6_sign_34 : decode cX6_sign 34 = .ok (.bipush (-2), 2) := by decide +kernel
theorem dX6_sign_36 : decode cX6_sign 36 = .ok (.invokevirtual 77, 3) := by decide +kernel
theorem dX6_sign_39 : decode cX6_sign 39 = .ok (.ireturn, 1) := by decide +kernel
theorem dX6_sign_40 : decode cX6_sign 40 = .ok (.aload_n 0, 1) := by decide +kernel
theorem dX6_sign_41 : decode cX6_sign 41 = .ok (.getfield 10, 3) := by decide +kernel
theorem dX6_sign_44 : decode cX6_sign 44 = .ok (.getfield 208, 3) := by decide +kernel
theorem dX6_sign_47 : decode cX6_sign 47 = .ok (.iload_n 1, 1) := by decide +kernel
theorem dX6_sign_48 : decode cX6_sign 48 = .ok (.iaload, 1) := by decide +kernel
theorem dX6_sign_49 : decode cX6_sign 49 = .ok (.iload_n 3, 1) := by decide +kernel
theorem dX6_sign_50 : decode cX6_sign 50 = .ok (.invokestatic 156, 3) := by decide +kernel
theorem dX6_sign_53 : decode cX6_sign 53 = .ok (.ifCond .eq 19, 3) := by decide +kernel
theorem dX6_sign_56 : decode cX6_sign 56 = .ok (.aload_n 0, 1) := by decide +kernel
theorem dX6_sign_57 : decode cX6_sign 57 = .ok (.getfield 10, 3) := by decide +kernel
theorem dX6_sign_60 : decode cX6_sign 60 = .ok (.getfield 163, 3) := by decide +kernel
theorem dX6_sign_63 : decode cX6_sign 63 = .ok (.iload_n 2, 1) := by decide +kernel
theorem dX6_sign_64 : decode cX6_sign 64 = .ok (.iaload, 1) := by decide +kernel
theorem dX6_sign_65 : decode cX6_sign 65 = .ok (.iload_n 1, 1) := by decide +kernel
theorem dX6_sign_66 : decode cX6_sign 66 = .ok (.invokestatic 156, 3) := by decide +kernel
theorem dX6_sign_69 : decode cX6_sign 69 = .ok (.ifCond .ne 10, 3) := by decide +kernel
theorem dX6_sign_72 : decode cX6_sign 72 = .ok (.aload_n 0, 1) := by decide +kernel
theorem dX6_sign_73 : decode cX6_sign 73 = .ok (.bipush (-5), 2) := by decide +kernel
theorem dX6_sign_75 : decode cX6_sign 75 = .ok (.invokevirtual 77, 3) := by decide +kernel
theorem dX6_sign_78 : decode cX6_sign 78 = .ok (.ireturn, 1) := by decide +kernel
theorem dX6_sign_79 : decode cX6_sign 79 = .ok (.aload_n 0, 1) := by decide +kernel
theorem dX6_sign_80 : decode cX6_sign 80 = .ok (.getfield 10, 3) := by decide +kernel
theorem dX6_sign_83 : decode cX6_sign 83 = .ok (.getfield 153, 3) := by decide +kernel
theorem dX6_sign_86 : decode cX6_sign 86 = .ok (.iload_n 2, 1) := by decide +kernel
theorem dX6_sign_87 : decode cX6_sign 87 = .ok (.iaload, 1) := by decide +kernel
theorem dX6_sign_88 : decode cX6_sign 88 = .ok (.iload_n 3, 1) := by decide +kernel
theorem dX6_sign_89 : decode cX6_sign 89 = .ok (.invokestatic 156, 3) := by decide +kernel
theorem dX6_sign_92 : decode cX6_sign 92 = .ok (.istore 4, 2) := by decide +kernel
theorem dX6_sign_94 : decode cX6_sign 94 = .ok (.aload_n 0, 1) := by decide +kernel
theorem dX6_sign_95 : decode cX6_sign 95 = .ok (.getfield 10, 3) := by decide +kernel
theorem dX6_sign_98 : decode cX6_sign 98 = .ok (.iload_n 2, 1) := by decide +kernel
theorem dX6_sign_99 : decode cX6_sign 99 = .ok (.iload_n 3, 1) := by decide +kernel
theorem dX6_sign_100 : decode cX6_sign 100 = .ok (.iconst 1, 1) := by decide +kernel
theorem dX6_sign_101 : decode cX6_sign 101 = .ok (.invokevirtual 159, 3) := by decide +kernel
theorem dX6_sign_104 : decode cX6_sign 104 = .ok (.iload 4, 2) := by decide +kernel
theorem dX6_sign_106 : decode cX6_sign 106 = .ok (.ifCond .eq 7, 3) := by decide +kernel
theorem dX6_sign_109 : decode cX6_sign 109 = .ok (.iconst 0, 1) := by decide +kernel
theorem dX6_sign_110 : decode cX6_sign 110 = .ok (.goto 4, 3) := by decide +kernel
theorem dX6_sign_113 : decode cX6_sign 113 = .ok (.iconst 1, 1) := by decide +kernel
theorem dX6_sign_114 : decode cX6_sign 114 = .ok (.ireturn, 1) := by decide +kernel
set_option maxRecDepth 20000 in
theorem ggX6_known_X5_knownInAll : GoodIn wsX6_known wsX5_knownInAll := goodIn_r _ [6, 7, 8, 9, 10, 5, 11, 12, 13, 14, 15, 16, 17, 18, 19, 20, 21, 32, 33, 34, 35, 36, 37, 38, 39, 40, 41, 42, 43, 44, 45] (by decide +kernel) (by decide +kernel)
set_option maxRecDepth 20000 in
theorem gX6_known_X5_knownInAll : GoodIn wsX6_known (wsV RX6 211 RX5 yX5_knownInAll wsX5_knownInAll) := goodIn_app (goodIn_of _ (by decide +kernel)) ggX6_known_X5_knownInAll
theorem dX6_known_0 : decode cX6_known 0 = .ok (.aload_n 0, 1) := by decide +kernel
theorem dX6_known_1 : decode cX6_known 1 = .ok (.getfield 10, 3) := by decide +kernel
theorem dX6_known_4 : decode cX6_known 4 = .ok (.invokevirtual 211, 3) := by decide +kernel
theorem dX6_known_7 : decode cX6_known 7 = .ok (.ireturn, 1) := by decide +kernel
set_option maxRecDepth 20000 in
theorem ggX6_spread_X6_isRounds : GoodIn wsX6_spread wsX6_isRounds := goodIn_r _ [7, 8, 9, 6, 10] (by decide +kernel) (by decide +kernel)
set_option maxRecDepth 20000 in
theorem gX6_spread_X6_isRounds : GoodIn wsX6_spread (va_wsS RX6 215 yX6_isRounds wsX6_isRounds) := goodIn_app (goodIn_of _ (by decide +kernel)) ggX6_spread_X6_isRounds
set_option maxRecDepth 20000 in
theorem ggX6_spread_X5_isOne : GoodIn wsX6_spread wsX5_isOne := goodIn_r _ [15, 16, 103, 104, 105, 106, 107, 108, 109, 110, 111, 112, 113, 114, 115, 116] (by decide +kernel) (by decide +kernel)
set_option maxRecDepth 20000 in
theorem gX6_spread_X5_isOne : GoodIn wsX6_spread (wsV RX6 113 RX5 yX5_isOne wsX5_isOne) := goodIn_app (goodIn_of _ (by decide +kernel)) ggX6_spread_X5_isOne
set_option maxRecDepth 20000 in
theorem ggX6_spread_X6_refuse : GoodIn wsX6_spread wsX6_refuse := goodIn_r _ [20, 21, 93, 94, 95, 96, 97, 98, 99, 100, 101, 102] (by decide +kernel) (by decide +kernel)
set_option maxRecDepth 20000 in
theorem gX6_spread_X6_refuse : GoodIn wsX6_spread (wsV RX6 77 RX6 yX6_refuse wsX6_refuse) := goodIn_app (goodIn_of _ (by decide +kernel)) ggX6_spread_X6_refuse
set_option maxRecDepth 20000 in
theorem ggX6_spread_X2_after : GoodIn wsX6_spread wsX2_after := goodIn_r _ [26, 27, 28, 29, 30, 31, 14, 32, 33, 16, 34, 35, 36, 37, 38, 39, 40, 41, 42, 43, 44, 45, 46, 47, 48, 49, 50, 51, 52, 53, 54, 55, 56, 57, 58, 59, 60, 61, 62, 63, 64, 65, 66, 67, 68, 69, 70, 71, 72, 73, 74, 6, 75, 76, 77, 78, 79, 80, 81, 82, 83, 84, 85, 86, 87, 88, 89, 90, 91, 92, 117, 118, 103, 104, 105, 106, 107, 108, 109, 110, 111, 112, 113, 114, 115, 116] (by decide +kernel) (by decide +kernel)
set_option maxRecDepth 20000 in
theorem gX6_spread_X2_after : GoodIn wsX6_spread (wsV RX6 218 RX2 yX2_after wsX2_after) := goodIn_app (goodIn_of _ (by decide +kernel)) ggX6_spread_X2_after
theorem dX6_spread_0 : decode cX6_spread 0 = .ok (.iload_n 1, 1) := by decide +kernel
theorem dX6_spread_1 : decode cX6_spread 1 = .ok (.invokestatic 215, 3) := by decide +kernel
theorem dX6_spread_4 : decode cX6_spread 4 = .ok (.ifCond .eq 14, 3) := by decide +kernel
theorem dX6_spread_7 : decode cX6_spread 7 = .ok (.aload_n 0, 1) := by decide +kernel
theorem dX6_spread_8 : decode cX6_spread 8 = .ok (.getfield 10, 3) := by decide +kernel
theorem dX6_spread_11 : decode cX6_spread 11 = .ok (.iload_n 2, 1) := by decide +kernel
theorem dX6_spread_12 : decode cX6_spread 12 = .ok (.invokevirtual 113, 3) := by decide +kernel
theorem dX6_spread_15 : decode cX6_spread 15 = .ok (.ifCond .ne 10, 3) := by decide +kernel
theorem dX6_spread_18 : decode cX6_spread 18 = .ok (.aload_n 0, 1) := by decide +kernel
theorem dX6_spread_19 : decode cX6_spread 19 = .ok (.bipush (-2), 2) := by decide +kernel
theorem dX6_spread_21 : decode cX6_spread 21 = .ok (.invokevirtual 77, 3) := by decide +kernel
theorem dX6_spread_24 : decode cX6_spread 24 = .ok (.ireturn, 1) := by decide +kernel
theorem dX6_spread_25 : decode cX6_spread 25 = .ok (.aload_n 0, 1) := by decide +kernel
theorem dX6_spread_26 : decode cX6_spread 26 = .ok (.getfield 41, 3) := by decide +kernel
theorem dX6_spread_29 : decode cX6_spread 29 = .ok (.iload_n 1, 1) := by decide +kernel
theorem dX6_spread_30 : decode cX6_spread 30 = .ok (.invokevirtual 218, 3) := by decide +kernel
theorem dX6_spread_33 : decode cX6_spread 33 = .ok (.getfield 153, 3) := by decide +kernel
theorem dX6_spread_36 : decode cX6_spread 36 = .ok (.iload_n 2, 1) := by decide +kernel
theorem dX6_spread_37 : decode cX6_spread 37 = .ok (.iaload, 1) := by decide +kernel
theorem dX6_spread_38 : decode cX6_spread 38 = .ok (.ireturn, 1) := by decide +kernel
set_option maxRecDepth 20000 in
theorem ggX6_knownBy_X6_isRounds : GoodIn wsX6_knownBy wsX6_isRounds := goodIn_r _ [5, 6, 7, 4, 8] (by decide +kernel) (by decide +kernel)
set_option maxRecDepth 20000 in
theorem gX6_knownBy_X6_isRounds : GoodIn wsX6_knownBy (va_wsS RX6 215 yX6_isRounds wsX6_isRounds) := goodIn_app (goodIn_of _ (by decide +kernel)) ggX6_knownBy_X6_isRounds
set_option maxRecDepth 20000 in
theorem ggX6_knownBy_X2_after : GoodIn wsX6_knownBy wsX2_after := goodIn_r _ [13, 14, 15, 16, 17, 18, 19, 20, 21, 22, 23, 24, 25, 26, 27, 28, 29, 30, 31, 32, 33, 34, 35, 36, 37, 38, 39, 40, 41, 42, 43, 44, 45, 46, 47, 48, 49, 50, 51, 52, 53, 54, 55, 56, 57, 58, 59, 60, 61, 62, 63, 4, 64, 65, 66, 67, 68, 69, 70, 71, 72, 73, 74, 75, 76, 77, 78, 79, 80, 81, 105, 106, 107, 108, 109, 110, 111, 112, 113, 114, 115, 116, 117, 118, 119, 120] (by decide +kernel) (by decide +kernel)
set_option maxRecDepth 20000 in
theorem gX6_knownBy_X2_after : GoodIn wsX6_knownBy (wsV RX6 218 RX2 yX2_after wsX2_after) := goodIn_app (goodIn_of _ (by decide +kernel)) ggX6_knownBy_X2_after
set_option maxRecDepth 20000 in
theorem ggX6_knownBy_X5_knownInAll : GoodIn wsX6_knownBy wsX5_knownInAll := goodIn_r _ [85, 22, 86, 87, 88, 19, 89, 28, 33, 34, 71, 72, 73, 74, 75, 76, 77, 107, 108, 109, 110, 111, 112, 113, 114, 115, 116, 117, 118, 119, 120] (by decide +kernel) (by decide +kernel)
set_option maxRecDepth 20000 in
theorem gX6_knownBy_X5_knownInAll : GoodIn wsX6_knownBy (wsV RX6 211 RX5 yX5_knownInAll wsX5_knownInAll) := goodIn_app (goodIn_of _ (by decide +kernel)) ggX6_knownBy_X5_knownInAll
set_option maxRecDepth 20000 in
theorem ggX6_knownBy_X6_refuse : GoodIn wsX6_knownBy wsX6_refuse := goodIn_r _ [93, 94, 95, 96, 97, 98, 99, 100, 101, 102, 103, 104] (by decide +kernel) (by decide +kernel)
set_option maxRecDepth 20000 in
theorem gX6_knownBy_X6_refuse : GoodIn wsX6_knownBy (wsV RX6 77 RX6 yX6_refuse wsX6_refuse) := goodIn_app (goodIn_of _ (by decide +kernel)) ggX6_knownBy_X6_refuse
theorem dX6_knownBy_0 : decode cX6_knownBy 0 = .ok (.iload_n 1, 1) := by decide +kernel
theorem dX6_knownBy_1 : decode cX6_knownBy 1 = .ok (.invokestatic 215, 3) := by decide +kernel
theorem dX6_knownBy_4 : decode cX6_knownBy 4 = .ok (.ifCond .eq 17, 3) := by decide +kernel
theorem dX6_knownBy_7 : decode cX6_knownBy 7 = .ok (.aload_n 0, 1) := by decide +kernel
theorem dX6_knownBy_8 : decode cX6_knownBy 8 = .ok (.getfield 41, 3) := by decide +kernel
theorem dX6_knownBy_11 : decode cX6_knownBy 11 = .ok (.iload_n 1, 1) := by decide +kernel
theorem dX6_knownBy_12 : decode cX6_knownBy 12 = .ok (.invokevirtual 218, 3) := by decide +kernel
theorem dX6_knownBy_15 : decode cX6_knownBy 15 = .ok (.invokevirtual 211, 3) := by decide +kernel
theorem dX6_knownBy_18 : decode cX6_knownBy 18 = .ok (.goto 9, 3) := by decide +kernel
theorem dX6_knownBy_21 : decode cX6_knownBy 21 = .ok (.aload_n 0, 1) := by decide +kernel
theorem dX6_knownBy_22 : decode cX6_knownBy 22 = .ok (.bipush (-2), 2) := by decide +kernel
theorem dX6_knownBy_24 : decode cX6_knownBy 24 = .ok (.invokevirtual 77, 3) := by decide +kernel
theorem dX6_knownBy_27 : decode cX6_knownBy 27 = .ok (.ireturn, 1) := by decide +kernel
set_option maxRecDepth 20000 in
theorem ggX6_rounds_X2_untilStill : GoodIn wsX6_rounds wsX2_untilStill := goodIn_r _ [6, 7, 8, 9, 10, 11, 12, 13, 14, 15, 16, 17, 18, 19, 20, 21, 22, 23, 24, 25, 26, 27, 28, 29, 30, 31, 32, 33, 34, 35, 36, 37, 38, 39, 40, 41, 42, 43, 44, 45, 46, 47, 48, 49, 50, 51, 52, 53, 54, 55, 56, 57, 58, 59, 60, 61, 62, 63, 64, 65, 66, 67, 68, 69, 70, 71, 82, 83, 84, 85, 86, 87, 88, 89, 90, 91, 92, 93, 94, 95, 96, 97] (by decide +kernel) (by decide +kernel)
set_option maxRecDepth 20000 in
theorem gX6_rounds_X2_untilStill : GoodIn wsX6_rounds (wsV RX6 222 RX2 yX2_untilStill wsX2_untilStill) := goodIn_app (goodIn_of _ (by decide +kernel)) ggX6_rounds_X2_untilStill
theorem dX6_rounds_0 : decode cX6_rounds 0 = .ok (.aload_n 0, 1) := by decide +kernel
theorem dX6_rounds_1 : decode cX6_rounds 1 = .ok (.getfield 41, 3) := by decide +kernel
theorem dX6_rounds_4 : decode cX6_rounds 4 = .ok (.invokevirtual 222, 3) := by decide +kernel
theorem dX6_rounds_7 : decode cX6_rounds 7 = .ok (.ireturn, 1) := by decide +kernel
set_option maxRecDepth 20000 in
theorem ggX6_never_X5_isSight : GoodIn wsX6_never wsX5_isSight := goodIn_r _ [7, 8, 110, 111, 112, 113, 114, 115, 116, 117, 118, 119, 120, 121, 122, 123] (by decide +kernel) (by decide +kernel)
set_option maxRecDepth 20000 in
theorem gX6_never_X5_isSight : GoodIn wsX6_never (wsV RX6 141 RX5 yX5_isSight wsX5_isSight) := goodIn_app (goodIn_of _ (by decide +kernel)) ggX6_never_X5_isSight
set_option maxRecDepth 20000 in
theorem ggX6_never_X6_refuse : GoodIn wsX6_never wsX6_refuse := goodIn_r _ [13, 14, 100, 101, 102, 103, 104, 105, 106, 107, 108, 109] (by decide +kernel) (by decide +kernel)
set_option maxRecDepth 20000 in
theorem gX6_never_X6_refuse : GoodIn wsX6_never (wsV RX6 77 RX6 yX6_refuse wsX6_refuse) := goodIn_app (goodIn_of _ (by decide +kernel)) ggX6_never_X6_refuse
set_option maxRecDepth 20000 in
theorem ggX6_never_X5_allPeople : GoodIn wsX6_never wsX5_allPeople := goodIn_r _ [18, 19, 110, 111, 112, 113, 114, 115, 116, 117, 118, 119, 120, 121, 122, 123] (by decide +kernel) (by decide +kernel)
set_option maxRecDepth 20000 in
theorem gX6_never_X5_allPeople : GoodIn wsX6_never (wsV RX6 225 RX5 yX5_allPeople wsX5_allPeople) := goodIn_app (goodIn_of _ (by decide +kernel)) ggX6_never_X5_allPeople
set_option maxRecDepth 20000 in
theorem ggX6_never_X2_after : GoodIn wsX6_never wsX2_after := goodIn_r _ [24, 25, 26, 27, 28, 29, 6, 30, 8, 19, 31, 32, 33, 34, 35, 36, 37, 38, 39, 40, 41, 42, 43, 44, 45, 46, 47, 48, 49, 50, 51, 52, 53, 54, 55, 56, 57, 58, 59, 60, 61, 62, 63, 64, 65, 66, 67, 68, 69, 70, 71, 12, 72, 73, 74, 75, 76, 77, 78, 79, 80, 81, 82, 83, 84, 85, 86, 87, 88, 89, 124, 125, 110, 111, 112, 113, 114, 115, 116, 117, 118, 119, 120, 121, 122, 123] (by decide +kernel) (by decide +kernel)
set_option maxRecDepth 20000 in
theorem gX6_never_X2_after : GoodIn wsX6_never (wsV RX6 218 RX2 yX2_after wsX2_after) := goodIn_app (goodIn_of _ (by decide +kernel)) ggX6_never_X2_after
set_option maxRecDepth 20000 in
theorem ggX6_never_X5_whoKnows : GoodIn wsX6_never wsX5_whoKnows := goodIn_r _ [93, 19, 94, 95, 96, 6, 97, 36, 41, 42, 77, 12, 78, 98, 99, 110, 111, 112, 113, 114, 115, 116, 117, 118, 119, 120, 121, 122, 123] (by decide +kernel) (by decide +kernel)
set_option maxRecDepth 20000 in
theorem gX6_never_X5_whoKnows : GoodIn wsX6_never (wsV RX6 228 RX5 yX5_whoKnows wsX5_whoKnows) := goodIn_app (goodIn_of _ (by decide +kernel)) ggX6_never_X5_whoKnows
theorem dX6_never_0 : decode cX6_never 0 = .ok (.aload_n 0, 1) := by decide +kernel
theorem dX6_never_1 : decode cX6_never 1 = .ok (.getfield 10, 3) := by decide +kernel
theorem dX6_never_4 : decode cX6_never 4 = .ok (.iload_n 1, 1) := by decide +kernel
theorem dX6_never_5 : decode cX6_never 5 = .ok (.invokevirtual 141, 3) := by decide +kernel
theorem dX6_never_8 : decode cX6_never 8 = .ok (.ifCond .ne 10, 3) := by decide +kernel
theorem dX6_never_11 : decode cX6_never 11 = .ok (.aload_n 0, 1) := by decide +kernel
theorem dX6_never_12 : decode cX6_never 12 = .ok (.bipush (-2), 2) := by decide +kernel
theorem dX6_never_14 : decode cX6_never 14 = .ok (.invokevirtual 77, 3) := by decide +kernel
theorem dX6_never_17 : decode cX6_never 17 = .ok (.ireturn, 1) := by decide +kernel
theorem dX6_never_18 : decode cX6_never 18 = .ok (.aload_n 0, 1) := by decide +kernel
theorem dX6_never_19 : decode cX6_never 19 = .ok (.getfield 10, 3) := by decide +kernel
theorem dX6_never_22 : decode cX6_never 22 = .ok (.invokevirtual 225, 3) := by decide +kernel
theorem dX6_never_25 : decode cX6_never 25 = .ok (.aload_n 0, 1) := by decide +kernel
theorem dX6_never_26 : decode cX6_never 26 = .ok (.getfield 41, 3) := by decide +kernel
theorem dX6_never_29 : decode cX6_never 29 = .ok (.bipush 20, 2) := by decide +kernel
theorem dX6_never_31 : decode cX6_never 31 = .ok (.invokevirtual 218, 3) := by decide +kernel
theorem dX6_never_34 : decode cX6_never 34 = .ok (.iload_n 1, 1) := by decide +kernel
theorem dX6_never_35 : decode cX6_never 35 = .ok (.invokevirtual 228, 3) := by decide +kernel
theorem dX6_never_38 : decode cX6_never 38 = .ok (.iconst (-1), 1) := by decide +kernel
theorem dX6_never_39 : decode cX6_never 39 = .ok (.ixor, 1) := by decide +kernel
theorem dX6_never_40 : decode cX6_never 40 = .ok (.iand, 1) := by decide +kernel
theorem dX6_never_41 : decode cX6_never 41 = .ok (.ireturn, 1) := by decide +kernel
set_option maxRecDepth 20000 in
theorem ggX6_when_X5_isOne : GoodIn wsX6_when wsX5_isOne := goodIn_r _ [7, 8, 100, 101, 102, 103, 104, 105, 106, 107, 108, 109, 110, 111, 112, 113] (by decide +kernel) (by decide +kernel)
set_option maxRecDepth 20000 in
theorem gX6_when_X5_isOne : GoodIn wsX6_when (wsV RX6 113 RX5 yX5_isOne wsX5_isOne) := goodIn_app (goodIn_of _ (by decide +kernel)) ggX6_when_X5_isOne
set_option maxRecDepth 20000 in
theorem ggX6_when_X5_isSight : GoodIn wsX6_when wsX5_isSight := goodIn_r _ [12, 13, 100, 101, 102, 103, 104, 105, 106, 107, 108, 109, 110, 111, 112, 113] (by decide +kernel) (by decide +kernel)
set_option maxRecDepth 20000 in
theorem gX6_when_X5_isSight : GoodIn wsX6_when (wsV RX6 141 RX5 yX5_isSight wsX5_isSight) := goodIn_app (goodIn_of _ (by decide +kernel)) ggX6_when_X5_isSight
set_option maxRecDepth 20000 in
theorem ggX6_when_X6_refuse : GoodIn wsX6_when wsX6_refuse := goodIn_r _ [18, 19, 90, 91, 92, 93, 94, 95, 96, 97, 98, 99] (by decide +kernel) (by decide +kernel)
set_option maxRecDepth 20000 in
theorem gX6_when_X6_refuse : GoodIn wsX6_when (wsV RX6 77 RX6 yX6_refuse wsX6_refuse) := goodIn_app (goodIn_of _ (by decide +kernel)) ggX6_when_X6_refuse
set_option maxRecDepth 20000 in
theorem ggX6_when_X2_untilKnown : GoodIn wsX6_when wsX2_untilKnown := goodIn_r _ [24, 25, 26, 27, 28, 29, 6, 30, 13, 8, 31, 32, 33, 34, 35, 36, 37, 38, 39, 40, 41, 42, 43, 44, 45, 46, 47, 48, 49, 50, 17, 51, 52, 53, 54, 55, 56, 57, 58, 59, 60, 61, 62, 63, 64, 65, 66, 67, 68, 69, 70, 71, 72, 73, 74, 75, 76, 77, 78, 79, 80, 81, 82, 83, 84, 85, 86, 87, 88, 89, 114, 115, 100, 101, 102, 103, 104, 105, 106, 107, 108, 109, 110, 111, 112, 113] (by decide +kernel) (by decide +kernel)
set_option maxRecDepth 20000 in
theorem gX6_when_X2_untilKnown : GoodIn wsX6_when (wsV RX6 231 RX2 yX2_untilKnown wsX2_untilKnown) := goodIn_app (goodIn_of _ (by decide +kernel)) ggX6_when_X2_untilKnown
theorem dX6_when_0 : decode cX6_when 0 = .ok (.aload_n 0, 1) := by decide +kernel
theorem dX6_when_1 : decode cX6_when 1 = .ok (.getfield 10, 3) := by decide +kernel
theorem dX6_when_4 : decode cX6_when 4 = .ok (.iload_n 1, 1) := by decide +kernel
theorem dX6_when_5 : decode cX6_when 5 = .ok (.invokevirtual 113, 3) := by decide +kernel
theorem dX6_when_8 : decode cX6_when 8 = .ok (.ifCond .eq 14, 3) := by decide +kernel
theorem dX6_when_11 : decode cX6_when 11 = .ok (.aload_n 0, 1) := by decide +kernel
theorem dX6_when_12 : decode cX6_when 12 = .ok (.getfield 10, 3) := by decide +kernel
theorem dX6_when_15 : decode cX6_when 15 = .ok (.iload_n 2, 1) := by decide +kernel
theorem dX6_when_16 : decode cX6_when 16 = .ok (.invokevirtual 141, 3) := by decide +kernel
theorem dX6_when_19 : decode cX6_when 19 = .ok (.ifCond .ne 10, 3) := by decide +kernel
theorem dX6_when_22 : decode cX6_when 22 = .ok (.aload_n 0, 1) := by decide +kernel
theorem dX6_when_23 : decode cX6_when 23 = .ok (.bipush (-2), 2) := by decide +kernel
theorem dX6_when_25 : decode cX6_when 25 = .ok (.invokevirtual 77, 3) := by decide +kernel
theorem dX6_when_28 : decode cX6_when 28 = .ok (.ireturn, 1) := by decide +kernel
theorem dX6_when_29 : decode cX6_when 29 = .ok (.aload_n 0, 1) := by decide +kernel
theorem dX6_when_30 : decode cX6_when 30 = .ok (.getfield 41, 3) := by decide +kernel
theorem dX6_when_33 : decode cX6_when 33 = .ok (.iload_n 1, 1) := by decide +kernel
theorem dX6_when_34 : decode cX6_when 34 = .ok (.iload_n 2, 1) := by decide +kernel
theorem dX6_when_35 : decode cX6_when 35 = .ok (.invokevirtual 231, 3) := by decide +kernel
theorem dX6_when_38 : decode cX6_when 38 = .ok (.ireturn, 1) := by decide +kernel
set_option maxRecDepth 20000 in
theorem ggX6_stop_X5_isSight : GoodIn wsX6_stop wsX5_isSight := goodIn_r _ [7, 8, 126, 127, 128, 129, 130, 131, 132, 133, 134, 135, 136, 137, 138, 139] (by decide +kernel) (by decide +kernel)
set_option maxRecDepth 20000 in
theorem gX6_stop_X5_isSight : GoodIn wsX6_stop (wsV RX6 141 RX5 yX5_isSight wsX5_isSight) := goodIn_app (goodIn_of _ (by decide +kernel)) ggX6_stop_X5_isSight
set_option maxRecDepth 20000 in
theorem ggX6_stop_X6_isRounds : GoodIn wsX6_stop wsX6_isRounds := goodIn_r _ [12, 13, 14, 11, 15] (by decide +kernel) (by decide +kernel)
set_option maxRecDepth 20000 in
theorem gX6_stop_X6_isRounds : GoodIn wsX6_stop (va_wsS RX6 215 yX6_isRounds wsX6_isRounds) := goodIn_app (goodIn_of _ (by decide +kernel)) ggX6_stop_X6_isRounds
set_option maxRecDepth 20000 in
theorem ggX6_stop_X6_refuse : GoodIn wsX6_stop wsX6_refuse := goodIn_r _ [19, 20, 116, 117, 118, 119, 120, 121, 122, 123, 124, 125] (by decide +kernel) (by decide +kernel)
set_option maxRecDepth 20000 in
theorem gX6_stop_X6_refuse : GoodIn wsX6_stop (wsV RX6 77 RX6 yX6_refuse wsX6_refuse) := goodIn_app (goodIn_of _ (by decide +kernel)) ggX6_stop_X6_refuse
set_option maxRecDepth 20000 in
theorem ggX6_stop_X2_fewestToShow : GoodIn wsX6_stop wsX2_fewestToShow := goodIn_r _ [25, 26, 27, 28, 29, 30, 6, 31, 32, 33, 34, 35, 36, 37, 38, 11, 39, 40, 41, 42, 43, 44, 45, 46, 47, 48, 49, 24, 50, 51, 52, 53, 54, 55, 8, 56, 57, 58, 59, 60, 61, 62, 63, 64, 65, 66, 67, 68, 69, 70, 71, 72, 73, 74, 75, 76, 77, 78, 79, 80, 81, 82, 83, 84, 85, 86, 87, 88, 89, 90, 91, 92, 93, 94, 95, 96, 97, 98, 99, 100, 101, 102, 103, 104, 105, 106, 107, 108, 109, 110, 111, 112, 113, 114, 115, 140, 141, 126, 127, 128, 129, 130, 131, 132, 133, 134, 135, 136, 137, 138, 139] (by decide +kernel) (by decide +kernel)
set_option maxRecDepth 20000 in
theorem gX6_stop_X2_fewestToShow : GoodIn wsX6_stop (wsV RX6 234 RX2 yX2_fewestToShow wsX2_fewestToShow) := goodIn_app (goodIn_of _ (by decide +kernel)) ggX6_stop_X2_fewestToShow
theorem dX6_stop_0 : decode cX6_stop 0 = .ok (.aload_n 0, 1) := by decide +kernel
theorem dX6_stop_1 : decode cX6_stop 1 = .ok (.getfield 10, 3) := by decide +kernel
theorem dX6_stop_4 : decode cX6_stop 4 = .ok (.iload_n 1, 1) := by decide +kernel
theorem dX6_stop_5 : decode cX6_stop 5 = .ok (.invokevirtual 141, 3) := by decide +kernel
theorem dX6_stop_8 : decode cX6_stop 8 = .ok (.ifCond .eq 10, 3) := by decide +kernel
theorem dX6_stop_11 : decode cX6_stop 11 = .ok (.iload_n 2, 1) := by decide +kernel
theorem dX6_stop_12 : decode cX6_stop 12 = .ok (.invokestatic 215, 3) := by decide +kernel
theorem dX6_stop_15 : decode cX6_stop 15 = .ok (.ifCond .ne 10, 3) := by decide +kernel
theorem dX6_stop_18 : decode cX6_stop 18 = .ok (.aload_n 0, 1) := by decide +kernel
theorem dX6_stop_19 : decode cX6_stop 19 = .ok (.bipush (-2), 2) := by decide +kernel
theorem dX6_stop_21 : decode cX6_stop 21 = .ok (.invokevirtual 77, 3) := by decide +kernel
theorem dX6_stop_24 : decode cX6_stop 24 = .ok (.ireturn, 1) := by decide +kernel
theorem dX6_stop_25 : decode cX6_stop 25 = .ok (.aload_n 0, 1) := by decide +kernel
theorem dX6_stop_26 : decode cX6_stop 26 = .ok (.getfield 41, 3) := by decide +kernel
theorem dX6_stop_29 : decode cX6_stop 29 = .ok (.iload_n 1, 1) := by decide +kernel
theorem dX6_stop_30 : decode cX6_stop 30 = .ok (.iload_n 2, 1) := by decide +kernel
theorem dX6_stop_31 : decode cX6_stop 31 = .ok (.invokevirtual 234, 3) := by decide +kernel
theorem dX6_stop_34 : decode cX6_stop 34 = .ok (.ireturn, 1) := by decide +kernel
set_option maxRecDepth 20000 in
theorem ggX6_first_X5_isSight : GoodIn wsX6_first wsX5_isSight := goodIn_r _ [8, 9, 119, 120, 121, 122, 123, 124, 125, 126, 127, 128, 129, 130, 131, 132] (by decide +kernel) (by decide +kernel)
set_option maxRecDepth 20000 in
theorem gX6_first_X5_isSight : GoodIn wsX6_first (wsV RX6 141 RX5 yX5_isSight wsX5_isSight) := goodIn_app (goodIn_of _ (by decide +kernel)) ggX6_first_X5_isSight
set_option maxRecDepth 20000 in
theorem ggX6_first_X6_isRounds : GoodIn wsX6_first wsX6_isRounds := goodIn_r _ [13, 14, 15, 12, 16] (by decide +kernel) (by decide +kernel)
set_option maxRecDepth 20000 in
theorem gX6_first_X6_isRounds : GoodIn wsX6_first (va_wsS RX6 215 yX6_isRounds wsX6_isRounds) := goodIn_app (goodIn_of _ (by decide +kernel)) ggX6_first_X6_isRounds
set_option maxRecDepth 20000 in
theorem ggX6_first_X6_refuse : GoodIn wsX6_first wsX6_refuse := goodIn_r _ [20, 21, 109, 110, 111, 112, 113, 114, 115, 116, 117, 118] (by decide +kernel) (by decide +kernel)
set_option maxRecDepth 20000 in
theorem gX6_first_X6_refuse : GoodIn wsX6_first (wsV RX6 77 RX6 yX6_refuse wsX6_refuse) := goodIn_app (goodIn_of _ (by decide +kernel)) ggX6_first_X6_refuse
set_option maxRecDepth 20000 in
theorem ggX6_first_X2_bestToTell : GoodIn wsX6_first wsX2_bestToTell := goodIn_r _ [26, 27, 28, 29, 30, 31, 32, 7, 33, 9, 34, 35, 36, 37, 38, 39, 40, 41, 42, 43, 44, 45, 46, 47, 48, 49, 50, 51, 52, 53, 54, 12, 55, 56, 57, 58, 59, 60, 61, 62, 63, 64, 65, 66, 67, 68, 69, 70, 71, 72, 73, 74, 75, 76, 77, 78, 79, 80, 81, 82, 83, 84, 85, 86, 87, 88, 89, 90, 91, 92, 93, 94, 95, 96, 97, 98, 99, 100, 101, 102, 103, 104, 105, 106, 107, 108, 133, 134, 119, 120, 121, 122, 123, 124, 125, 126, 127, 128, 129, 130, 131, 132] (by decide +kernel) (by decide +kernel)
set_option maxRecDepth 20000 in
theorem gX6_first_X2_bestToTell : GoodIn wsX6_first (wsV RX6 240 RX2 yX2_bestToTell wsX2_bestToTell) := goodIn_app (goodIn_of _ (by decide +kernel)) ggX6_first_X2_bestToTell
theorem dX6_first_0 : decode cX6_first 0 = .ok (.aload_n 0, 1) := by decide +kernel
theorem dX6_first_1 : decode cX6_first 1 = .ok (.getfield 10, 3) := by decide +kernel
theorem dX6_first_4 : decode cX6_first 4 = .ok (.iload_n 1, 1) := by decide +kernel
theorem dX6_first_5 : decode cX6_first 5 = .ok (.invokevirtual 141, 3) := by decide +kernel
theorem dX6_first_8 : decode cX6_first 8 = .ok (.ifCond .eq 10, 3) := by decide +kernel
theorem dX6_first_11 : decode cX6_first 11 = .ok (.iload_n 2, 1) := by decide +kernel
theorem dX6_first_12 : decode cX6_first 12 = .ok (.invokestatic 215, 3) := by decide +kernel
theorem dX6_first_15 : decode cX6_first 15 = .ok (.ifCond .ne 10, 3) := by decide +kernel
theorem dX6_first_18 : decode cX6_first 18 = .ok (.aload_n 0, 1) := by decide +kernel
theorem dX6_first_19 : decode cX6_first 19 = .ok (.bipush (-2), 2) := by decide +kernel
theorem dX6_first_21 : decode cX6_first 21 = .ok (.invokevirtual 77, 3) := by decide +kernel
theorem dX6_first_24 : decode cX6_first 24 = .ok (.ireturn, 1) := by decide +kernel
theorem dX6_first_25 : decode cX6_first 25 = .ok (.aload_n 0, 1) := by decide +kernel
theorem dX6_first_26 : decode cX6_first 26 = .ok (.getfield 10, 3) := by decide +kernel
theorem dX6_first_29 : decode cX6_first 29 = .ok (.getfield 237, 3) := by decide +kernel
theorem dX6_first_32 : decode cX6_first 32 = .ok (.ifCond .ne 10, 3) := by decide +kernel
theorem dX6_first_35 : decode cX6_first 35 = .ok (.aload_n 0, 1) := by decide +kernel
theorem dX6_first_36 : decode cX6_first 36 = .ok (.bipush (-5), 2) := by decide +kernel
theorem dX6_first_38 : decode cX6_first 38 = .ok (.invokevirtual 77, 3) := by decide +kernel
theorem dX6_first_41 : decode cX6_first 41 = .ok (.ireturn, 1) := by decide +kernel
theorem dX6_first_42 : decode cX6_first 42 = .ok (.aload_n 0, 1) := by decide +kernel
theorem dX6_first_43 : decode cX6_first 43 = .ok (.getfield 41, 3) := by decide +kernel
theorem dX6_first_46 : decode cX6_first 46 = .ok (.iload_n 1, 1) := by decide +kernel
theorem dX6_first_47 : decode cX6_first 47 = .ok (.iload_n 2, 1) := by decide +kernel
theorem dX6_first_48 : decode cX6_first 48 = .ok (.invokevirtual 240, 3) := by decide +kernel
theorem dX6_first_51 : decode cX6_first 51 = .ok (.ireturn, 1) := by decide +kernel
set_option maxRecDepth 20000 in
theorem ggX6_order_X6_isWithin : GoodIn wsX6_order wsX6_isWithin := goodIn_r _ [7] (by decide +kernel) (by decide +kernel)
set_option maxRecDepth 20000 in
theorem gX6_order_X6_isWithin : GoodIn wsX6_order (va_wsS RX6 73 yX6_isWithin wsX6_isWithin) := goodIn_app (goodIn_of _ (by decide +kernel)) ggX6_order_X6_isWithin
set_option maxRecDepth 20000 in
theorem ggX6_order_X6_refuse : GoodIn wsX6_order wsX6_refuse := goodIn_r _ [11, 12, 130, 131, 132, 133, 134, 135, 136, 137, 138, 139] (by decide +kernel) (by decide +kernel)
set_option maxRecDepth 20000 in
theorem gX6_order_X6_refuse : GoodIn wsX6_order (wsV RX6 77 RX6 yX6_refuse wsX6_refuse) := goodIn_app (goodIn_of _ (by decide +kernel)) ggX6_order_X6_refuse
set_option maxRecDepth 20000 in
theorem ggX6_order_X1_search : GoodIn wsX6_order wsX1_search := goodIn_r _ [17, 18, 19, 20, 21, 22, 23, 24, 16, 25, 26, 27, 28, 29, 30, 31, 32, 33, 34, 35, 36, 37, 38, 39, 40, 41, 42, 43, 44, 45, 46, 47, 48, 49, 50, 51, 52, 53, 54, 55, 56, 57, 58, 59, 60, 61, 62, 63, 64, 65, 66, 67, 68, 69, 70, 71, 72, 73, 74, 6, 75, 76, 77, 78, 79, 80, 81, 82, 83, 84, 85, 86, 87, 88, 89, 90, 91, 92, 93, 94, 95, 96, 97, 98, 99, 100, 101, 102, 103, 104, 105, 106, 107, 108, 109, 110, 111, 112, 113, 114, 115, 116, 117, 118, 119, 120, 121, 154, 155, 156, 157, 158, 159, 160, 140, 141, 142, 143, 144, 145, 146, 147, 148, 149, 150, 151, 152, 153] (by decide +kernel) (by decide +kernel)
set_option maxRecDepth 20000 in
theorem gX6_order_X1_search : GoodIn wsX6_order (wsV RX6 243 RX1 yX1_search wsX1_search) := goodIn_app (goodIn_of _ (by decide +kernel)) ggX6_order_X1_search
set_option maxRecDepth 20000 in
theorem ggX6_order_X1_mostKnown : GoodIn wsX6_order wsX1_mostKnown := goodIn_r _ [125, 19, 154, 155, 156, 157, 158, 159, 160] (by decide +kernel) (by decide +kernel)
set_option maxRecDepth 20000 in
theorem gX6_order_X1_mostKnown : GoodIn wsX6_order (wsV RX6 246 RX1 yX1_mostKnown wsX1_mostKnown) := goodIn_app (goodIn_of _ (by decide +kernel)) ggX6_order_X1_mostKnown
set_option maxRecDepth 20000 in
theorem ggX6_order_X1_speakerAt : GoodIn wsX6_order wsX1_speakerAt := goodIn_r _ [129, 117, 154, 155, 156, 157, 158, 159, 160] (by decide +kernel) (by decide +kernel)
set_option maxRecDepth 20000 in
theorem gX6_order_X1_speakerAt : GoodIn wsX6_order (wsV RX6 249 RX1 yX1_speakerAt wsX1_speakerAt) := goodIn_app (goodIn_of _ (by decide +kernel)) ggX6_order_X1_speakerAt
theorem dX6_order_0 : decode cX6_order 0 = .ok (.iload_n 1, 1) := by decide +kernel
theorem dX6_order_1 : decode cX6_order 1 = .ok (.iconst (-1), 1) := by decide +kernel
theorem dX6_order_2 : decode cX6_order 2 = .ok (.aload_n 0, 1) := by decide +kernel
theorem dX6_order_3 : decode cX6_order 3 = .ok (.getfield 10, 3) := by decide +kernel
theorem dX6_order_6 : decode cX6_order 6 = .ok (.getfield 237, 3) := by decide +kernel
theorem dX6_order_9 : decode cX6_order 9 = .ok (.iconst 1, 1) := by decide +kernel
theorem dX6_order_10 : decode cX6_order 10 = .ok (.isub, 1) := by decide +kernel
theorem dX6_order_11 : decode cX6_order 11 = .ok (.invokestatic 73, 3) := by decide +kernel
theorem dX6_order_14 : decode cX6_order 14 = .ok (.ifCond .ne 10, 3) := by decide +kernel
theorem dX6_order_17 : decode cX6_order 17 = .ok (.aload_n 0, 1) := by decide +kernel
theorem dX6_order_18 : decode cX6_order 18 = .ok (.bipush (-2), 2) := by decide +kernel
theorem dX6_order_20 : decode cX6_order 20 = .ok (.invokevirtual 77, 3) := by decide +kernel
theorem dX6_order_23 : decode cX6_order 23 = .ok (.ireturn, 1) := by decide +kernel
theorem dX6_order_24 : decode cX6_order 24 = .ok (.aload_n 0, 1) := by decide +kernel
theorem dX6_order_25 : decode cX6_order 25 = .ok (.getfield 48, 3) := by decide +kernel
theorem dX6_order_28 : decode cX6_order 28 = .ok (.invokevirtual 243, 3) := by decide +kernel
theorem dX6_order_31 : decode cX6_order 31 = .ok (.iload_n 1, 1) := by decide +kernel
theorem dX6_order_32 : decode cX6_order 32 = .ok (.iconst (-1), 1) := by decide +kernel
theorem dX6_order_33 : decode cX6_order 33 = .ok (.if_icmp .ne 13, 3) := by decide +kernel
theorem dX6_order_36 : decode cX6_order 36 = .ok (.aload_n 0, 1) := by decide +kernel
theorem dX6_order_37 : decode cX6_order 37 = .ok (.getfield 48, 3) := by decide +kernel
theorem dX6_order_40 : decode cX6_order 40 = .ok (.invokevirtual 246, 3) := by decide +kernel
theorem dX6_order_43 : decode cX6_order 43 = .ok (.goto 11, 3) := by decide +kernel
theorem dX6_order_46 : decode cX6_order 46 = .ok (.aload_n 0, 1) := by decide +kernel
theorem dX6_order_47 : decode cX6_order 47 = .ok (.getfield 48, 3) := by decide +kernel
theorem dX6_order_50 : decode cX6_order 50 = .ok (.iload_n 1, 1) := by decide +kernel
theorem dX6_order_51 : decode cX6_order 51 = .ok (.invokevirtual 249, 3) := by decide +kernel
theorem dX6_order_54 : decode cX6_order 54 = .ok (.ireturn, 1) := by decide +kernel
set_option maxRecDepth 20000 in
theorem ggX6_worth_X5_isOne : GoodIn wsX6_worth wsX5_isOne := goodIn_r _ [7, 8, 122, 123, 124, 125, 126, 127, 128, 129, 130, 131, 132, 133, 134, 135] (by decide +kernel) (by decide +kernel)
set_option maxRecDepth 20000 in
theorem gX6_worth_X5_isOne : GoodIn wsX6_worth (wsV RX6 113 RX5 yX5_isOne wsX5_isOne) := goodIn_app (goodIn_of _ (by decide +kernel)) ggX6_worth_X5_isOne
set_option maxRecDepth 20000 in
theorem ggX6_worth_X6_isRounds : GoodIn wsX6_worth wsX6_isRounds := goodIn_r _ [12, 13, 14, 11, 15] (by decide +kernel) (by decide +kernel)
set_option maxRecDepth 20000 in
theorem gX6_worth_X6_isRounds : GoodIn wsX6_worth (va_wsS RX6 215 yX6_isRounds wsX6_isRounds) := goodIn_app (goodIn_of _ (by decide +kernel)) ggX6_worth_X6_isRounds
set_option maxRecDepth 20000 in
theorem ggX6_worth_X6_refuse : GoodIn wsX6_worth wsX6_refuse := goodIn_r _ [19, 20, 112, 113, 114, 115, 116, 117, 118, 119, 120, 121] (by decide +kernel) (by decide +kernel)
set_option maxRecDepth 20000 in
theorem gX6_worth_X6_refuse : GoodIn wsX6_worth (wsV RX6 77 RX6 yX6_refuse wsX6_refuse) := goodIn_app (goodIn_of _ (by decide +kernel)) ggX6_worth_X6_refuse
set_option maxRecDepth 20000 in
theorem ggX6_worth_X2_lostWithout : GoodIn wsX6_worth wsX2_lostWithout := goodIn_r _ [25, 26, 27, 28, 29, 30, 6, 31, 32, 8, 33, 34, 35, 36, 37, 38, 39, 40, 41, 42, 43, 44, 45, 46, 47, 48, 49, 50, 24, 51, 52, 53, 54, 55, 56, 57, 58, 59, 60, 61, 62, 63, 64, 65, 66, 67, 68, 69, 70, 71, 72, 73, 74, 75, 76, 77, 11, 78, 79, 80, 81, 82, 83, 84, 85, 86, 87, 88, 89, 90, 91, 92, 93, 94, 95, 96, 97, 98, 99, 100, 101, 102, 103, 104, 105, 106, 107, 108, 109, 110, 111, 136, 137, 122, 123, 124, 125, 126, 127, 128, 129, 130, 131, 132, 133, 134, 135] (by decide +kernel) (by decide +kernel)
set_option maxRecDepth 20000 in
theorem gX6_worth_X2_lostWithout : GoodIn wsX6_worth (wsV RX6 252 RX2 yX2_lostWithout wsX2_lostWithout) := goodIn_app (goodIn_of _ (by decide +kernel)) ggX6_worth_X2_lostWithout
theorem dX6_worth_0 : decode cX6_worth 0 = .ok (.aload_n 0, 1) := by decide +kernel
theorem dX6_worth_1 : decode cX6_worth 1 = .ok (.getfield 10, 3) := by decide +kernel
theorem dX6_worth_4 : decode cX6_worth 4 = .ok (.iload_n 1, 1) := by decide +kernel
theorem dX6_worth_5 : decode cX6_worth 5 = .ok (.invokevirtual 113, 3) := by decide +kernel
theorem dX6_worth_8 : decode cX6_worth 8 = .ok (.ifCond .eq 10, 3) := by decide +kernel
theorem dX6_worth_11 : decode cX6_worth 11 = .ok (.iload_n 2, 1) := by decide +kernel
theorem dX6_worth_12 : decode cX6_worth 12 = .ok (.invokestatic 215, 3) := by decide +kernel
theorem dX6_worth_15 : decode cX6_worth 15 = .ok (.ifCond .ne 10, 3) := by decide +kernel
theorem dX6_worth_18 : decode cX6_worth 18 = .ok (.aload_n 0, 1) := by decide +kernel
theorem dX6_worth_19 : decode cX6_worth 19 = .ok (.bipush (-2), 2) := by decide +kernel
theorem dX6_worth_21 : decode cX6_worth 21 = .ok (.invokevirtual 77, 3) := by decide +kernel
theorem dX6_worth_24 : decode cX6_worth 24 = .ok (.ireturn, 1) := by decide +kernel
theorem dX6_worth_25 : decode cX6_worth 25 = .ok (.aload_n 0, 1) := by decide +kernel
theorem dX6_worth_26 : decode cX6_worth 26 = .ok (.getfield 41, 3) := by decide +kernel
theorem dX6_worth_29 : decode cX6_worth 29 = .ok (.iload_n 1, 1) := by decide +kernel
theorem dX6_worth_30 : decode cX6_worth 30 = .ok (.iload_n 2, 1) := by decide +kernel
theorem dX6_worth_31 : decode cX6_worth 31 = .ok (.invokevirtual 252, 3) := by decide +kernel
theorem dX6_worth_34 : decode cX6_worth 34 = .ok (.ireturn, 1) := by decide +kernel
set_option maxRecDepth 20000 in
theorem ggX6_chain_X5_isOne : GoodIn wsX6_chain wsX5_isOne := goodIn_r _ [6, 7, 53, 54, 55, 56, 57, 58, 59, 60, 61, 62, 63, 64, 65, 66] (by decide +kernel) (by decide +kernel)
set_option maxRecDepth 20000 in
theorem gX6_chain_X5_isOne : GoodIn wsX6_chain (wsV RX6 113 RX5 yX5_isOne wsX5_isOne) := goodIn_app (goodIn_of _ (by decide +kernel)) ggX6_chain_X5_isOne
set_option maxRecDepth 20000 in
theorem ggX6_chain_X5_isSight : GoodIn wsX6_chain wsX5_isSight := goodIn_r _ [11, 12, 53, 54, 55, 56, 57, 58, 59, 60, 61, 62, 63, 64, 65, 66] (by decide +kernel) (by decide +kernel)
set_option maxRecDepth 20000 in
theorem gX6_chain_X5_isSight : GoodIn wsX6_chain (wsV RX6 141 RX5 yX5_isSight wsX5_isSight) := goodIn_app (goodIn_of _ (by decide +kernel)) ggX6_chain_X5_isSight
set_option maxRecDepth 20000 in
theorem ggX6_chain_X6_refuse : GoodIn wsX6_chain wsX6_refuse := goodIn_r _ [17, 18, 43, 44, 45, 46, 47, 48, 49, 50, 51, 52] (by decide +kernel) (by decide +kernel)
set_option maxRecDepth 20000 in
theorem gX6_chain_X6_refuse : GoodIn wsX6_chain (wsV RX6 77 RX6 yX6_refuse wsX6_refuse) := goodIn_app (goodIn_of _ (by decide +kernel)) ggX6_chain_X6_refuse
set_option maxRecDepth 20000 in
theorem ggX6_chain_X5_sayingsBetween : GoodIn wsX6_chain wsX5_sayingsBetween := goodIn_r _ [22, 7, 23, 24, 25, 5, 26, 27, 28, 29, 30, 31, 32, 33, 34, 16, 35, 36, 37, 38, 39, 40, 41, 42, 53, 54, 55, 56, 57, 58, 59, 60, 61, 62, 63, 64, 65, 66] (by decide +kernel) (by decide +kernel)
set_option maxRecDepth 20000 in
theorem gX6_chain_X5_sayingsBetween : GoodIn wsX6_chain (wsV RX6 255 RX5 yX5_sayingsBetween wsX5_sayingsBetween) := goodIn_app (goodIn_of _ (by decide +kernel)) ggX6_chain_X5_sayingsBetween
theorem dX6_chain_0 : decode cX6_chain 0 = .ok (.aload_n 0, 1) := by decide +kernel
theorem dX6_chain_1 : decode cX6_chain 1 = .ok (.getfield 10, 3) := by decide +kernel
theorem dX6_chain_4 : decode cX6_chain 4 = .ok (.iload_n 1, 1) := by decide +kernel
theorem dX6_chain_5 : decode cX6_chain 5 = .ok (.invokevirtual 113, 3) := by decide +kernel
theorem dX6_chain_8 : decode cX6_chain 8 = .ok (.ifCond .eq 25, 3) := by decide +kernel
theorem dX6_chain_11 : decode cX6_chain 11 = .ok (.aload_n 0, 1) := by decide +kernel
theorem dX6_chain_12 : decode cX6_chain 12 = .ok (.getfield 10, 3) := by decide +kernel
theorem dX6_chain_15 : decode cX6_chain 15 = .ok (.iload_n 2, 1) := by decide +kernel
theorem dX6_chain_16 : decode cX6_chain 16 = .ok (.invokevirtual 113, 3) := by decide +kernel
theorem dX6_chain_19 : decode cX6_chain 19 = .ok (.ifCond .eq 14, 3) := by decide +kernel
theorem dX6_chain_22 : decode cX6_chain 22 = .ok (.aload_n 0, 1) := by decide +kernel
theorem dX6_chain_23 : decode cX6_chain 23 = .ok (.getfield 10, 3) := by decide +kernel
theorem dX6_chain_26 : decode cX6_chain 26 = .ok (.iload_n 3, 1) := by decide +kernel
theorem dX6_chain_27 : decode cX6_chain 27 = .ok (.invokevirtual 141, 3) := by decide +kernel
theorem dX6_chain_30 : decode cX6_chain 30 = .ok (.ifCond .ne 10, 3) := by decide +kernel
theorem dX6_chain_33 : decode cX6_chain 33 = .ok (.aload_n 0, 1) := by decide +kernel
theorem dX6_chain_34 : decode cX6_chain 34 = .ok (.bipush (-2), 2) := by decide +kernel
theorem dX6_chain_36 : decode cX6_chain 36 = .ok (.invokevirtual 77, 3) := by decide +kernel
theorem dX6_chain_39 : decode cX6_chain 39 = .ok (.ireturn, 1) := by decide +kernel
theorem dX6_chain_40 : decode cX6_chain 40 = .ok (.aload_n 0, 1) := by decide +kernel
theorem dX6_chain_41 : decode cX6_chain 41 = .ok (.getfield 10, 3) := by decide +kernel
theorem dX6_chain_44 : decode cX6_chain 44 = .ok (.iload_n 1, 1) := by decide +kernel
theorem dX6_chain_45 : decode cX6_chain 45 = .ok (.iload_n 2, 1) := by decide +kernel
theorem dX6_chain_46 : decode cX6_chain 46 = .ok (.iload_n 3, 1) := by decide +kernel
theorem dX6_chain_47 : decode cX6_chain 47 = .ok (.invokevirtual 255, 3) := by decide +kernel
theorem dX6_chain_50 : decode cX6_chain 50 = .ok (.ireturn, 1) := by decide +kernel
set_option maxRecDepth 20000 in
theorem ggX6_pairs_X5_pairsHearing : GoodIn wsX6_pairs wsX5_pairsHearing := goodIn_r _ [6, 7, 8, 9, 10, 11, 22, 23, 24, 25, 26, 27, 28, 29, 30, 31, 32, 33, 34, 35] (by decide +kernel) (by decide +kernel)
set_option maxRecDepth 20000 in
theorem gX6_pairs_X5_pairsHearing : GoodIn wsX6_pairs (wsV RX6 259 RX5 yX5_pairsHearing wsX5_pairsHearing) := goodIn_app (goodIn_of _ (by decide +kernel)) ggX6_pairs_X5_pairsHearing
theorem dX6_pairs_0 : decode cX6_pairs 0 = .ok (.aload_n 0, 1) := by decide +kernel
theorem dX6_pairs_1 : decode cX6_pairs 1 = .ok (.getfield 10, 3) := by decide +kernel
theorem dX6_pairs_4 : decode cX6_pairs 4 = .ok (.invokevirtual 259, 3) := by decide +kernel
theorem dX6_pairs_7 : decode cX6_pairs 7 = .ok (.ireturn, 1) := by decide +kernel
set_option maxRecDepth 20000 in
theorem ggX6_mouthsBy_X5_isSight : GoodIn wsX6_mouthsBy wsX5_isSight := goodIn_r _ [7, 8, 108, 109, 110, 111, 112, 113, 114, 115, 116, 117, 118, 119, 120, 121] (by decide +kernel) (by decide +kernel)
set_option maxRecDepth 20000 in
theorem gX6_mouthsBy_X5_isSight : GoodIn wsX6_mouthsBy (wsV RX6 141 RX5 yX5_isSight wsX5_isSight) := goodIn_app (goodIn_of _ (by decide +kernel)) ggX6_mouthsBy_X5_isSight
set_option maxRecDepth 20000 in
theorem ggX6_mouthsBy_X6_isRounds : GoodIn wsX6_mouthsBy wsX6_isRounds := goodIn_r _ [12, 13, 14, 11, 15] (by decide +kernel) (by decide +kernel)
set_option maxRecDepth 20000 in
theorem gX6_mouthsBy_X6_isRounds : GoodIn wsX6_mouthsBy (va_wsS RX6 215 yX6_isRounds wsX6_isRounds) := goodIn_app (goodIn_of _ (by decide +kernel)) ggX6_mouthsBy_X6_isRounds
set_option maxRecDepth 20000 in
theorem ggX6_mouthsBy_X6_refuse : GoodIn wsX6_mouthsBy wsX6_refuse := goodIn_r _ [19, 20, 98, 99, 100, 101, 102, 103, 104, 105, 106, 107] (by decide +kernel) (by decide +kernel)
set_option maxRecDepth 20000 in
theorem gX6_mouthsBy_X6_refuse : GoodIn wsX6_mouthsBy (wsV RX6 77 RX6 yX6_refuse wsX6_refuse) := goodIn_app (goodIn_of _ (by decide +kernel)) ggX6_mouthsBy_X6_refuse
set_option maxRecDepth 20000 in
theorem ggX6_mouthsBy_X2_after : GoodIn wsX6_mouthsBy wsX2_after := goodIn_r _ [25, 26, 27, 28, 29, 30, 6, 31, 8, 32, 33, 34, 35, 36, 37, 38, 39, 40, 41, 42, 43, 44, 45, 46, 47, 48, 49, 50, 51, 52, 53, 54, 55, 56, 57, 58, 59, 60, 61, 62, 63, 64, 65, 66, 67, 68, 69, 70, 71, 72, 73, 11, 74, 75, 76, 77, 78, 79, 80, 81, 82, 83, 84, 85, 86, 87, 88, 89, 90, 91, 122, 123, 108, 109, 110, 111, 112, 113, 114, 115, 116, 117, 118, 119, 120, 121] (by decide +kernel) (by decide +kernel)
set_option maxRecDepth 20000 in
theorem gX6_mouthsBy_X2_after : GoodIn wsX6_mouthsBy (wsV RX6 218 RX2 yX2_after wsX2_after) := goodIn_app (goodIn_of _ (by decide +kernel)) ggX6_mouthsBy_X2_after
set_option maxRecDepth 20000 in
theorem ggX6_mouthsBy_X5_whoMaySay : GoodIn wsX6_mouthsBy wsX5_whoMaySay := goodIn_r _ [95, 32, 57, 58, 59, 6, 60, 46, 44, 35, 61, 62, 63, 64, 33, 38, 43, 65, 66, 67, 68, 8, 69, 70, 71, 72, 45, 73, 11, 74, 79, 80, 96, 97, 108, 109, 110, 111, 112, 113, 114, 115, 116, 117, 118, 119, 120, 121] (by decide +kernel) (by decide +kernel)
set_option maxRecDepth 20000 in
theorem gX6_mouthsBy_X5_whoMaySay : GoodIn wsX6_mouthsBy (wsV RX6 202 RX5 yX5_whoMaySay wsX5_whoMaySay) := goodIn_app (goodIn_of _ (by decide +kernel)) ggX6_mouthsBy_X5_whoMaySay
theorem dX6_mouthsBy_0 : decode cX6_mouthsBy 0 = .ok (.aload_n 0, 1) := by decide +kernel
theorem dX6_mouthsBy_1 : decode cX6_mouthsBy 1 = .ok (.getfield 10, 3) := by decide +kernel
theorem dX6_mouthsBy_4 : decode cX6_mouthsBy 4 = .ok (.iload_n 1, 1) := by decide +kernel
theorem dX6_mouthsBy_5 : decode cX6_mouthsBy 5 = .ok (.invokevirtual 141, 3) := by decide +kernel
theorem dX6_mouthsBy_8 : decode cX6_mouthsBy 8 = .ok (.ifCond .eq 10, 3) := by decide +kernel
theorem dX6_mouthsBy_11 : decode cX6_mouthsBy 11 = .ok (.iload_n 2, 1) := by decide +kernel
theorem dX6_mouthsBy_12 : decode cX6_mouthsBy 12 = .ok (.invokestatic 215, 3) := by decide +kernel
theorem dX6_mouthsBy_15 : decode cX6_mouthsBy 15 = .ok (.ifCond .ne 10, 3) := by decide +kernel
theorem dX6_mouthsBy_18 : decode cX6_mouthsBy 18 = .ok (.aload_n 0, 1) := by decide +kernel
theorem dX6_mouthsBy_19 : decode cX6_mouthsBy 19 = .ok (.bipush (-2), 2) := by decide +kernel
theorem dX6_mouthsBy_21 : decode cX6_mouthsBy 21 = .ok (.invokevirtual 77, 3) := by decide +kernel
theorem dX6_mouthsBy_24 : decode cX6_mouthsBy 24 = .ok (.ireturn, 1) := by decide +kernel
theorem dX6_mouthsBy_25 : decode cX6_mouthsBy 25 = .ok (.aload_n 0, 1) := by decide +kernel
theorem dX6_mouthsBy_26 : decode cX6_mouthsBy 26 = .ok (.getfield 41, 3) := by decide +kernel
theorem dX6_mouthsBy_29 : decode cX6_mouthsBy 29 = .ok (.iload_n 2, 1) := by decide +kernel
theorem dX6_mouthsBy_30 : decode cX6_mouthsBy 30 = .ok (.invokevirtual 218, 3) := by decide +kernel
theorem dX6_mouthsBy_33 : decode cX6_mouthsBy 33 = .ok (.iload_n 1, 1) := by decide +kernel
theorem dX6_mouthsBy_34 : decode cX6_mouthsBy 34 = .ok (.invokevirtual 202, 3) := by decide +kernel
theorem dX6_mouthsBy_37 : decode cX6_mouthsBy 37 = .ok (.ireturn, 1) := by decide +kernel
set_option maxRecDepth 20000 in
theorem ggX6_alone_X5_whoIsUnheard : GoodIn wsX6_alone wsX5_whoIsUnheard := goodIn_r _ [6, 7, 8, 9, 10, 11, 5, 12, 23, 24, 25, 26, 27, 28, 29, 30, 31, 32, 33, 34, 35, 36] (by decide +kernel) (by decide +kernel)
set_option maxRecDepth 20000 in
theorem gX6_alone_X5_whoIsUnheard : GoodIn wsX6_alone (wsV RX6 262 RX5 yX5_whoIsUnheard wsX5_whoIsUnheard) := goodIn_app (goodIn_of _ (by decide +kernel)) ggX6_alone_X5_whoIsUnheard
theorem dX6_alone_0 : decode cX6_alone 0 = .ok (.aload_n 0, 1) := by decide +kernel
theorem dX6_alone_1 : decode cX6_alone 1 = .ok (.getfield 10, 3) := by decide +kernel
theorem dX6_alone_4 : decode cX6_alone 4 = .ok (.invokevirtual 262, 3) := by decide +kernel
theorem dX6_alone_7 : decode cX6_alone 7 = .ok (.ireturn, 1) := by decide +kernel
set_option maxRecDepth 20000 in
theorem ggX6_barred_X5_isSight : GoodIn wsX6_barred wsX5_isSight := goodIn_r _ [6, 7, 40, 41, 42, 43, 44, 45, 46, 47, 48, 49, 50, 51, 52, 53] (by decide +kernel) (by decide +kernel)
set_option maxRecDepth 20000 in
theorem gX6_barred_X5_isSight : GoodIn wsX6_barred (wsV RX6 141 RX5 yX5_isSight wsX5_isSight) := goodIn_app (goodIn_of _ (by decide +kernel)) ggX6_barred_X5_isSight
set_option maxRecDepth 20000 in
theorem ggX6_barred_X5_whoIsBarred : GoodIn wsX6_barred wsX5_whoIsBarred := goodIn_r _ [11, 12, 13, 14, 15, 5, 16, 17, 18, 19, 20, 21, 22, 23, 24, 40, 41, 42, 43, 44, 45, 46, 47, 48, 49, 50, 51, 52, 53] (by decide +kernel) (by decide +kernel)
set_option maxRecDepth 20000 in
theorem gX6_barred_X5_whoIsBarred : GoodIn wsX6_barred (wsV RX6 265 RX5 yX5_whoIsBarred wsX5_whoIsBarred) := goodIn_app (goodIn_of _ (by decide +kernel)) ggX6_barred_X5_whoIsBarred
set_option maxRecDepth 20000 in
theorem ggX6_barred_X6_refuse : GoodIn wsX6_barred wsX6_refuse := goodIn_r _ [28, 29, 30, 31, 32, 33, 34, 35, 36, 37, 38, 39] (by decide +kernel) (by decide +kernel)
set_option maxRecDepth 20000 in
theorem gX6_barred_X6_refuse : GoodIn wsX6_barred (wsV RX6 77 RX6 yX6_refuse wsX6_refuse) := goodIn_app (goodIn_of _ (by decide +kernel)) ggX6_barred_X6_refuse
theorem dX6_barred_0 : decode cX6_barred 0 = .ok (.aload_n 0, 1) := by decide +kernel
theorem dX6_barred_1 : decode cX6_barred 1 = .ok (.getfield 10, 3) := by decide +kernel
theorem dX6_barred_4 : decode cX6_barred 4 = .ok (.iload_n 1, 1) := by decide +kernel
theorem dX6_barred_5 : decode cX6_barred 5 = .ok (.invokevirtual 141, 3) := by decide +kernel
theorem dX6_barred_8 : decode cX6_barred 8 = .ok (.ifCond .eq 14, 3) := by decide +kernel
theorem dX6_barred_11 : decode cX6_barred 11 = .ok (.aload_n 0, 1) := by decide +kernel
theorem dX6_barred_12 : decode cX6_barred 12 = .ok (.getfield 10, 3) := by decide +kernel
theorem dX6_barred_15 : decode cX6_barred 15 = .ok (.iload_n 1, 1) := by decide +kernel
theorem dX6_barred_16 : decode cX6_barred 16 = .ok (.invokevirtual 265, 3) := by decide +kernel
theorem dX6_barred_19 : decode cX6_barred 19 = .ok (.goto 9, 3) := by decide +kernel
theorem dX6_barred_22 : decode cX6_barred 22 = .ok (.aload_n 0, 1) := by decide +kernel
theorem dX6_barred_23 : decode cX6_barred 23 = .ok (.bipush (-2), 2) := by decide +kernel
theorem dX6_barred_25 : decode cX6_barred 25 = .ok (.invokevirtual 77, 3) := by decide +kernel
theorem dX6_barred_28 : decode cX6_barred 28 = .ok (.ireturn, 1) := by decide +kernel
set_option maxRecDepth 20000 in
theorem ggX6_blind_X5_isOne : GoodIn wsX6_blind wsX5_isOne := goodIn_r _ [8, 9, 119, 120, 121, 122, 123, 124, 125, 126, 127, 128, 129, 130, 131, 132] (by decide +kernel) (by decide +kernel)
set_option maxRecDepth 20000 in
theorem gX6_blind_X5_isOne : GoodIn wsX6_blind (wsV RX6 113 RX5 yX5_isOne wsX5_isOne) := goodIn_app (goodIn_of _ (by decide +kernel)) ggX6_blind_X5_isOne
set_option maxRecDepth 20000 in
theorem ggX6_blind_X6_isRounds : GoodIn wsX6_blind wsX6_isRounds := goodIn_r _ [13, 14, 15, 12, 16] (by decide +kernel) (by decide +kernel)
set_option maxRecDepth 20000 in
theorem gX6_blind_X6_isRounds : GoodIn wsX6_blind (va_wsS RX6 215 yX6_isRounds wsX6_isRounds) := goodIn_app (goodIn_of _ (by decide +kernel)) ggX6_blind_X6_isRounds
set_option maxRecDepth 20000 in
theorem ggX6_blind_X6_refuse : GoodIn wsX6_blind wsX6_refuse := goodIn_r _ [20, 21, 109, 110, 111, 112, 113, 114, 115, 116, 117, 118] (by decide +kernel) (by decide +kernel)
set_option maxRecDepth 20000 in
theorem gX6_blind_X6_refuse : GoodIn wsX6_blind (wsV RX6 77 RX6 yX6_refuse wsX6_refuse) := goodIn_app (goodIn_of _ (by decide +kernel)) ggX6_blind_X6_refuse
set_option maxRecDepth 20000 in
theorem ggX6_blind_X2_gainByBlind : GoodIn wsX6_blind wsX2_gainByBlind := goodIn_r _ [26, 27, 28, 29, 30, 31, 25, 32, 33, 34, 35, 7, 36, 37, 9, 38, 39, 40, 41, 42, 43, 44, 45, 46, 47, 48, 49, 50, 51, 52, 53, 54, 55, 56, 57, 58, 59, 60, 61, 62, 63, 64, 65, 66, 67, 68, 69, 70, 71, 72, 73, 74, 75, 76, 77, 78, 12, 79, 80, 81, 82, 83, 84, 85, 86, 87, 88, 89, 90, 91, 92, 93, 94, 95, 96, 97, 98, 99, 100, 101, 102, 103, 104, 105, 106, 107, 108, 133, 134, 119, 120, 121, 122, 123, 124, 125, 126, 127, 128, 129, 130, 131, 132] (by decide +kernel) (by decide +kernel)
set_option maxRecDepth 20000 in
theorem gX6_blind_X2_gainByBlind : GoodIn wsX6_blind (wsV RX6 269 RX2 yX2_gainByBlind wsX2_gainByBlind) := goodIn_app (goodIn_of _ (by decide +kernel)) ggX6_blind_X2_gainByBlind
theorem dX6_blind_0 : decode cX6_blind 0 = .ok (.aload_n 0, 1) := by decide +kernel
theorem dX6_blind_1 : decode cX6_blind 1 = .ok (.getfield 10, 3) := by decide +kernel
theorem dX6_blind_4 : decode cX6_blind 4 = .ok (.iload_n 1, 1) := by decide +kernel
theorem dX6_blind_5 : decode cX6_blind 5 = .ok (.invokevirtual 113, 3) := by decide +kernel
theorem dX6_blind_8 : decode cX6_blind 8 = .ok (.ifCond .eq 10, 3) := by decide +kernel
theorem dX6_blind_11 : decode cX6_blind 11 = .ok (.iload_n 2, 1) := by decide +kernel
theorem dX6_blind_12 : decode cX6_blind 12 = .ok (.invokestatic 215, 3) := by decide +kernel
theorem dX6_blind_15 : decode cX6_blind 15 = .ok (.ifCond .ne 14, 3) := by decide +kernel
theorem dX6_blind_18 : decode cX6_blind 18 = .ok (.ldc_w 268, 3) := by decide +kernel
theorem dX6_blind_21 : decode cX6_blind 21 = .ok (.aload_n 0, 1) := by decide +kernel
theorem dX6_blind_22 : decode cX6_blind 22 = .ok (.bipush (-2), 2) := by decide +kernel
theorem dX6_blind_24 : decode cX6_blind 24 = .ok (.invokevirtual 77, 3) := by decide +kernel
theorem dX6_blind_27 : decode cX6_blind 27 = .ok (.iadd, 1) := by decide +kernel
theorem dX6_blind_28 : decode cX6_blind 28 = .ok (.ireturn, 1) := by decide +kernel
theorem dX6_blind_29 : decode cX6_blind 29 = .ok (.aload_n 0, 1) := by decide +kernel
theorem dX6_blind_30 : decode cX6_blind 30 = .ok (.getfield 41, 3) := by decide +kernel
theorem dX6_blind_33 : decode cX6_blind 33 = .ok (.iload_n 1, 1) := by decide +kernel
theorem dX6_blind_34 : decode cX6_blind 34 = .ok (.iload_n 2, 1) := by decide +kernel
theorem dX6_blind_35 : decode cX6_blind 35 = .ok (.invokevirtual 269, 3) := by decide +kernel
theorem dX6_blind_38 : decode cX6_blind 38 = .ok (.ireturn, 1) := by decide +kernel
set_option maxRecDepth 20000 in
theorem ggX6_dusk_X6_isRounds : GoodIn wsX6_dusk wsX6_isRounds := goodIn_r _ [6, 7, 8, 5, 9] (by decide +kernel) (by decide +kernel)
set_option maxRecDepth 20000 in
theorem gX6_dusk_X6_isRounds : GoodIn wsX6_dusk (va_wsS RX6 215 yX6_isRounds wsX6_isRounds) := goodIn_app (goodIn_of _ (by decide +kernel)) ggX6_dusk_X6_isRounds
set_option maxRecDepth 20000 in
theorem ggX6_dusk_X2_gainByLight : GoodIn wsX6_dusk wsX2_gainByLight := goodIn_r _ [14, 15, 16, 17, 13, 18, 19, 20, 21, 22, 23, 24, 25, 26, 27, 28, 29, 30, 31, 32, 33, 34, 35, 36, 37, 38, 39, 40, 41, 42, 43, 44, 45, 46, 47, 48, 49, 50, 51, 52, 53, 54, 55, 56, 57, 58, 59, 60, 61, 62, 63, 64, 65, 66, 67, 68, 69, 5, 70, 71, 72, 73, 74, 75, 76, 77, 78, 79, 80, 81, 82, 83, 84, 85, 86, 87, 88, 89, 90, 91, 92, 93, 94, 95, 111, 112, 113, 114, 115, 116, 117, 118, 119, 120, 121, 122, 123, 124, 125, 126] (by decide +kernel) (by decide +kernel)
set_option maxRecDepth 20000 in
theorem gX6_dusk_X2_gainByLight : GoodIn wsX6_dusk (wsV RX6 272 RX2 yX2_gainByLight wsX2_gainByLight) := goodIn_app (goodIn_of _ (by decide +kernel)) ggX6_dusk_X2_gainByLight
set_option maxRecDepth 20000 in
theorem ggX6_dusk_X6_refuse : GoodIn wsX6_dusk wsX6_refuse := goodIn_r _ [99, 100, 101, 102, 103, 104, 105, 106, 107, 108, 109, 110] (by decide +kernel) (by decide +kernel)
set_option maxRecDepth 20000 in
theorem gX6_dusk_X6_refuse : GoodIn wsX6_dusk (wsV RX6 77 RX6 yX6_refuse wsX6_refuse) := goodIn_app (goodIn_of _ (by decide +kernel)) ggX6_dusk_X6_refuse
theorem dX6_dusk_0 : decode cX6_dusk 0 = .ok (.iload_n 1, 1) := by decide +kernel
theorem dX6_dusk_1 : decode cX6_dusk 1 = .ok (.invokestatic 215, 3) := by decide +kernel
theorem dX6_dusk_4 : decode cX6_dusk 4 = .ok (.ifCond .eq 14, 3) := by decide +kernel
theorem dX6_dusk_7 : decode cX6_dusk 7 = .ok (.aload_n 0, 1) := by decide +kernel
theorem dX6_dusk_8 : decode cX6_dusk 8 = .ok (.getfield 41, 3) := by decide +kernel
theorem dX6_dusk_11 : decode cX6_dusk 11 = .ok (.iload_n 1, 1) := by decide +kernel
theorem dX6_dusk_12 : decode cX6_dusk 12 = .ok (.invokevirtual 272, 3) := by decide +kernel
theorem dX6_dusk_15 : decode cX6_dusk 15 = .ok (.goto 13, 3) := by decide +kernel
theorem dX6_dusk_18 : decode cX6_dusk 18 = .ok (.ldc_w 268, 3) := by decide +kernel
theorem dX6_dusk_21 : decode cX6_dusk 21 = .ok (.aload_n 0, 1) := by decide +kernel
theorem dX6_dusk_22 : decode cX6_dusk 22 = .ok (.bipush (-2), 2) := by decide +kernel
theorem dX6_dusk_24 : decode cX6_dusk 24 = .ok (.invokevirtual 77, 3) := by decide +kernel
theorem dX6_dusk_27 : decode cX6_dusk 27 = .ok (.iadd, 1) := by decide +kernel
theorem dX6_dusk_28 : decode cX6_dusk 28 = .ok (.ireturn, 1) := by decide +kernel
set_option maxRecDepth 20000 in
theorem ggX6_loudest_X6_refuse : GoodIn wsX6_loudest wsX6_refuse := goodIn_r _ [7, 8, 48, 49, 50, 51, 52, 53, 54, 55, 56, 57] (by decide +kernel) (by decide +kernel)
set_option maxRecDepth 20000 in
theorem gX6_loudest_X6_refuse : GoodIn wsX6_loudest (wsV RX6 77 RX6 yX6_refuse wsX6_refuse) := goodIn_app (goodIn_of _ (by decide +kernel)) ggX6_loudest_X6_refuse
set_option maxRecDepth 20000 in
theorem ggX6_loudest_X5_whoMaySayMost : GoodIn wsX6_loudest wsX5_whoMaySayMost := goodIn_r _ [13, 14, 15, 16, 17, 12, 18, 19, 20, 21, 22, 23, 24, 25, 26, 27, 28, 29, 30, 31, 32, 33, 34, 35, 36, 37, 38, 39, 6, 40, 41, 42, 43, 44, 45, 46, 47, 58, 59, 60, 61, 62, 63, 64, 65, 66, 67, 68, 69, 70, 71] (by decide +kernel) (by decide +kernel)
set_option maxRecDepth 20000 in
theorem gX6_loudest_X5_whoMaySayMost : GoodIn wsX6_loudest (wsV RX6 275 RX5 yX5_whoMaySayMost wsX5_whoMaySayMost) := goodIn_app (goodIn_of _ (by decide +kernel)) ggX6_loudest_X5_whoMaySayMost
theorem dX6_loudest_0 : decode cX6_loudest 0 = .ok (.aload_n 0, 1) := by decide +kernel
theorem dX6_loudest_1 : decode cX6_loudest 1 = .ok (.getfield 10, 3) := by decide +kernel
theorem dX6_loudest_4 : decode cX6_loudest 4 = .ok (.getfield 237, 3) := by decide +kernel
theorem dX6_loudest_7 : decode cX6_loudest 7 = .ok (.ifCond .ne 12, 3) := by decide +kernel
theorem dX6_loudest_10 : decode cX6_loudest 10 = .ok (.aload_n 0, 1) := by decide +kernel
theorem dX6_loudest_11 : decode cX6_loudest 11 = .ok (.bipush (-5), 2) := by decide +kernel
theorem dX6_loudest_13 : decode cX6_loudest 13 = .ok (.invokevirtual 77, 3) := by decide +kernel
theorem dX6_loudest_16 : decode cX6_loudest 16 = .ok (.goto 10, 3) := by decide +kernel
theorem dX6_loudest_19 : decode cX6_loudest 19 = .ok (.aload_n 0, 1) := by decide +kernel
theorem dX6_loudest_20 : decode cX6_loudest 20 = .ok (.getfield 10, 3) := by decide +kernel
theorem dX6_loudest_23 : decode cX6_loudest 23 = .ok (.invokevirtual 275, 3) := by decide +kernel
theorem dX6_loudest_26 : decode cX6_loudest 26 = .ok (.ireturn, 1) := by decide +kernel
set_option maxRecDepth 20000 in
theorem ggX6_whom_X6_isWithin : GoodIn wsX6_whom wsX6_isWithin := goodIn_r _ [6] (by decide +kernel) (by decide +kernel)
set_option maxRecDepth 20000 in
theorem gX6_whom_X6_isWithin : GoodIn wsX6_whom (va_wsS RX6 73 yX6_isWithin wsX6_isWithin) := goodIn_app (goodIn_of _ (by decide +kernel)) ggX6_whom_X6_isWithin
set_option maxRecDepth 20000 in
theorem ggX6_whom_X3_troubleWithRow : GoodIn wsX6_whom wsX3_troubleWithRow := goodIn_r _ [11, 12, 13, 14, 5, 15, 3, 4, 6, 57, 58, 59] (by decide +kernel) (by decide +kernel)
set_option maxRecDepth 20000 in
theorem gX6_whom_X3_troubleWithRow : GoodIn wsX6_whom (wsV RX6 85 RX3 yX3_troubleWithRow wsX3_troubleWithRow) := goodIn_app (goodIn_of _ (by decide +kernel)) ggX6_whom_X3_troubleWithRow
set_option maxRecDepth 20000 in
theorem ggX6_whom_X6_refuse : GoodIn wsX6_whom wsX6_refuse := goodIn_r _ [19, 20, 47, 48, 49, 50, 51, 52, 53, 54, 55, 56] (by decide +kernel) (by decide +kernel)
set_option maxRecDepth 20000 in
theorem gX6_whom_X6_refuse : GoodIn wsX6_whom (wsV RX6 77 RX6 yX6_refuse wsX6_refuse) := goodIn_app (goodIn_of _ (by decide +kernel)) ggX6_whom_X6_refuse
set_option maxRecDepth 20000 in
theorem ggX6_whom_X5_allPeople : GoodIn wsX6_whom wsX5_allPeople := goodIn_r _ [25, 26, 60, 61, 62, 63, 64, 65, 66, 67, 68, 69, 70, 71, 72, 73] (by decide +kernel) (by decide +kernel)
set_option maxRecDepth 20000 in
theorem gX6_whom_X5_allPeople : GoodIn wsX6_whom (wsV RX6 225 RX5 yX5_allPeople wsX5_allPeople) := goodIn_app (goodIn_of _ (by decide +kernel)) ggX6_whom_X5_allPeople
set_option maxRecDepth 20000 in
theorem ggX6_whom_X3_fewestApart : GoodIn wsX6_whom wsX3_fewestApart := goodIn_r _ [30, 31, 32, 33, 34, 35, 36, 37, 38, 39, 40, 10, 41, 42, 43, 44, 45, 13, 46, 14, 5, 15, 3, 4, 6, 57, 58, 59] (by decide +kernel) (by decide +kernel)
set_option maxRecDepth 20000 in
theorem gX6_whom_X3_fewestApart : GoodIn wsX6_whom (wsV RX6 278 RX3 yX3_fewestApart wsX3_fewestApart) := goodIn_app (goodIn_of _ (by decide +kernel)) ggX6_whom_X3_fewestApart
theorem dX6_whom_0 : decode cX6_whom 0 = .ok (.iload_n 2, 1) := by decide +kernel
theorem dX6_whom_1 : decode cX6_whom 1 = .ok (.iconst 1, 1) := by decide +kernel
theorem dX6_whom_2 : decode cX6_whom 2 = .ok (.bipush 10, 2) := by decide +kernel
theorem dX6_whom_4 : decode cX6_whom 4 = .ok (.invokestatic 73, 3) := by decide +kernel
theorem dX6_whom_7 : decode cX6_whom 7 = .ok (.ifCond .eq 15, 3) := by decide +kernel
theorem dX6_whom_10 : decode cX6_whom 10 = .ok (.aload_n 0, 1) := by decide +kernel
theorem dX6_whom_11 : decode cX6_whom 11 = .ok (.getfield 25, 3) := by decide +kernel
theorem dX6_whom_14 : decode cX6_whom 14 = .ok (.iload_n 1, 1) := by decide +kernel
theorem dX6_whom_15 : decode cX6_whom 15 = .ok (.iload_n 2, 1) := by decide +kernel
theorem dX6_whom_16 : decode cX6_whom 16 = .ok (.invokevirtual 85, 3) := by decide +kernel
theorem dX6_whom_19 : decode cX6_whom 19 = .ok (.goto 5, 3) := by decide +kernel
theorem dX6_whom_22 : decode cX6_whom 22 = .ok (.bipush (-2), 2) := by decide +kernel
theorem dX6_whom_24 : decode cX6_whom 24 = .ok (.istore_n 3, 1) := by decide +kernel
theorem dX6_whom_25 : decode cX6_whom 25 = .ok (.iload_n 3, 1) := by decide +kernel
theorem dX6_whom_26 : decode cX6_whom 26 = .ok (.ifCond .eq 9, 3) := by decide +kernel
theorem dX6_whom_29 : decode cX6_whom 29 = .ok (.aload_n 0, 1) := by decide +kernel
theorem dX6_whom_30 : decode cX6_whom 30 = .ok (.iload_n 3, 1) := by decide +kernel
theorem dX6_whom_31 : decode cX6_whom 31 = .ok (.invokevirtual 77, 3) := by decide +kernel
theorem dX6_whom_34 : decode cX6_whom 34 = .ok (.ireturn, 1) := by decide +kernel
theorem dX6_whom_35 : decode cX6_whom 35 = .ok (.aload_n 0, 1) := by decide +kernel
theorem dX6_whom_36 : decode cX6_whom 36 = .ok (.getfield 25, 3) := by decide +kernel
theorem dX6_whom_39 : decode cX6_whom 39 = .ok (.iload_n 1, 1) := by decide +kernel
theorem dX6_whom_40 : decode cX6_whom 40 = .ok (.iload_n 2, 1) := by decide +kernel
theorem dX6_whom_41 : decode cX6_whom 41 = .ok (.aload_n 0, 1) := by decide +kernel
theorem dX6_whom_42 : decode cX6_whom 42 = .ok (.getfield 10, 3) := by decide +kernel
theorem dX6_whom_45 : decode cX6_whom 45 = .ok (.invokevirtual 225, 3) := by decide +kernel
theorem dX6_whom_48 : decode cX6_whom 48 = .ok (.invokevirtual 278, 3) := by decide +kernel
theorem dX6_whom_51 : decode cX6_whom 51 = .ok (.ireturn, 1) := by decide +kernel
set_option maxRecDepth 20000 in
theorem ggX6_parts_X6_isWithin : GoodIn wsX6_parts wsX6_isWithin := goodIn_r _ [6] (by decide +kernel) (by decide +kernel)
set_option maxRecDepth 20000 in
theorem gX6_parts_X6_isWithin : GoodIn wsX6_parts (va_wsS RX6 73 yX6_isWithin wsX6_isWithin) := goodIn_app (goodIn_of _ (by decide +kernel)) ggX6_parts_X6_isWithin
set_option maxRecDepth 20000 in
theorem ggX6_parts_X5_allPeople : GoodIn wsX6_parts wsX5_allPeople := goodIn_r _ [11, 12, 46, 47, 48, 49, 50, 51, 52, 53, 54, 55, 56, 57, 58, 59] (by decide +kernel) (by decide +kernel)
set_option maxRecDepth 20000 in
theorem gX6_parts_X5_allPeople : GoodIn wsX6_parts (wsV RX6 225 RX5 yX5_allPeople wsX5_allPeople) := goodIn_app (goodIn_of _ (by decide +kernel)) ggX6_parts_X5_allPeople
set_option maxRecDepth 20000 in
theorem ggX6_parts_X3_troubleWithRow : GoodIn wsX6_parts wsX3_troubleWithRow := goodIn_r _ [17, 18, 19, 20, 5, 21, 3, 4, 6, 60, 61, 62] (by decide +kernel) (by decide +kernel)
set_option maxRecDepth 20000 in
theorem gX6_parts_X3_troubleWithRow : GoodIn wsX6_parts (wsV RX6 85 RX3 yX3_troubleWithRow wsX3_troubleWithRow) := goodIn_app (goodIn_of _ (by decide +kernel)) ggX6_parts_X3_troubleWithRow
set_option maxRecDepth 20000 in
theorem ggX6_parts_X6_refuse : GoodIn wsX6_parts wsX6_refuse := goodIn_r _ [25, 26, 36, 37, 38, 39, 40, 41, 42, 43, 44, 45] (by decide +kernel) (by decide +kernel)
set_option maxRecDepth 20000 in
theorem gX6_parts_X6_refuse : GoodIn wsX6_parts (wsV RX6 77 RX6 yX6_refuse wsX6_refuse) := goodIn_app (goodIn_of _ (by decide +kernel)) ggX6_parts_X6_refuse
set_option maxRecDepth 20000 in
theorem ggX6_parts_X3_isApart : GoodIn wsX6_parts wsX3_isApart := goodIn_r _ [30, 31, 32, 33, 16, 34, 19, 35, 20, 5, 21, 3, 4, 6, 60, 61, 62] (by decide +kernel) (by decide +kernel)
set_option maxRecDepth 20000 in
theorem gX6_parts_X3_isApart : GoodIn wsX6_parts (wsV RX6 281 RX3 yX3_isApart wsX3_isApart) := goodIn_app (goodIn_of _ (by decide +kernel)) ggX6_parts_X3_isApart
theorem dX6_parts_0 : decode cX6_parts 0 = .ok (.iload_n 2, 1) := by decide +kernel
theorem dX6_parts_1 : decode cX6_parts 1 = .ok (.iconst 1, 1) := by decide +kernel
theorem dX6_parts_2 : decode cX6_parts 2 = .ok (.bipush 10, 2) := by decide +kernel
theorem dX6_parts_4 : decode cX6_parts 4 = .ok (.invokestatic 73, 3) := by decide +kernel
theorem dX6_parts_7 : decode cX6_parts 7 = .ok (.ifCond .eq 22, 3) := by decide +kernel
theorem dX6_parts_10 : decode cX6_parts 10 = .ok (.iload_n 3, 1) := by decide +kernel
theorem dX6_parts_11 : decode cX6_parts 11 = .ok (.iconst 0, 1) := by decide +kernel
theorem dX6_parts_12 : decode cX6_parts 12 = .ok (.aload_n 0, 1) := by decide +kernel
theorem dX6_parts_13 : decode cX6_parts 13 = .ok (.getfield 10, 3) := by decide +kernel
theorem dX6_parts_16 : decode cX6_parts 16 = .ok (.invokevirtual 225, 3) := by decide +kernel
theorem dX6_parts_19 : decode cX6_parts 19 = .ok (.invokestatic 73, 3) := by decide +kernel
theorem dX6_parts_22 : decode cX6_parts 22 = .ok (.ifCond .eq 7, 3) := by decide +kernel
theorem dX6_parts_25 : decode cX6_parts 25 = .ok (.iconst 1, 1) := by decide +kernel
theorem dX6_parts_26 : decode cX6_parts 26 = .ok (.goto 4, 3) := by decide +kernel
theorem dX6_parts_29 : decode cX6_parts 29 = .ok (.iconst 0, 1) := by decide +kernel
theorem dX6_parts_30 : decode cX6_parts 30 = .ok (.istore 4, 2) := by decide +kernel
theorem dX6_parts_32 : decode cX6_parts 32 = .ok (.iload 4, 2) := by decide +kernel
theorem dX6_parts_34 : decode cX6_parts 34 = .ok (.ifCond .eq 15, 3) := by decide +kernel
theorem dX6_parts_37 : decode cX6_parts 37 = .ok (.aload_n 0, 1) := by decide +kernel
theorem dX6_parts_38 : decode cX6_parts 38 = .ok (.getfield 25, 3) := by decide +kernel
theorem dX6_parts_41 : decode cX6_parts 41 = .ok (.iload_n 1, 1) := by decide +kernel
theorem dX6_parts_42 : decode cX6_parts 42 = .ok (.iload_n 2, 1) := by decide +kernel
theorem dX6_parts_43 : decode cX6_parts 43 = .ok (.invokevirtual 85, 3) := by decide +kernel
theorem dX6_parts_46 : decode cX6_parts 46 = .ok (.goto 5, 3) := by decide +kernel
theorem dX6_parts_49 : decode cX6_parts 49 = .ok (.bipush (-2), 2) := by decide +kernel
theorem dX6_parts_51 : decode cX6_parts 51 = .ok (.istore 5, 2) := by decide +kernel
theorem dX6_parts_53 : decode cX6_parts 53 = .ok (.iload 5, 2) := by decide +kernel
theorem dX6_parts_55 : decode cX6_parts 55 = .ok (.ifCond .eq 10, 3) := by decide +kernel
theorem dX6_parts_58 : decode cX6_parts 58 = .ok (.aload_n 0, 1) := by decide +kernel
theorem dX6_parts_59 : decode cX6_parts 59 = .ok (.iload 5, 2) := by decide +kernel
theorem dX6_parts_61 : decode cX6_parts 61 = .ok (.invokevirtual 77, 3) := by decide +kernel
theorem dX6_parts_64 : decode cX6_parts 64 = .ok (.ireturn, 1) := by decide +kernel
theorem dX6_parts_65 : decode cX6_parts 65 = .ok (.aload_n 0, 1) := by decide +kernel
theorem dX6_parts_66 : decode cX6_parts 66 = .ok (.getfield 25, 3) := by decide +kernel
theorem dX6_parts_69 : decode cX6_parts 69 = .ok (.iload_n 1, 1) := by decide +kernel
theorem dX6_parts_70 : decode cX6_parts 70 = .ok (.iload_n 2, 1) := by decide +kernel
theorem dX6_parts_71 : decode cX6_parts 71 = .ok (.iload_n 3, 1) := by decide +kernel
theorem dX6_parts_72 : decode cX6_parts 72 = .ok (.aload_n 0, 1) := by decide +kernel
theorem dX6_parts_73 : decode cX6_parts 73 = .ok (.getfield 10, 3) := by decide +kernel
theorem dX6_parts_76 : decode cX6_parts 76 = .ok (.invokevirtual 225, 3) := by decide +kernel
theorem dX6_parts_79 : decode cX6_parts 79 = .ok (.invokevirtual 281, 3) := by decide +kernel
theorem dX6_parts_82 : decode cX6_parts 82 = .ok (.ifCond .eq 7, 3) := by decide +kernel
theorem dX6_parts_85 : decode cX6_parts 85 = .ok (.iconst 1, 1) := by decide +kernel
theorem dX6_parts_86 : decode cX6_parts 86 = .ok (.goto 4, 3) := by decide +kernel
theorem dX6_parts_89 : decode cX6_parts 89 = .ok (.iconst 0, 1) := by decide +kernel
theorem dX6_parts_90 : decode cX6_parts 90 = .ok (.ireturn, 1) := by decide +kernel
set_option maxRecDepth 20000 in
theorem ggX6_judge_X6_troubleWithEvening : GoodIn wsX6_judge wsX6_troubleWithEvening := goodIn_r _ [6, 7, 8, 9, 5, 10, 11, 12, 13, 14, 15, 16, 17, 18, 19, 106, 107, 108, 109, 110, 111, 112, 113, 114, 115, 116, 117, 118] (by decide +kernel) (by decide +kernel)
set_option maxRecDepth 20000 in
theorem gX6_judge_X6_troubleWithEvening : GoodIn wsX6_judge (wsV RX6 285 RX6 yX6_troubleWithEvening wsX6_troubleWithEvening) := goodIn_app (goodIn_of _ (by decide +kernel)) ggX6_judge_X6_troubleWithEvening
set_option maxRecDepth 20000 in
theorem ggX6_judge_X6_refuse : GoodIn wsX6_judge wsX6_refuse := goodIn_r _ [23, 24, 106, 107, 108, 109, 110, 111, 112, 113, 114, 115] (by decide +kernel) (by decide +kernel)
set_option maxRecDepth 20000 in
theorem gX6_judge_X6_refuse : GoodIn wsX6_judge (wsV RX6 77 RX6 yX6_refuse wsX6_refuse) := goodIn_app (goodIn_of _ (by decide +kernel)) ggX6_judge_X6_refuse
set_option maxRecDepth 20000 in
theorem ggX6_judge_X0_firstWrong : GoodIn wsX6_judge wsX0_firstWrong := goodIn_r _ [29, 30, 31, 32, 33, 34, 35, 36, 37, 38, 39, 40, 41, 42, 43, 44, 45, 46, 47, 48, 49, 50, 51, 52, 53, 54, 55, 56, 57, 14, 58, 17, 59, 18, 5, 19, 8, 9, 10, 60, 61, 62, 28, 63, 64, 65, 66, 67, 68, 69, 70, 71, 72, 73, 74, 75, 76, 77, 78, 79, 80, 81, 82, 83, 84, 85, 86, 87, 88, 89, 90, 91, 92, 93, 94, 95, 96, 97, 98, 99, 100, 101, 102, 103, 104, 105, 119, 120, 121, 122, 123, 124, 125, 126, 127, 128, 129, 130, 131, 132, 133, 134, 135, 116, 117, 118] (by decide +kernel) (by decide +kernel)
set_option maxRecDepth 20000 in
theorem gX6_judge_X0_firstWrong : GoodIn wsX6_judge (wsV RX6 288 RX0 yX0_firstWrong wsX0_firstWrong) := goodIn_app (goodIn_of _ (by decide +kernel)) ggX6_judge_X0_firstWrong
theorem dX6_judge_0 : decode cX6_judge 0 = .ok (.aload_n 0, 1) := by decide +kernel
theorem dX6_judge_1 : decode cX6_judge 1 = .ok (.iload_n 1, 1) := by decide +kernel
theorem dX6_judge_2 : decode cX6_judge 2 = .ok (.iload_n 2, 1) := by decide +kernel
theorem dX6_judge_3 : decode cX6_judge 3 = .ok (.invokevirtual 285, 3) := by decide +kernel
theorem dX6_judge_6 : decode cX6_judge 6 = .ok (.istore_n 3, 1) := by decide +kernel
theorem dX6_judge_7 : decode cX6_judge 7 = .ok (.iload_n 3, 1) := by decide +kernel
theorem dX6_judge_8 : decode cX6_judge 8 = .ok (.ifCond .eq 11, 3) := by decide +kernel
theorem dX6_judge_11 : decode cX6_judge 11 = .ok (.aload_n 0, 1) := by decide +kernel
theorem dX6_judge_12 : decode cX6_judge 12 = .ok (.iload_n 3, 1) := by decide +kernel
theorem dX6_judge_13 : decode cX6_judge 13 = .ok (.invokevirtual 77, 3) := by decide +kernel
theorem dX6_judge_16 : decode cX6_judge 16 = .ok (.goto 12, 3) := by decide +kernel
theorem dX6_judge_19 : decode cX6_judge 19 = .ok (.aload_n 0, 1) := by decide +kernel
theorem dX6_judge_20 : decode cX6_judge 20 = .ok (.getfield 57, 3) := by decide +kernel
theorem dX6_judge_23 : decode cX6_judge 23 = .ok (.iload_n 1, 1) := by decide +kernel
theorem dX6_judge_24 : decode cX6_judge 24 = .ok (.iload_n 2, 1) := by decide +kernel
theorem dX6_judge_25 : decode cX6_judge 25 = .ok (.invokevirtual 288, 3) := by decide +kernel
theorem dX6_judge_28 : decode cX6_judge 28 = .ok (.ireturn, 1) := by decide +kernel
set_option maxRecDepth 20000 in
theorem ggX6_heard_X5_isOne : GoodIn wsX6_heard wsX5_isOne := goodIn_r _ [9, 10, 123, 124, 125, 126, 127, 128, 129, 130, 131, 132, 133, 134, 135, 136] (by decide +kernel) (by decide +kernel)
set_option maxRecDepth 20000 in
theorem gX6_heard_X5_isOne : GoodIn wsX6_heard (wsV RX6 113 RX5 yX5_isOne wsX5_isOne) := goodIn_app (goodIn_of _ (by decide +kernel)) ggX6_heard_X5_isOne
set_option maxRecDepth 20000 in
theorem ggX6_heard_X6_troubleWithEvening : GoodIn wsX6_heard wsX6_troubleWithEvening := goodIn_r _ [15, 16, 17, 18, 14, 19, 20, 21, 22, 23, 24, 25, 26, 27, 28, 113, 114, 115, 116, 117, 118, 119, 120, 121, 122, 137, 138, 139] (by decide +kernel) (by decide +kernel)
set_option maxRecDepth 20000 in
theorem gX6_heard_X6_troubleWithEvening : GoodIn wsX6_heard (wsV RX6 285 RX6 yX6_troubleWithEvening wsX6_troubleWithEvening) := goodIn_app (goodIn_of _ (by decide +kernel)) ggX6_heard_X6_troubleWithEvening
set_option maxRecDepth 20000 in
theorem ggX6_heard_X6_refuse : GoodIn wsX6_heard wsX6_refuse := goodIn_r _ [32, 33, 113, 114, 115, 116, 117, 118, 119, 120, 121, 122] (by decide +kernel) (by decide +kernel)
set_option maxRecDepth 20000 in
theorem gX6_heard_X6_refuse : GoodIn wsX6_heard (wsV RX6 77 RX6 yX6_refuse wsX6_refuse) := goodIn_app (goodIn_of _ (by decide +kernel)) ggX6_heard_X6_refuse
set_option maxRecDepth 20000 in
theorem ggX6_heard_X0_firstWrong : GoodIn wsX6_heard wsX0_firstWrong := goodIn_r _ [38, 39, 40, 41, 42, 43, 44, 8, 45, 46, 10, 47, 48, 49, 50, 51, 52, 53, 54, 55, 56, 57, 58, 59, 60, 61, 62, 63, 64, 23, 65, 26, 66, 27, 14, 28, 17, 18, 19, 67, 68, 69, 37, 70, 71, 72, 73, 74, 75, 76, 77, 78, 79, 80, 81, 82, 83, 84, 85, 86, 87, 88, 89, 90, 91, 92, 93, 94, 95, 96, 97, 98, 99, 100, 101, 102, 103, 104, 105, 106, 107, 108, 109, 110, 111, 112, 140, 141, 142, 123, 124, 125, 126, 127, 128, 129, 130, 131, 132, 133, 134, 135, 136, 137, 138, 139] (by decide +kernel) (by decide +kernel)
set_option maxRecDepth 20000 in
theorem gX6_heard_X0_firstWrong : GoodIn wsX6_heard (wsV RX6 288 RX0 yX0_firstWrong wsX0_firstWrong) := goodIn_app (goodIn_of _ (by decide +kernel)) ggX6_heard_X0_firstWrong
theorem dX6_heard_0 : decode cX6_heard 0 = .ok (.aload_n 0, 1) := by decide +kernel
theorem dX6_heard_1 : decode cX6_heard 1 = .ok (.getfield 10, 3) := by decide +kernel
theorem dX6_heard_4 : decode cX6_heard 4 = .ok (.iload_n 3, 1) := by decide +kernel
theorem dX6_heard_5 : decode cX6_heard 5 = .ok (.invokevirtual 113, 3) := by decide +kernel
theorem dX6_heard_8 : decode cX6_heard 8 = .ok (.ifCond .eq 12, 3) := by decide +kernel
theorem dX6_heard_11 : decode cX6_heard 11 = .ok (.aload_n 0, 1) := by decide +kernel
theorem dX6_heard_12 : decode cX6_heard 12 = .ok (.iload_n 1, 1) := by decide +kernel
theorem dX6_heard_13 : decode cX6_heard 13 = .ok (.iload_n 2, 1) := by decide +kernel
theorem dX6_heard_14 : decode cX6_heard 14 = .ok (.invokevirtual 285, 3) := by decide +kernel
theorem dX6_heard_17 : decode cX6_heard 17 = .ok (.goto 5, 3) := by decide +kernel
theorem dX6_heard_20 : decode cX6_heard 20 = .ok (.bipush (-2), 2) := by decide +kernel
theorem dX6_heard_22 : decode cX6_heard 22 = .ok (.istore 4, 2) := by decide +kernel
theorem dX6_heard_24 : decode cX6_heard 24 = .ok (.iload 4, 2) := by decide +kernel
theorem dX6_heard_26 : decode cX6_heard 26 = .ok (.ifCond .eq 10, 3) := by decide +kernel
theorem dX6_heard_29 : decode cX6_heard 29 = .ok (.aload_n 0, 1) := by decide +kernel
theorem dX6_heard_30 : decode cX6_heard 30 = .ok (.iload 4, 2) := by decide +kernel
theorem dX6_heard_32 : decode cX6_heard 32 = .ok (.invokevirtual 77, 3) := by decide +kernel
theorem dX6_heard_35 : decode cX6_heard 35 = .ok (.ireturn, 1) := by decide +kernel
theorem dX6_heard_36 : decode cX6_heard 36 = .ok (.aload_n 0, 1) := by decide +kernel
theorem dX6_heard_37 : decode cX6_heard 37 = .ok (.getfield 57, 3) := by decide +kernel
theorem dX6_heard_40 : decode cX6_heard 40 = .ok (.iload_n 1, 1) := by decide +kernel
theorem dX6_heard_41 : decode cX6_heard 41 = .ok (.iload_n 2, 1) := by decide +kernel
theorem dX6_heard_42 : decode cX6_heard 42 = .ok (.invokevirtual 288, 3) := by decide +kernel
theorem dX6_heard_45 : decode cX6_heard 45 = .ok (.iconst (-1), 1) := by decide +kernel
theorem dX6_heard_46 : decode cX6_heard 46 = .ok (.if_icmp .eq 10, 3) := by decide +kernel
theorem dX6_heard_49 : decode cX6_heard 49 = .ok (.aload_n 0, 1) := by decide +kernel
theorem dX6_heard_50 : decode cX6_heard 50 = .ok (.bipush (-5), 2) := by decide +kernel
theorem dX6_heard_52 : decode cX6_heard 52 = .ok (.invokevirtual 77, 3) := by decide +kernel
theorem dX6_heard_55 : decode cX6_heard 55 = .ok (.ireturn, 1) := by decide +kernel
theorem dX6_heard_56 : decode cX6_heard 56 = .ok (.aload_n 0, 1) := by decide +kernel
theorem dX6_heard_57 : decode cX6_heard 57 = .ok (.getfield 19, 3) := by decide +kernel
theorem dX6_heard_60 : decode cX6_heard 60 = .ok (.getfield 153, 3) := by decide +kernel
theorem dX6_heard_63 : decode cX6_heard 63 = .ok (.iload_n 3, 1) := by decide +kernel
theorem dX6_heard_64 : decode cX6_heard 64 = .ok (.iaload, 1) := by decide +kernel
theorem dX6_heard_65 : decode cX6_heard 65 = .ok (.ireturn, 1) := by decide +kernel
set_option maxRecDepth 20000 in
theorem ggX6_falsely_X6_troubleWithSayings : GoodIn wsX6_falsely wsX6_troubleWithSayings := goodIn_r _ [6, 1, 7, 8, 9, 5, 10, 11, 12, 13, 14, 15, 16, 17, 18, 19, 20, 21, 22, 23, 24, 25, 26, 27, 28, 29, 30, 31, 32, 33, 34, 35, 36, 37, 38, 39, 40, 41, 42, 70, 71, 72, 73, 74, 75, 76, 77, 78, 79, 80, 81, 82, 83, 84, 85, 86, 87, 88, 89, 90, 91, 92, 93, 94, 95, 96, 97, 98, 99] (by decide +kernel) (by decide +kernel)
set_option maxRecDepth 20000 in
theorem gX6_falsely_X6_troubleWithSayings : GoodIn wsX6_falsely (wsV RX6 291 RX6 yX6_troubleWithSayings wsX6_troubleWithSayings) := goodIn_app (goodIn_of _ (by decide +kernel)) ggX6_falsely_X6_troubleWithSayings
set_option maxRecDepth 20000 in
theorem ggX6_falsely_X6_refuse : GoodIn wsX6_falsely wsX6_refuse := goodIn_r _ [46, 47, 70, 71, 72, 73, 74, 75, 76, 77, 78, 79] (by decide +kernel) (by decide +kernel)
set_option maxRecDepth 20000 in
theorem gX6_falsely_X6_refuse : GoodIn wsX6_falsely (wsV RX6 77 RX6 yX6_refuse wsX6_refuse) := goodIn_app (goodIn_of _ (by decide +kernel)) ggX6_falsely_X6_refuse
set_option maxRecDepth 20000 in
theorem ggX6_falsely_X0_falseSayings : GoodIn wsX6_falsely wsX0_falseSayings := goodIn_r _ [51, 40, 52, 53, 54, 27, 55, 29, 39, 30, 31, 32, 18, 33, 21, 34, 22, 5, 23, 12, 13, 14, 56, 57, 58, 59, 60, 61, 62, 63, 64, 65, 66, 67, 68, 69, 83, 84, 85, 80, 81, 82, 86, 87, 88, 89, 90, 91, 92, 93, 94, 95, 96, 97, 98, 99] (by decide +kernel) (by decide +kernel)
set_option maxRecDepth 20000 in
theorem gX6_falsely_X0_falseSayings : GoodIn wsX6_falsely (wsV RX6 294 RX0 yX0_falseSayings wsX0_falseSayings) := goodIn_app (goodIn_of _ (by decide +kernel)) ggX6_falsely_X0_falseSayings
theorem dX6_falsely_0 : decode cX6_falsely 0 = .ok (.aload_n 0, 1) := by decide +kernel
theorem dX6_falsely_1 : decode cX6_falsely 1 = .ok (.iload_n 1, 1) := by decide +kernel
theorem dX6_falsely_2 : decode cX6_falsely 2 = .ok (.iload_n 2, 1) := by decide +kernel
theorem dX6_falsely_3 : decode cX6_falsely 3 = .ok (.invokevirtual 291, 3) := by decide +kernel
theorem dX6_falsely_6 : decode cX6_falsely 6 = .ok (.istore_n 3, 1) := by decide +kernel
theorem dX6_falsely_7 : decode cX6_falsely 7 = .ok (.iload_n 3, 1) := by decide +kernel
theorem dX6_falsely_8 : decode cX6_falsely 8 = .ok (.ifCond .eq 11, 3) := by decide +kernel
theorem dX6_falsely_11 : decode cX6_falsely 11 = .ok (.aload_n 0, 1) := by decide +kernel
theorem dX6_falsely_12 : decode cX6_falsely 12 = .ok (.iload_n 3, 1) := by decide +kernel
theorem dX6_falsely_13 : decode cX6_falsely 13 = .ok (.invokevirtual 77, 3) := by decide +kernel
theorem dX6_falsely_16 : decode cX6_falsely 16 = .ok (.goto 12, 3) := by decide +kernel
theorem dX6_falsely_19 : decode cX6_falsely 19 = .ok (.aload_n 0, 1) := by decide +kernel
theorem dX6_falsely_20 : decode cX6_falsely 20 = .ok (.getfield 57, 3) := by decide +kernel
theorem dX6_falsely_23 : decode cX6_falsely 23 = .ok (.iload_n 1, 1) := by decide +kernel
theorem dX6_falsely_24 : decode cX6_falsely 24 = .ok (.iload_n 2, 1) := by decide +kernel
theorem dX6_falsely_25 : decode cX6_falsely 25 = .ok (.invokevirtual 294, 3) := by decide +kernel
theorem dX6_falsely_28 : decode cX6_falsely 28 = .ok (.ireturn, 1) := by decide +kernel
set_option maxRecDepth 20000 in
theorem ggX6_surely_X5_isSight : GoodIn wsX6_surely wsX5_isSight := goodIn_r _ [7, 8, 98, 99, 100, 101, 102, 103, 104, 105, 106, 107, 108, 109, 110, 111] (by decide +kernel) (by decide +kernel)
set_option maxRecDepth 20000 in
theorem gX6_surely_X5_isSight : GoodIn wsX6_surely (wsV RX6 141 RX5 yX5_isSight wsX5_isSight) := goodIn_app (goodIn_of _ (by decide +kernel)) ggX6_surely_X5_isSight
set_option maxRecDepth 20000 in
theorem ggX6_surely_X6_troubleWithSayings : GoodIn wsX6_surely wsX6_troubleWithSayings := goodIn_r _ [13, 2, 14, 15, 16, 12, 17, 18, 19, 20, 21, 22, 23, 24, 25, 26, 27, 28, 29, 30, 31, 32, 33, 34, 35, 36, 37, 38, 39, 40, 41, 42, 43, 44, 45, 46, 47, 48, 49, 88, 89, 90, 91, 92, 93, 94, 95, 96, 97, 112, 113, 114, 115, 116, 117, 98, 99, 100, 101, 102, 103, 104, 105, 106, 107, 108, 109, 110, 111] (by decide +kernel) (by decide +kernel)
set_option maxRecDepth 20000 in
theorem gX6_surely_X6_troubleWithSayings : GoodIn wsX6_surely (wsV RX6 291 RX6 yX6_troubleWithSayings wsX6_troubleWithSayings) := goodIn_app (goodIn_of _ (by decide +kernel)) ggX6_surely_X6_troubleWithSayings
set_option maxRecDepth 20000 in
theorem ggX6_surely_X6_refuse : GoodIn wsX6_surely wsX6_refuse := goodIn_r _ [53, 54, 88, 89, 90, 91, 92, 93, 94, 95, 96, 97] (by decide +kernel) (by decide +kernel)
set_option maxRecDepth 20000 in
theorem gX6_surely_X6_refuse : GoodIn wsX6_surely (wsV RX6 77 RX6 yX6_refuse wsX6_refuse) := goodIn_app (goodIn_of _ (by decide +kernel)) ggX6_surely_X6_refuse
set_option maxRecDepth 20000 in
theorem ggX6_surely_X0_silentOf : GoodIn wsX6_surely wsX0_silentOf := goodIn_r _ [58, 47, 48, 59, 60, 61, 34, 62, 63, 64, 65, 66, 67, 36, 46, 37, 38, 39, 25, 40, 28, 41, 29, 12, 30, 19, 20, 21, 68, 69, 70, 71, 72, 73, 74, 75, 115, 116, 117, 98, 99, 100, 101, 102, 103, 104, 105, 106, 107, 108, 109, 110, 111, 112, 113, 114] (by decide +kernel) (by decide +kernel)
set_option maxRecDepth 20000 in
theorem gX6_surely_X0_silentOf : GoodIn wsX6_surely (wsV RX6 297 RX0 yX0_silentOf wsX0_silentOf) := goodIn_app (goodIn_of _ (by decide +kernel)) ggX6_surely_X0_silentOf
set_option maxRecDepth 20000 in
theorem ggX6_surely_X5_whoIsBarred : GoodIn wsX6_surely wsX5_whoIsBarred := goodIn_r _ [79, 80, 81, 82, 83, 6, 84, 85, 86, 87, 72, 12, 73, 74, 75, 98, 99, 100, 101, 102, 103, 104, 105, 106, 107, 108, 109, 110, 111] (by decide +kernel) (by decide +kernel)
set_option maxRecDepth 20000 in
theorem gX6_surely_X5_whoIsBarred : GoodIn wsX6_surely (wsV RX6 265 RX5 yX5_whoIsBarred wsX5_whoIsBarred) := goodIn_app (goodIn_of _ (by decide +kernel)) ggX6_surely_X5_whoIsBarred
theorem dX6_surely_0 : decode cX6_surely 0 = .ok (.aload_n 0, 1) := by decide +kernel
theorem dX6_surely_1 : decode cX6_surely 1 = .ok (.getfield 10, 3) := by decide +kernel
theorem dX6_surely_4 : decode cX6_surely 4 = .ok (.iload_n 3, 1) := by decide +kernel
theorem dX6_surely_5 : decode cX6_surely 5 = .ok (.invokevirtual 141, 3) := by decide +kernel
theorem dX6_surely_8 : decode cX6_surely 8 = .ok (.ifCond .eq 12, 3) := by decide +kernel
theorem dX6_surely_11 : decode cX6_surely 11 = .ok (.aload_n 0, 1) := by decide +kernel
theorem dX6_surely_12 : decode cX6_surely 12 = .ok (.iload_n 1, 1) := by decide +kernel
theorem dX6_surely_13 : decode cX6_surely 13 = .ok (.iload_n 2, 1) := by decide +kernel
theorem dX6_surely_14 : decode cX6_surely 14 = .ok (.invokevirtual 291, 3) := by decide +kernel
theorem dX6_surely_17 : decode cX6_surely 17 = .ok (.goto 5, 3) := by decide +kernel
theorem dX6_surely_20 : decode cX6_surely 20 = .ok (.bipush (-2), 2) := by decide +kernel
theorem dX6_surely_22 : decode cX6_surely 22 = .ok (.istore 4, 2) := by decide +kernel
theorem dX6_surely_24 : decode cX6_surely 24 = .ok (.iload 4, 2) := by decide +kernel
theorem dX6_surely_26 : decode cX6_surely 26 = .ok (.ifCond .eq 10, 3) := by decide +kernel
theorem dX6_surely_29 : decode cX6_surely 29 = .ok (.aload_n 0, 1) := by decide +kernel
theorem dX6_surely_30 : decode cX6_surely 30 = .ok (.iload 4, 2) := by decide +kernel
theorem dX6_surely_32 : decode cX6_surely 32 = .ok (.invokevirtual 77, 3) := by decide +kernel
theorem dX6_surely_35 : decode cX6_surely 35 = .ok (.ireturn, 1) := by decide +kernel
theorem dX6_surely_36 : decode cX6_surely 36 = .ok (.aload_n 0, 1) := by decide +kernel
theorem dX6_surely_37 : decode cX6_surely 37 = .ok (.getfield 57, 3) := by decide +kernel
theorem dX6_surely_40 : decode cX6_surely 40 = .ok (.iload_n 1, 1) := by decide +kernel
theorem dX6_surely_41 : decode cX6_surely 41 = .ok (.iload_n 2, 1) := by decide +kernel
theorem dX6_surely_42 : decode cX6_surely 42 = .ok (.iload_n 3, 1) := by decide +kernel
theorem dX6_surely_43 : decode cX6_surely 43 = .ok (.invokevirtual 297, 3) := by decide +kernel
theorem dX6_surely_46 : decode cX6_surely 46 = .ok (.aload_n 0, 1) := by decide +kernel
theorem dX6_surely_47 : decode cX6_surely 47 = .ok (.getfield 10, 3) := by decide +kernel
theorem dX6_surely_50 : decode cX6_surely 50 = .ok (.iload_n 3, 1) := by decide +kernel
theorem dX6_surely_51 : decode cX6_surely 51 = .ok (.invokevirtual 265, 3) := by decide +kernel
theorem dX6_surely_54 : decode cX6_surely 54 = .ok (.iand, 1) := by decide +kernel
theorem dX6_surely_55 : decode cX6_surely 55 = .ok (.ireturn, 1) := by decide +kernel
set_option maxRecDepth 20000 in
theorem ggX6_free_X5_isSight : GoodIn wsX6_free wsX5_isSight := goodIn_r _ [7, 8, 148, 149, 150, 151, 152, 153, 154, 155, 156, 157, 158, 159, 160, 161] (by decide +kernel) (by decide +kernel)
set_option maxRecDepth 20000 in
theorem gX6_free_X5_isSight : GoodIn wsX6_free (wsV RX6 141 RX5 yX5_isSight wsX5_isSight) := goodIn_app (goodIn_of _ (by decide +kernel)) ggX6_free_X5_isSight
set_option maxRecDepth 20000 in
theorem ggX6_free_X6_troubleWithSayings : GoodIn wsX6_free wsX6_troubleWithSayings := goodIn_r _ [13, 2, 14, 15, 16, 12, 17, 18, 19, 20, 21, 22, 23, 24, 25, 26, 27, 28, 29, 30, 31, 32, 33, 34, 35, 36, 37, 38, 39, 40, 41, 42, 43, 44, 45, 46, 47, 48, 49, 138, 139, 140, 141, 142, 143, 144, 145, 146, 147, 162, 163, 164, 165, 166, 167, 148, 149, 150, 151, 152, 153, 154, 155, 156, 157, 158, 159, 160, 161] (by decide +kernel) (by decide +kernel)
set_option maxRecDepth 20000 in
theorem gX6_free_X6_troubleWithSayings : GoodIn wsX6_free (wsV RX6 291 RX6 yX6_troubleWithSayings wsX6_troubleWithSayings) := goodIn_app (goodIn_of _ (by decide +kernel)) ggX6_free_X6_troubleWithSayings
set_option maxRecDepth 20000 in
theorem ggX6_free_X6_refuse : GoodIn wsX6_free wsX6_refuse := goodIn_r _ [53, 54, 138, 139, 140, 141, 142, 143, 144, 145, 146, 147] (by decide +kernel) (by decide +kernel)
set_option maxRecDepth 20000 in
theorem gX6_free_X6_refuse : GoodIn wsX6_free (wsV RX6 77 RX6 yX6_refuse wsX6_refuse) := goodIn_app (goodIn_of _ (by decide +kernel)) ggX6_free_X6_refuse
set_option maxRecDepth 20000 in
theorem ggX6_free_X0_silentOf : GoodIn wsX6_free wsX0_silentOf := goodIn_r _ [58, 47, 48, 59, 60, 61, 34, 62, 63, 64, 65, 66, 67, 36, 46, 37, 38, 39, 25, 40, 28, 41, 29, 12, 30, 19, 20, 21, 68, 69, 70, 71, 72, 73, 74, 75, 165, 166, 167, 148, 149, 150, 151, 152, 153, 154, 155, 156, 157, 158, 159, 160, 161, 162, 163, 164] (by decide +kernel) (by decide +kernel)
set_option maxRecDepth 20000 in
theorem gX6_free_X0_silentOf : GoodIn wsX6_free (wsV RX6 297 RX0 yX0_silentOf wsX0_silentOf) := goodIn_app (goodIn_of _ (by decide +kernel)) ggX6_free_X0_silentOf
set_option maxRecDepth 20000 in
theorem ggX6_free_X5_whoIsBarred : GoodIn wsX6_free wsX5_whoIsBarred := goodIn_r _ [79, 80, 81, 82, 83, 6, 84, 85, 86, 87, 72, 12, 73, 74, 75, 148, 149, 150, 151, 152, 153, 154, 155, 156, 157, 158, 159, 160, 161] (by decide +kernel) (by decide +kernel)
set_option maxRecDepth 20000 in
theorem gX6_free_X5_whoIsBarred : GoodIn wsX6_free (wsV RX6 265 RX5 yX5_whoIsBarred wsX5_whoIsBarred) := goodIn_app (goodIn_of _ (by decide +kernel)) ggX6_free_X5_whoIsBarred
set_option maxRecDepth 20000 in
theorem ggX6_free_X0_mouthsBehind : GoodIn wsX6_free wsX0_mouthsBehind := goodIn_r _ [91, 92, 47, 93, 94, 95, 6, 96, 8, 80, 85, 97, 98, 99, 100, 86, 101, 102, 103, 104, 87, 105, 106, 107, 108, 68, 69, 70, 34, 71, 36, 46, 37, 38, 39, 25, 40, 28, 41, 29, 12, 30, 19, 20, 21, 64, 65, 66, 67, 109, 110, 111, 112, 72, 73, 113, 114, 115, 116, 117, 118, 119, 120, 121, 122, 123, 124, 125, 126, 127, 81, 82, 83, 84, 128, 129, 130, 131, 132, 133, 134, 135, 136, 137, 74, 75, 165, 166, 167, 148, 149, 150, 151, 152, 153, 154, 155, 156, 157, 158, 159, 160, 161, 162, 163, 164] (by decide +kernel) (by decide +kernel)
set_option maxRecDepth 20000 in
theorem gX6_free_X0_mouthsBehind : GoodIn wsX6_free (wsV RX6 300 RX0 yX0_mouthsBehind wsX0_mouthsBehind) := goodIn_app (goodIn_of _ (by decide +kernel)) ggX6_free_X0_mouthsBehind
theorem dX6_free_0 : decode cX6_free 0 = .ok (.aload_n 0, 1) := by decide +kernel
theorem dX6_free_1 : decode cX6_free 1 = .ok (.getfield 10, 3) := by decide +kernel
theorem dX6_free_4 : decode cX6_free 4 = .ok (.iload_n 3, 1) := by decide +kernel
theorem dX6_free_5 : decode cX6_free 5 = .ok (.invokevirtual 141, 3) := by decide +kernel
theorem dX6_free_8 : decode cX6_free 8 = .ok (.ifCond .eq 12, 3) := by decide +kernel
theorem dX6_free_11 : decode cX6_free 11 = .ok (.aload_n 0, 1) := by decide +kernel
theorem dX6_free_12 : decode cX6_free 12 = .ok (.iload_n 1, 1) := by decide +kernel
theorem dX6_free_13 : decode cX6_free 13 = .ok (.iload_n 2, 1) := by decide +kernel
theorem dX6_free_14 : decode cX6_free 14 = .ok (.invokevirtual 291, 3) := by decide +kernel
theorem dX6_free_17 : decode cX6_free 17 = .ok (.goto 5, 3) := by decide +kernel
theorem dX6_free_20 : decode cX6_free 20 = .ok (.bipush (-2), 2) := by decide +kernel
theorem dX6_free_22 : decode cX6_free 22 = .ok (.istore 4, 2) := by decide +kernel
theorem dX6_free_24 : decode cX6_free 24 = .ok (.iload 4, 2) := by decide +kernel
theorem dX6_free_26 : decode cX6_free 26 = .ok (.ifCond .eq 10, 3) := by decide +kernel
theorem dX6_free_29 : decode cX6_free 29 = .ok (.aload_n 0, 1) := by decide +kernel
theorem dX6_free_30 : decode cX6_free 30 = .ok (.iload 4, 2) := by decide +kernel
theorem dX6_free_32 : decode cX6_free 32 = .ok (.invokevirtual 77, 3) := by decide +kernel
theorem dX6_free_35 : decode cX6_free 35 = .ok (.ireturn, 1) := by decide +kernel
theorem dX6_free_36 : decode cX6_free 36 = .ok (.aload_n 0, 1) := by decide +kernel
theorem dX6_free_37 : decode cX6_free 37 = .ok (.getfield 57, 3) := by decide +kernel
theorem dX6_free_40 : decode cX6_free 40 = .ok (.iload_n 1, 1) := by decide +kernel
theorem dX6_free_41 : decode cX6_free 41 = .ok (.iload_n 2, 1) := by decide +kernel
theorem dX6_free_42 : decode cX6_free 42 = .ok (.iload_n 3, 1) := by decide +kernel
theorem dX6_free_43 : decode cX6_free 43 = .ok (.invokevirtual 297, 3) := by decide +kernel
theorem dX6_free_46 : decode cX6_free 46 = .ok (.aload_n 0, 1) := by decide +kernel
theorem dX6_free_47 : decode cX6_free 47 = .ok (.getfield 10, 3) := by decide +kernel
theorem dX6_free_50 : decode cX6_free 50 = .ok (.iload_n 3, 1) := by decide +kernel
theorem dX6_free_51 : decode cX6_free 51 = .ok (.invokevirtual 265, 3) := by decide +kernel
theorem dX6_free_54 : decode cX6_free 54 = .ok (.iconst (-1), 1) := by decide +kernel
theorem dX6_free_55 : decode cX6_free 55 = .ok (.ixor, 1) := by decide +kernel
theorem dX6_free_56 : decode cX6_free 56 = .ok (.iand, 1) := by decide +kernel
theorem dX6_free_57 : decode cX6_free 57 = .ok (.aload_n 0, 1) := by decide +kernel
theorem dX6_free_58 : decode cX6_free 58 = .ok (.getfield 57, 3) := by decide +kernel
theorem dX6_free_61 : decode cX6_free 61 = .ok (.iload_n 1, 1) := by decide +kernel
theorem dX6_free_62 : decode cX6_free 62 = .ok (.iload_n 2, 1) := by decide +kernel
theorem dX6_free_63 : decode cX6_free 63 = .ok (.iload_n 3, 1) := by decide +kernel
theorem dX6_free_64 : decode cX6_free 64 = .ok (.invokevirtual 300, 3) := by decide +kernel
theorem dX6_free_67 : decode cX6_free 67 = .ok (.iand, 1) := by decide +kernel
theorem dX6_free_68 : decode cX6_free 68 = .ok (.ireturn, 1) := by decide +kernel
set_option maxRecDepth 20000 in
theorem ggX6_evening_X6_troubleWithEvening : GoodIn wsX6_evening wsX6_troubleWithEvening := goodIn_r _ [8, 9, 10, 11, 7, 12, 13, 14, 15, 16, 17, 18, 19, 20, 21, 117, 118, 119, 120, 121, 122, 123, 124, 125, 126, 127, 128, 129] (by decide +kernel) (by decide +kernel)
set_option maxRecDepth 20000 in
theorem gX6_evening_X6_troubleWithEvening : GoodIn wsX6_evening (wsV RX6 285 RX6 yX6_troubleWithEvening wsX6_troubleWithEvening) := goodIn_app (goodIn_of _ (by decide +kernel)) ggX6_evening_X6_troubleWithEvening
set_option maxRecDepth 20000 in
theorem ggX6_evening_X6_refuse : GoodIn wsX6_evening wsX6_refuse := goodIn_r _ [25, 26, 117, 118, 119, 120, 121, 122, 123, 124, 125, 126] (by decide +kernel) (by decide +kernel)
set_option maxRecDepth 20000 in
theorem gX6_evening_X6_refuse : GoodIn wsX6_evening (wsV RX6 77 RX6 yX6_refuse wsX6_refuse) := goodIn_app (goodIn_of _ (by decide +kernel)) ggX6_evening_X6_refuse
set_option maxRecDepth 20000 in
theorem ggX6_evening_X0_firstWrong : GoodIn wsX6_evening wsX0_firstWrong := goodIn_r _ [31, 32, 33, 34, 35, 36, 37, 38, 39, 40, 41, 42, 43, 44, 45, 46, 47, 48, 49, 50, 51, 52, 53, 54, 55, 56, 57, 58, 59, 16, 60, 19, 61, 20, 7, 21, 10, 11, 12, 62, 63, 64, 30, 65, 66, 67, 68, 69, 70, 71, 72, 73, 74, 75, 76, 77, 78, 79, 80, 81, 82, 83, 84, 85, 86, 87, 88, 89, 90, 91, 92, 93, 94, 95, 96, 97, 98, 99, 100, 101, 102, 103, 104, 105, 106, 107, 130, 131, 132, 133, 134, 135, 136, 137, 138, 139, 140, 141, 142, 143, 144, 145, 146, 127, 128, 129] (by decide +kernel) (by decide +kernel)
set_option maxRecDepth 20000 in
theorem gX6_evening_X0_firstWrong : GoodIn wsX6_evening (wsV RX6 288 RX0 yX0_firstWrong wsX0_firstWrong) := goodIn_app (goodIn_of _ (by decide +kernel)) ggX6_evening_X0_firstWrong
set_option maxRecDepth 20000 in
theorem ggX6_evening_X5_become : GoodIn wsX6_evening wsX5_become := goodIn_r _ [39, 40, 41, 42, 43, 44, 45, 46, 47, 48, 49, 50, 51, 52, 53, 54, 55, 56, 133, 134, 135, 136, 137, 138, 139, 140, 141, 142, 143, 144, 145, 146] (by decide +kernel) (by decide +kernel)
set_option maxRecDepth 20000 in
theorem gX6_evening_X5_become : GoodIn wsX6_evening (wsV RX6 185 RX5 yX5_become wsX5_become) := goodIn_app (goodIn_of _ (by decide +kernel)) ggX6_evening_X5_become
set_option maxRecDepth 20000 in
theorem ggX6_evening_X5_knownInAll : GoodIn wsX6_evening wsX5_knownInAll := goodIn_r _ [112, 41, 113, 114, 115, 38, 116, 47, 52, 53, 101, 102, 103, 104, 105, 106, 107, 133, 134, 135, 136, 137, 138, 139, 140, 141, 142, 143, 144, 145, 146] (by decide +kernel) (by decide +kernel)
set_option maxRecDepth 20000 in
theorem gX6_evening_X5_knownInAll : GoodIn wsX6_evening (wsV RX6 211 RX5 yX5_knownInAll wsX5_knownInAll) := goodIn_app (goodIn_of _ (by decide +kernel)) ggX6_evening_X5_knownInAll
theorem dX6_evening_0 : decode cX6_evening 0 = .ok (.aload_n 0, 1) := by decide +kernel
theorem dX6_evening_1 : decode cX6_evening 1 = .ok (.iload_n 1, 1) := by decide +kernel
theorem dX6_evening_2 : decode cX6_evening 2 = .ok (.iload_n 2, 1) := by decide +kernel
theorem dX6_evening_3 : decode cX6_evening 3 = .ok (.invokevirtual 285, 3) := by decide +kernel
theorem dX6_evening_6 : decode cX6_evening 6 = .ok (.istore_n 3, 1) := by decide +kernel
theorem dX6_evening_7 : decode cX6_evening 7 = .ok (.iload_n 3, 1) := by decide +kernel
theorem dX6_evening_8 : decode cX6_evening 8 = .ok (.ifCond .eq 9, 3) := by decide +kernel
theorem dX6_evening_11 : decode cX6_evening 11 = .ok (.aload_n 0, 1) := by decide +kernel
theorem dX6_evening_12 : decode cX6_evening 12 = .ok (.iload_n 3, 1) := by decide +kernel
theorem dX6_evening_13 : decode cX6_evening 13 = .ok (.invokevirtual 77, 3) := by decide +kernel
theorem dX6_evening_16 : decode cX6_evening 16 = .ok (.ireturn, 1) := by decide +kernel
theorem dX6_evening_17 : decode cX6_evening 17 = .ok (.aload_n 0, 1) := by decide +kernel
theorem dX6_evening_18 : decode cX6_evening 18 = .ok (.getfield 57, 3) := by decide +kernel
theorem dX6_evening_21 : decode cX6_evening 21 = .ok (.iload_n 1, 1) := by decide +kernel
theorem dX6_evening_22 : decode cX6_evening 22 = .ok (.iload_n 2, 1) := by decide +kernel
theorem dX6_evening_23 : decode cX6_evening 23 = .ok (.invokevirtual 288, 3) := by decide +kernel
theorem dX6_evening_26 : decode cX6_evening 26 = .ok (.iconst (-1), 1) := by decide +kernel
theorem dX6_evening_27 : decode cX6_evening 27 = .ok (.if_icmp .eq 10, 3) := by decide +kernel
theorem dX6_evening_30 : decode cX6_evening 30 = .ok (.aload_n 0, 1) := by decide +kernel
theorem dX6_evening_31 : decode cX6_evening 31 = .ok (.bipush (-5), 2) := by decide +kernel
theorem dX6_evening_33 : decode cX6_evening 33 = .ok (.invokevirtual 77, 3) := by decide +kernel
theorem dX6_evening_36 : decode cX6_evening 36 = .ok (.ireturn, 1) := by decide +kernel
theorem dX6_evening_37 : decode cX6_evening 37 = .ok (.aload_n 0, 1) := by decide +kernel
theorem dX6_evening_38 : decode cX6_evening 38 = .ok (.getfield 10, 3) := by decide +kernel
theorem dX6_evening_41 : decode cX6_evening 41 = .ok (.aload_n 0, 1) := by decide +kernel
theorem dX6_evening_42 : decode cX6_evening 42 = .ok (.getfield 19, 3) := by decide +kernel
theorem dX6_evening_45 : decode cX6_evening 45 = .ok (.invokevirtual 185, 3) := by decide +kernel
theorem dX6_evening_48 : decode cX6_evening 48 = .ok (.aload_n 0, 1) := by decide +kernel
theorem dX6_evening_49 : decode cX6_evening 49 = .ok (.getfield 10, 3) := by decide +kernel
theorem dX6_evening_52 : decode cX6_evening 52 = .ok (.invokevirtual 211, 3) := by decide +kernel
theorem dX6_evening_55 : decode cX6_evening 55 = .ok (.ireturn, 1) := by decide +kernel
set_option maxRecDepth 20000 in
theorem ggX6_talk_X6_isWithin : GoodIn wsX6_talk wsX6_isWithin := goodIn_r _ [6] (by decide +kernel) (by decide +kernel)
set_option maxRecDepth 20000 in
theorem gX6_talk_X6_isWithin : GoodIn wsX6_talk (va_wsS RX6 73 yX6_isWithin wsX6_isWithin) := goodIn_app (goodIn_of _ (by decide +kernel)) ggX6_talk_X6_isWithin
set_option maxRecDepth 20000 in
theorem ggX6_talk_X6_refuse : GoodIn wsX6_talk wsX6_refuse := goodIn_r _ [10, 11, 67, 68, 69, 70, 71, 72, 73, 74, 75, 76] (by decide +kernel) (by decide +kernel)
set_option maxRecDepth 20000 in
theorem gX6_talk_X6_refuse : GoodIn wsX6_talk (wsV RX6 77 RX6 yX6_refuse wsX6_refuse) := goodIn_app (goodIn_of _ (by decide +kernel)) ggX6_talk_X6_refuse
set_option maxRecDepth 20000 in
theorem ggX6_talk_X5_sayByDraws : GoodIn wsX6_talk wsX5_sayByDraws := goodIn_r _ [16, 17, 18, 19, 20, 21, 15, 22, 23, 24, 25, 26, 27, 28, 29, 30, 31, 32, 33, 34, 35, 36, 37, 38, 39, 40, 41, 42, 43, 44, 45, 46, 47, 48, 49, 50, 51, 52, 5, 53, 54, 55, 56, 57, 58, 59, 60, 61, 62, 63, 64, 65, 66, 77, 78, 79, 80, 81, 82, 83, 84, 85, 86, 87, 88, 89, 90] (by decide +kernel) (by decide +kernel)
set_option maxRecDepth 20000 in
theorem gX6_talk_X5_sayByDraws : GoodIn wsX6_talk (wsV RX6 303 RX5 yX5_sayByDraws wsX5_sayByDraws) := goodIn_app (goodIn_of _ (by decide +kernel)) ggX6_talk_X5_sayByDraws
theorem dX6_talk_0 : decode cX6_talk 0 = .ok (.iload_n 1, 1) := by decide +kernel
theorem dX6_talk_1 : decode cX6_talk 1 = .ok (.iconst 1, 1) := by decide +kernel
theorem dX6_talk_2 : decode cX6_talk 2 = .ok (.bipush 40, 2) := by decide +kernel
theorem dX6_talk_4 : decode cX6_talk 4 = .ok (.invokestatic 73, 3) := by decide +kernel
theorem dX6_talk_7 : decode cX6_talk 7 = .ok (.ifCond .ne 10, 3) := by decide +kernel
theorem dX6_talk_10 : decode cX6_talk 10 = .ok (.aload_n 0, 1) := by decide +kernel
theorem dX6_talk_11 : decode cX6_talk 11 = .ok (.bipush (-2), 2) := by decide +kernel
theorem dX6_talk_13 : decode cX6_talk 13 = .ok (.invokevirtual 77, 3) := by decide +kernel
theorem dX6_talk_16 : decode cX6_talk 16 = .ok (.ireturn, 1) := by decide +kernel
theorem dX6_talk_17 : decode cX6_talk 17 = .ok (.aload_n 0, 1) := by decide +kernel
theorem dX6_talk_18 : decode cX6_talk 18 = .ok (.getfield 10, 3) := by decide +kernel
theorem dX6_talk_21 : decode cX6_talk 21 = .ok (.getfield 237, 3) := by decide +kernel
theorem dX6_talk_24 : decode cX6_talk 24 = .ok (.ifCond .ne 12, 3) := by decide +kernel
theorem dX6_talk_27 : decode cX6_talk 27 = .ok (.aload_n 0, 1) := by decide +kernel
theorem dX6_talk_28 : decode cX6_talk 28 = .ok (.bipush (-5), 2) := by decide +kernel
theorem dX6_talk_30 : decode cX6_talk 30 = .ok (.invokevirtual 77, 3) := by decide +kernel
theorem dX6_talk_33 : decode cX6_talk 33 = .ok (.goto 11, 3) := by decide +kernel
theorem dX6_talk_36 : decode cX6_talk 36 = .ok (.aload_n 0, 1) := by decide +kernel
theorem dX6_talk_37 : decode cX6_talk 37 = .ok (.getfield 10, 3) := by decide +kernel
theorem dX6_talk_40 : decode cX6_talk 40 = .ok (.iload_n 1, 1) := by decide +kernel
theorem dX6_talk_41 : decode cX6_talk 41 = .ok (.invokevirtual 303, 3) := by decide +kernel
theorem dX6_talk_44 : decode cX6_talk 44 = .ok (.ireturn, 1) := by decide +kernel
set_option maxRecDepth 20000 in
theorem ggX6_round_X5_passRound : GoodIn wsX6_round wsX5_passRound := goodIn_r _ [6, 7, 8, 9, 10, 11, 5, 12, 13, 14, 15, 16, 17, 18, 19, 20, 21, 22, 23, 24, 25, 26, 27, 28, 29, 30, 31, 32, 33, 34, 35, 36, 37, 38, 39, 40, 41, 42, 43, 44, 45, 46, 47, 48, 49, 50, 51, 52, 53, 72, 73, 74, 75, 76, 77, 78, 79, 80, 81, 82, 83, 84, 85] (by decide +kernel) (by decide +kernel)
set_option maxRecDepth 20000 in
theorem gX6_round_X5_passRound : GoodIn wsX6_round (wsV RX6 306 RX5 yX5_passRound wsX5_passRound) := goodIn_app (goodIn_of _ (by decide +kernel)) ggX6_round_X5_passRound
set_option maxRecDepth 20000 in
theorem ggX6_round_X5_knownInAll : GoodIn wsX6_round wsX5_knownInAll := goodIn_r _ [57, 7, 58, 59, 60, 5, 61, 21, 22, 14, 42, 43, 44, 45, 46, 47, 48, 72, 73, 74, 75, 76, 77, 78, 79, 80, 81, 82, 83, 84, 85] (by decide +kernel) (by decide +kernel)
set_option maxRecDepth 20000 in
theorem gX6_round_X5_knownInAll : GoodIn wsX6_round (wsV RX6 211 RX5 yX5_knownInAll wsX5_knownInAll) := goodIn_app (goodIn_of _ (by decide +kernel)) ggX6_round_X5_knownInAll
theorem dX6_round_0 : decode cX6_round 0 = .ok (.aload_n 0, 1) := by decide +kernel
theorem dX6_round_1 : decode cX6_round 1 = .ok (.getfield 10, 3) := by decide +kernel
theorem dX6_round_4 : decode cX6_round 4 = .ok (.invokevirtual 306, 3) := by decide +kernel
theorem dX6_round_7 : decode cX6_round 7 = .ok (.pop, 1) := by decide +kernel
theorem dX6_round_8 : decode cX6_round 8 = .ok (.aload_n 0, 1) := by decide +kernel
theorem dX6_round_9 : decode cX6_round 9 = .ok (.getfield 10, 3) := by decide +kernel
theorem dX6_round_12 : decode cX6_round 12 = .ok (.invokevirtual 211, 3) := by decide +kernel
theorem dX6_round_15 : decode cX6_round 15 = .ok (.ireturn, 1) := by decide +kernel
set_option maxRecDepth 20000 in
theorem ggX6_night_X5_passNight : GoodIn wsX6_night wsX5_passNight := goodIn_r _ [7, 8, 9, 10, 11, 12, 13, 14, 15, 26, 27, 28, 29, 30, 31, 32, 33, 34, 35, 36, 37, 38, 39] (by decide +kernel) (by decide +kernel)
set_option maxRecDepth 20000 in
theorem gX6_night_X5_passNight : GoodIn wsX6_night (wsV RX6 309 RX5 yX5_passNight wsX5_passNight) := goodIn_app (goodIn_of _ (by decide +kernel)) ggX6_night_X5_passNight
theorem dX6_night_0 : decode cX6_night 0 = .ok (.aload_n 0, 1) := by decide +kernel
theorem dX6_night_1 : decode cX6_night 1 = .ok (.getfield 10, 3) := by decide +kernel
theorem dX6_night_4 : decode cX6_night 4 = .ok (.invokevirtual 309, 3) := by decide +kernel
theorem dX6_night_7 : decode cX6_night 7 = .ok (.aload_n 0, 1) := by decide +kernel
theorem dX6_night_8 : decode cX6_night 8 = .ok (.getfield 10, 3) := by decide +kernel
theorem dX6_night_11 : decode cX6_night 11 = .ok (.getfield 312, 3) := by decide +kernel
theorem dX6_night_14 : decode cX6_night 14 = .ok (.ireturn, 1) := by decide +kernel
theorem dX6_seed_0 : decode cX6_seed 0 = .ok (.aload_n 0, 1) := by decide +kernel
theorem dX6_seed_1 : decode cX6_seed 1 = .ok (.getfield 10, 3) := by decide +kernel
theorem dX6_seed_4 : decode cX6_seed 4 = .ok (.getfield 314, 3) := by decide +kernel
theorem dX6_seed_7 : decode cX6_seed 7 = .ok (.istore_n 2, 1) := by decide +kernel
theorem dX6_seed_8 : decode cX6_seed 8 = .ok (.aload_n 0, 1) := by decide +kernel
theorem dX6_seed_9 : decode cX6_seed 9 = .ok (.getfield 10, 3) := by decide +kernel
theorem dX6_seed_12 : decode cX6_seed 12 = .ok (.iload_n 1, 1) := by decide +kernel
theorem dX6_seed_13 : decode cX6_seed 13 = .ok (.putfield 314, 3) := by decide +kernel
theorem dX6_seed_16 : decode cX6_seed 16 = .ok (.iload_n 2, 1) := by decide +kernel
theorem dX6_seed_17 : decode cX6_seed 17 = .ok (.ireturn, 1) := by decide +kernel
set_option maxRecDepth 20000 in
theorem ggX6_image_X5_become : GoodIn wsX6_image wsX5_become := goodIn_r _ [8, 9, 10, 11, 12, 13, 14, 15, 16, 17, 18, 19, 20, 21, 22, 23, 24, 25, 36, 37, 38, 39, 40, 41, 42, 43, 44, 45, 46, 47, 48, 49] (by decide +kernel) (by decide +kernel)
set_option maxRecDepth 20000 in
theorem gX6_image_X5_become : GoodIn wsX6_image (wsV RX6 185 RX5 yX5_become wsX5_become) := goodIn_app (goodIn_of _ (by decide +kernel)) ggX6_image_X5_become
theorem dX6_image_0 : decode cX6_image 0 = .ok (.aload_n 0, 1) := by decide +kernel
theorem dX6_image_1 : decode cX6_image 1 = .ok (.getfield 16, 3) := by decide +kernel
theorem dX6_image_4 : decode cX6_image 4 = .ok (.aload_n 0, 1) := by decide +kernel
theorem dX6_image_5 : decode cX6_image 5 = .ok (.getfield 10, 3) := by decide +kernel
theorem dX6_image_8 : decode cX6_image 8 = .ok (.invokevirtual 185, 3) := by decide +kernel
theorem dX6_image_11 : decode cX6_image 11 = .ok (.aload_n 0, 1) := by decide +kernel
theorem dX6_image_12 : decode cX6_image 12 = .ok (.iconst 1, 1) := by decide +kernel
theorem dX6_image_13 : decode cX6_image 13 = .ok (.putfield 65, 3) := by decide +kernel
theorem dX6_image_16 : decode cX6_image 16 = .ok (.iconst 1, 1) := by decide +kernel
theorem dX6_image_17 : decode cX6_image 17 = .ok (.ireturn, 1) := by decide +kernel
set_option maxRecDepth 20000 in
theorem ggX6_back_X6_refuse : GoodIn wsX6_back wsX6_refuse := goodIn_r _ [10, 11, 40, 41, 42, 43, 44, 45, 46, 47, 48, 49] (by decide +kernel) (by decide +kernel)
set_option maxRecDepth 20000 in
theorem gX6_back_X6_refuse : GoodIn wsX6_back (wsV RX6 77 RX6 yX6_refuse wsX6_refuse) := goodIn_app (goodIn_of _ (by decide +kernel)) ggX6_back_X6_refuse
set_option maxRecDepth 20000 in
theorem ggX6_back_X5_become : GoodIn wsX6_back wsX5_become := goodIn_r _ [16, 17, 18, 19, 20, 21, 22, 23, 24, 25, 26, 27, 28, 29, 30, 31, 32, 33, 50, 51, 52, 53, 54, 55, 56, 57, 58, 59, 60, 61, 62, 63] (by decide +kernel) (by decide +kernel)
set_option maxRecDepth 20000 in
theorem gX6_back_X5_become : GoodIn wsX6_back (wsV RX6 185 RX5 yX5_become wsX5_become) := goodIn_app (goodIn_of _ (by decide +kernel)) ggX6_back_X5_become
set_option maxRecDepth 20000 in
theorem ggX6_back_X3_keepPeopleBelow : GoodIn wsX6_back wsX3_keepPeopleBelow := goodIn_r _ [38, 39, 64, 65, 66] (by decide +kernel) (by decide +kernel)
set_option maxRecDepth 20000 in
theorem gX6_back_X3_keepPeopleBelow : GoodIn wsX6_back (wsV RX6 317 RX3 yX3_keepPeopleBelow wsX3_keepPeopleBelow) := goodIn_app (goodIn_of _ (by decide +kernel)) ggX6_back_X3_keepPeopleBelow
theorem dX6_back_0 : decode cX6_back 0 = .ok (.aload_n 0, 1) := by decide +kernel
theorem dX6_back_1 : decode cX6_back 1 = .ok (.getfield 65, 3) := by decide +kernel
theorem dX6_back_4 : decode cX6_back 4 = .ok (.ifCond .ne 10, 3) := by decide +kernel
theorem dX6_back_7 : decode cX6_back 7 = .ok (.aload_n 0, 1) := by decide +kernel
theorem dX6_back_8 : decode cX6_back 8 = .ok (.bipush (-5), 2) := by decide +kernel
theorem dX6_back_10 : decode cX6_back 10 = .ok (.invokevirtual 77, 3) := by decide +kernel
theorem dX6_back_13 : decode cX6_back 13 = .ok (.ireturn, 1) := by decide +kernel
theorem dX6_back_14 : decode cX6_back 14 = .ok (.aload_n 0, 1) := by decide +kernel
theorem dX6_back_15 : decode cX6_back 15 = .ok (.getfield 10, 3) := by decide +kernel
theorem dX6_back_18 : decode cX6_back 18 = .ok (.aload_n 0, 1) := by decide +kernel
theorem dX6_back_19 : decode cX6_back 19 = .ok (.getfield 16, 3) := by decide +kernel
theorem dX6_back_22 : decode cX6_back 22 = .ok (.invokevirtual 185, 3) := by decide +kernel
theorem dX6_back_25 : decode cX6_back 25 = .ok (.aload_n 0, 1) := by decide +kernel
theorem dX6_back_26 : decode cX6_back 26 = .ok (.getfield 25, 3) := by decide +kernel
theorem dX6_back_29 : decode cX6_back 29 = .ok (.aload_n 0, 1) := by decide +kernel
theorem dX6_back_30 : decode cX6_back 30 = .ok (.getfield 10, 3) := by decide +kernel
theorem dX6_back_33 : decode cX6_back 33 = .ok (.getfield 237, 3) := by decide +kernel
theorem dX6_back_36 : decode cX6_back 36 = .ok (.invokevirtual 317, 3) := by decide +kernel
theorem dX6_back_39 : decode cX6_back 39 = .ok (.iconst 1, 1) := by decide +kernel
theorem dX6_back_40 : decode cX6_back 40 = .ok (.ireturn, 1) := by decide +kernel
set_option maxRecDepth 20000 in
theorem ggX6_status_X3_filled : GoodIn wsX6_status wsX3_filled := goodIn_r _ [17, 18, 80, 81, 82] (by decide +kernel) (by decide +kernel)
set_option maxRecDepth 20000 in
theorem gX6_status_X3_filled : GoodIn wsX6_status (wsV RX6 329 RX3 yX3_filled wsX3_filled) := goodIn_app (goodIn_of _ (by decide +kernel)) ggX6_status_X3_filled
set_option maxRecDepth 20000 in
theorem ggX6_status_X5_knownInAll : GoodIn wsX6_status wsX5_knownInAll := goodIn_r _ [23, 24, 25, 26, 27, 22, 28, 29, 30, 31, 32, 33, 34, 35, 36, 37, 38, 60, 61, 62, 63, 64, 65, 66, 67, 68, 69, 70, 71, 72, 73] (by decide +kernel) (by decide +kernel)
set_option maxRecDepth 20000 in
theorem gX6_status_X5_knownInAll : GoodIn wsX6_status (wsV RX6 211 RX5 yX5_knownInAll wsX5_knownInAll) := goodIn_app (goodIn_of _ (by decide +kernel)) ggX6_status_X5_knownInAll
set_option maxRecDepth 20000 in
theorem ggX6_status_X5_pairsHearing : GoodIn wsX6_status wsX5_pairsHearing := goodIn_r _ [42, 24, 43, 44, 45, 46, 60, 61, 62, 63, 64, 65, 66, 67, 68, 69, 70, 71, 72, 73] (by decide +kernel) (by decide +kernel)
set_option maxRecDepth 20000 in
theorem gX6_status_X5_pairsHearing : GoodIn wsX6_status (wsV RX6 259 RX5 yX5_pairsHearing wsX5_pairsHearing) := goodIn_app (goodIn_of _ (by decide +kernel)) ggX6_status_X5_pairsHearing
set_option maxRecDepth 20000 in
theorem ggX6_status_X6_isWithin : GoodIn wsX6_status wsX6_isWithin := goodIn_r _ [49] (by decide +kernel) (by decide +kernel)
set_option maxRecDepth 20000 in
theorem gX6_status_X6_isWithin : GoodIn wsX6_status (va_wsS RX6 73 yX6_isWithin wsX6_isWithin) := goodIn_app (goodIn_of _ (by decide +kernel)) ggX6_status_X6_isWithin
theorem dX6_status_0 : decode cX6_status 0 = .ok (.iload_n 1, 1) := by decide +kernel
theorem dX6_status_1 : decode cX6_status 1 = .ok (.tableswitch 147 0 10 #[59, 67, 75, 83, 91, 99, 107, 115, 123, 131, 139], 59) := by decide +kernel
theorem dX6_status_60 : decode cX6_status 60 = .ok (.aload_n 0, 1) := by decide +kernel
theorem dX6_status_61 : decode cX6_status 61 = .ok (.getfield 10, 3) := by decide +kernel
theorem dX6_status_64 : decode cX6_status 64 = .ok (.getfield 130, 3) := by decide +kernel
theorem dX6_status_67 : decode cX6_status 67 = .ok (.ireturn, 1) := by decide +kernel
theorem dX6_status_68 : decode cX6_status 68 = .ok (.aload_n 0, 1) := by decide +kernel
theorem dX6_status_69 : decode cX6_status 69 = .ok (.getfield 10, 3) := by decide +kernel
theorem dX6_status_72 : decode cX6_status 72 = .ok (.getfield 237, 3) := by decide +kernel
theorem dX6_status_75 : decode cX6_status 75 = .ok (.ireturn, 1) := by decide +kernel
theorem dX6_status_76 : decode cX6_status 76 = .ok (.aload_n 0, 1) := by decide +kernel
theorem dX6_status_77 : decode cX6_status 77 = .ok (.getfield 10, 3) := by decide +kernel
theorem dX6_status_80 : decode cX6_status 80 = .ok (.getfield 320, 3) := by decide +kernel
theorem dX6_status_83 : decode cX6_status 83 = .ok (.ireturn, 1) := by decide +kernel
theorem dX6_status_84 : decode cX6_status 84 = .ok (.aload_n 0, 1) := by decide +kernel
theorem dX6_status_85 : decode cX6_status 85 = .ok (.getfield 10, 3) := by decide +kernel
theorem dX6_status_88 : decode cX6_status 88 = .ok (.getfield 323, 3) := by decide +kernel
theorem dX6_status_91 : decode cX6_status 91 = .ok (.ireturn, 1) := by decide +kernel
theorem dX6_status_92 : decode cX6_status 92 = .ok (.aload_n 0, 1) := by decide +kernel
theorem dX6_status_93 : decode cX6_status 93 = .ok (.getfield 10, 3) := by decide +kernel
theorem dX6_status_96 : decode cX6_status 96 = .ok (.getfield 326, 3) := by decide +kernel
theorem dX6_status_99 : decode cX6_status 99 = .ok (.ireturn, 1) := by decide +kernel
theorem dX6_status_100 : decode cX6_status 100 = .ok (.aload_n 0, 1) := by decide +kernel
theorem dX6_status_101 : decode cX6_status 101 = .ok (.getfield 10, 3) := by decide +kernel
theorem dX6_status_104 : decode cX6_status 104 = .ok (.getfield 312, 3) := by decide +kernel
theorem dX6_status_107 : decode cX6_status 107 = .ok (.ireturn, 1) := by decide +kernel
theorem dX6_status_108 : decode cX6_status 108 = .ok (.aload_n 0, 1) := by decide +kernel
theorem dX6_status_109 : decode cX6_status 109 = .ok (.getfield 32, 3) := by decide +kernel
theorem dX6_status_112 : decode cX6_status 112 = .ok (.getfield 178, 3) := by decide +kernel
theorem dX6_status_115 : decode cX6_status 115 = .ok (.ireturn, 1) := by decide +kernel
theorem dX6_status_116 : decode cX6_status 116 = .ok (.aload_n 0, 1) := by decide +kernel
theorem dX6_status_117 : decode cX6_status 117 = .ok (.getfield 10, 3) := by decide +kernel
theorem dX6_status_120 : decode cX6_status 120 = .ok (.getfield 314, 3) := by decide +kernel
theorem dX6_status_123 : decode cX6_status 123 = .ok (.ireturn, 1) := by decide +kernel
theorem dX6_status_124 : decode cX6_status 124 = .ok (.aload_n 0, 1) := by decide +kernel
theorem dX6_status_125 : decode cX6_status 125 = .ok (.getfield 25, 3) := by decide +kernel
theorem dX6_status_128 : decode cX6_status 128 = .ok (.invokevirtual 329, 3) := by decide +kernel
theorem dX6_status_131 : decode cX6_status 131 = .ok (.ireturn, 1) := by decide +kernel
theorem dX6_status_132 : decode cX6_status 132 = .ok (.aload_n 0, 1) := by decide +kernel
theorem dX6_status_133 : decode cX6_status 133 = .ok (.getfield 10, 3) := by decide +kernel
theorem dX6_status_136 : decode cX6_status 136 = .ok (.invokevirtual 211, 3) := by decide +kernel
theorem dX6_status_139 : decode cX6_status 139 = .ok (.ireturn, 1) := by decide +kernel
theorem dX6_status_140 : decode cX6_status 140 = .ok (.aload_n 0, 1) := by decide +kernel
theorem dX6_status_141 : decode cX6_status 141 = .ok (.getfield 10, 3) := by decide +kernel
theorem dX6_status_144 : decode cX6_status 144 = .ok (.invokevirtual 259, 3) := by decide +kernel
theorem dX6_status_147 : decode cX6_status 147 = .ok (.ireturn, 1) := by decide +kernel
theorem dX6_status_148 : decode cX6_status 148 = .ok (.iload_n 1, 1) := by decide +kernel
theorem dX6_status_149 : decode cX6_status 149 = .ok (.bipush 12, 2) := by decide +kernel
theorem dX6_status_151 : decode cX6_status 151 = .ok (.bipush 16, 2) := by decide +kernel
theorem dX6_status_153 : decode cX6_status 153 = .ok (.invokestatic 73, 3) := by decide +kernel
theorem dX6_status_156 : decode cX6_status 156 = .ok (.ifCond .eq 15, 3) := by decide +kernel
theorem dX6_status_159 : decode cX6_status 159 = .ok (.aload_n 0, 1) := by decide +kernel
theorem dX6_status_160 : decode cX6_status 160 = .ok (.getfield 61, 3) := by decide +kernel
theorem dX6_status_163 : decode cX6_status 163 = .ok (.iload_n 1, 1) := by decide +kernel
theorem dX6_status_164 : decode cX6_status 164 = .ok (.bipush 12, 2) := by decide +kernel
theorem dX6_status_166 : decode cX6_status 166 = .ok (.isub, 1) := by decide +kernel
theorem dX6_status_167 : decode cX6_status 167 = .ok (.iaload, 1) := by decide +kernel
theorem dX6_status_168 : decode cX6_status 168 = .ok (.goto 4, 3) := by decide +kernel
theorem dX6_status_171 : decode cX6_status 171 = .ok (.iconst (-1), 1) := by decide +kernel
theorem dX6_status_172 : decode cX6_status 172 = .ok (.ireturn, 1) := by decide +kernel
theorem dX6_refuse_0 : decode cX6_refuse 0 = .ok (.bipush (-2), 2) := by decide +kernel
theorem dX6_refuse_2 : decode cX6_refuse 2 = .ok (.iload_n 1, 1) := by decide +kernel
theorem dX6_refuse_3 : decode cX6_refuse 3 = .ok (.isub, 1) := by decide +kernel
theorem dX6_refuse_4 : decode cX6_refuse 4 = .ok (.istore_n 2, 1) := by decide +kernel
theorem dX6_refuse_5 : decode cX6_refuse 5 = .ok (.iload_n 2, 1) := by decide +kernel
theorem dX6_refuse_6 : decode cX6_refuse 6 = .ok (.ifCond .lt 22, 3) := by decide +kernel
theorem dX6_refuse_9 : decode cX6_refuse 9 = .ok (.iload_n 2, 1) := by decide +kernel
theorem dX6_refuse_10 : decode cX6_refuse 10 = .ok (.aload_n 0, 1) := by decide +kernel
theorem dX6_refuse_11 : decode cX6_refuse 11 = .ok (.getfield 61, 3) := by decide +kernel
theorem dX6_refuse_14 : decode cX6_refuse 14 = .ok (.arraylength, 1) := by decide +kernel
theorem dX6_refuse_15 : decode cX6_refuse 15 = .ok (.if_icmp .ge 13, 3) := by decide +kernel
theorem dX6_refuse_18 : decode cX6_refuse 18 = .ok (.aload_n 0, 1) := by decide +kernel
theorem dX6_refuse_19 : decode cX6_refuse 19 = .ok (.getfield 61, 3) := by decide +kernel
theorem dX6_refuse_22 : decode cX6_refuse 22 = .ok (.iload_n 2, 1) := by decide +kernel
theorem dX6_refuse_23 : decode cX6_refuse 23 = .ok (.dup2, 1) := by decide +kernel
theorem dX6_refuse_24 : decode cX6_refuse 24 = .ok (.iaload, 1) := by decide +kernel
theorem dX6_refuse_25 : decode cX6_refuse 25 = .ok (.iconst 1, 1) := by decide +kernel
theorem dX6_refuse_26 : decode cX6_refuse 26 = .ok (.iadd, 1) := by decide +kernel
theorem dX6_refuse_27 : decode cX6_refuse 27 = .ok (.iastore, 1) := by decide +kernel
theorem dX6_refuse_28 : decode cX6_refuse 28 = .ok (.iload_n 1, 1) := by decide +kernel
theorem dX6_refuse_29 : decode cX6_refuse 29 = .ok (.ireturn, 1) := by decide +kernel
set_option maxRecDepth 20000 in
theorem ggX6_troubleWithEvening_X6_isWithin : GoodIn wsX6_troubleWithEvening wsX6_isWithin := goodIn_r _ [5] (by decide +kernel) (by decide +kernel)
set_option maxRecDepth 20000 in
theorem gX6_troubleWithEvening_X6_isWithin : GoodIn wsX6_troubleWithEvening (va_wsS RX6 73 yX6_isWithin wsX6_isWithin) := goodIn_app (goodIn_of _ (by decide +kernel)) ggX6_troubleWithEvening_X6_isWithin
set_option maxRecDepth 20000 in
theorem ggX6_troubleWithEvening_X3_troubleWithRow : GoodIn wsX6_troubleWithEvening wsX3_troubleWithRow := goodIn_r _ [10, 11, 12, 13, 4, 14, 2, 3, 5, 25, 26, 27] (by decide +kernel) (by decide +kernel)
set_option maxRecDepth 20000 in
theorem gX6_troubleWithEvening_X3_troubleWithRow : GoodIn wsX6_troubleWithEvening (wsV RX6 85 RX3 yX3_troubleWithRow wsX3_troubleWithRow) := goodIn_app (goodIn_of _ (by decide +kernel)) ggX6_troubleWithEvening_X3_troubleWithRow
theorem dX6_troubleWithEvening_0 : decode cX6_troubleWithEvening 0 = .ok (.iload_n 2, 1) := by decide +kernel
theorem dX6_troubleWithEvening_1 : decode cX6_troubleWithEvening 1 = .ok (.iconst 0, 1) := by decide +kernel
theorem dX6_troubleWithEvening_2 : decode cX6_troubleWithEvening 2 = .ok (.bipush 40, 2) := by decide +kernel
theorem dX6_troubleWithEvening_4 : decode cX6_troubleWithEvening 4 = .ok (.invokestatic 73, 3) := by decide +kernel
theorem dX6_troubleWithEvening_7 : decode cX6_troubleWithEvening 7 = .ok (.ifCond .eq 15, 3) := by decide +kernel
theorem dX6_troubleWithEvening_10 : decode cX6_troubleWithEvening 10 = .ok (.aload_n 0, 1) := by decide +kernel
theorem dX6_troubleWithEvening_11 : decode cX6_troubleWithEvening 11 = .ok (.getfield 25, 3) := by decide +kernel
theorem dX6_troubleWithEvening_14 : decode cX6_troubleWithEvening 14 = .ok (.iload_n 1, 1) := by decide +kernel
theorem dX6_troubleWithEvening_15 : decode cX6_troubleWithEvening 15 = .ok (.iload_n 2, 1) := by decide +kernel
theorem dX6_troubleWithEvening_16 : decode cX6_troubleWithEvening 16 = .ok (.invokevirtual 85, 3) := by decide +kernel
theorem dX6_troubleWithEvening_19 : decode cX6_troubleWithEvening 19 = .ok (.goto 5, 3) := by decide +kernel
theorem dX6_troubleWithEvening_22 : decode cX6_troubleWithEvening 22 = .ok (.bipush (-2), 2) := by decide +kernel
theorem dX6_troubleWithEvening_24 : decode cX6_troubleWithEvening 24 = .ok (.ireturn, 1) := by decide +kernel
set_option maxRecDepth 20000 in
theorem ggX6_troubleWithSayings_X6_troubleWithEvening : GoodIn wsX6_troubleWithSayings wsX6_troubleWithEvening := goodIn_r _ [6, 7, 8, 9, 5, 10, 11, 12, 13, 14, 15, 16, 17, 18, 19, 39, 40, 41, 42, 43, 44, 45, 46, 47, 48, 49, 50, 51] (by decide +kernel) (by decide +kernel)
set_option maxRecDepth 20000 in
theorem gX6_troubleWithSayings_X6_troubleWithEvening : GoodIn wsX6_troubleWithSayings (wsV RX6 285 RX6 yX6_troubleWithEvening wsX6_troubleWithEvening) := goodIn_app (goodIn_of _ (by decide +kernel)) ggX6_troubleWithSayings_X6_troubleWithEvening
set_option maxRecDepth 20000 in
theorem ggX6_troubleWithSayings_X0_areSayings : GoodIn wsX6_troubleWithSayings wsX0_areSayings := goodIn_r _ [24, 25, 26, 27, 28, 14, 29, 17, 30, 18, 5, 19, 8, 9, 10, 31, 32, 33, 23, 34, 35, 36, 37, 38, 52, 53, 54, 49, 50, 51, 55, 56, 57, 58, 59, 60, 61, 62, 63, 64, 65, 66, 67, 68] (by decide +kernel) (by decide +kernel)
set_option maxRecDepth 20000 in
theorem gX6_troubleWithSayings_X0_areSayings : GoodIn wsX6_troubleWithSayings (wsV RX6 332 RX0 yX0_areSayings wsX0_areSayings) := goodIn_app (goodIn_of _ (by decide +kernel)) ggX6_troubleWithSayings_X0_areSayings
theorem dX6_troubleWithSayings_0 : decode cX6_troubleWithSayings 0 = .ok (.aload_n 0, 1) := by decide +kernel
theorem dX6_troubleWithSayings_1 : decode cX6_troubleWithSayings 1 = .ok (.iload_n 1, 1) := by decide +kernel
theorem dX6_troubleWithSayings_2 : decode cX6_troubleWithSayings 2 = .ok (.iload_n 2, 1) := by decide +kernel
theorem dX6_troubleWithSayings_3 : decode cX6_troubleWithSayings 3 = .ok (.invokevirtual 285, 3) := by decide +kernel
theorem dX6_troubleWithSayings_6 : decode cX6_troubleWithSayings 6 = .ok (.istore_n 3, 1) := by decide +kernel
theorem dX6_troubleWithSayings_7 : decode cX6_troubleWithSayings 7 = .ok (.iload_n 3, 1) := by decide +kernel
theorem dX6_troubleWithSayings_8 : decode cX6_troubleWithSayings 8 = .ok (.ifCond .eq 5, 3) := by decide +kernel
theorem dX6_troubleWithSayings_11 : decode cX6_troubleWithSayings 11 = .ok (.iload_n 3, 1) := by decide +kernel
theorem dX6_troubleWithSayings_12 : decode cX6_troubleWithSayings 12 = .ok (.ireturn, 1) := by decide +kernel
theorem dX6_troubleWithSayings_13 : decode cX6_troubleWithSayings 13 = .ok (.aload_n 0, 1) := by decide +kernel
theorem dX6_troubleWithSayings_14 : decode cX6_troubleWithSayings 14 = .ok (.getfield 57, 3) := by decide +kernel
theorem dX6_troubleWithSayings_17 : decode cX6_troubleWithSayings 17 = .ok (.iload_n 1, 1) := by decide +kernel
theorem dX6_troubleWithSayings_18 : decode cX6_troubleWithSayings 18 = .ok (.iload_n 2, 1) := by decide +kernel
theorem dX6_troubleWithSayings_19 : decode cX6_troubleWithSayings 19 = .ok (.invokevirtual 332, 3) := by decide +kernel
theorem dX6_troubleWithSayings_22 : decode cX6_troubleWithSayings 22 = .ok (.ifCond .eq 7, 3) := by decide +kernel
theorem dX6_troubleWithSayings_25 : decode cX6_troubleWithSayings 25 = .ok (.iconst 0, 1) := by decide +kernel
theorem dX6_troubleWithSayings_26 : decode cX6_troubleWithSayings 26 = .ok (.goto 5, 3) := by decide +kernel
theorem dX6_troubleWithSayings_29 : decode cX6_troubleWithSayings 29 = .ok (.bipush (-2), 2) := by decide +kernel
theorem dX6_troubleWithSayings_31 : decode cX6_troubleWithSayings 31 = .ok (.ireturn, 1) := by decide +kernel
set_option maxRecDepth 20000 in
theorem ggX6_isRounds_X6_isWithin : GoodIn wsX6_isRounds wsX6_isWithin := goodIn_r _ [4] (by decide +kernel) (by decide +kernel)
set_option maxRecDepth 20000 in
theorem gX6_isRounds_X6_isWithin : GoodIn wsX6_isRounds (va_wsS RX6 73 yX6_isWithin wsX6_isWithin) := goodIn_app (goodIn_of _ (by decide +kernel)) ggX6_isRounds_X6_isWithin
theorem dX6_isRounds_0 : decode cX6_isRounds 0 = .ok (.iload_n 0, 1) := by decide +kernel
theorem dX6_isRounds_1 : decode cX6_isRounds 1 = .ok (.iconst 0, 1) := by decide +kernel
theorem dX6_isRounds_2 : decode cX6_isRounds 2 = .ok (.bipush 20, 2) := by decide +kernel
theorem dX6_isRounds_4 : decode cX6_isRounds 4 = .ok (.invokestatic 73, 3) := by decide +kernel
theorem dX6_isRounds_7 : decode cX6_isRounds 7 = .ok (.ireturn, 1) := by decide +kernel
set_option maxRecDepth 20000 in
theorem ggX6_isKind_X6_isWithin : GoodIn wsX6_isKind wsX6_isWithin := goodIn_r _ [4] (by decide +kernel) (by decide +kernel)
set_option maxRecDepth 20000 in
theorem gX6_isKind_X6_isWithin : GoodIn wsX6_isKind (va_wsS RX6 73 yX6_isWithin wsX6_isWithin) := goodIn_app (goodIn_of _ (by decide +kernel)) ggX6_isKind_X6_isWithin
theorem dX6_isKind_0 : decode cX6_isKind 0 = .ok (.iload_n 0, 1) := by decide +kernel
theorem dX6_isKind_1 : decode cX6_isKind 1 = .ok (.iconst 0, 1) := by decide +kernel
theorem dX6_isKind_2 : decode cX6_isKind 2 = .ok (.iconst 5, 1) := by decide +kernel
theorem dX6_isKind_3 : decode cX6_isKind 3 = .ok (.invokestatic 73, 3) := by decide +kernel
theorem dX6_isKind_6 : decode cX6_isKind 6 = .ok (.ireturn, 1) := by decide +kernel
set_option maxRecDepth 20000 in
theorem ggX6_isShelf_X6_isWithin : GoodIn wsX6_isShelf wsX6_isWithin := goodIn_r _ [4] (by decide +kernel) (by decide +kernel)
set_option maxRecDepth 20000 in
theorem gX6_isShelf_X6_isWithin : GoodIn wsX6_isShelf (va_wsS RX6 73 yX6_isWithin wsX6_isWithin) := goodIn_app (goodIn_of _ (by decide +kernel)) ggX6_isShelf_X6_isWithin
theorem dX6_isShelf_0 : decode cX6_isShelf 0 = .ok (.iload_n 0, 1) := by decide +kernel
theorem dX6_isShelf_1 : decode cX6_isShelf 1 = .ok (.iconst 0, 1) := by decide +kernel
theorem dX6_isShelf_2 : decode cX6_isShelf 2 = .ok (.bipush 7, 2) := by decide +kernel
theorem dX6_isShelf_4 : decode cX6_isShelf 4 = .ok (.invokestatic 73, 3) := by decide +kernel
theorem dX6_isShelf_7 : decode cX6_isShelf 7 = .ok (.ireturn, 1) := by decide +kernel
theorem dX6_isWithin_0 : decode cX6_isWithin 0 = .ok (.iload_n 0, 1) := by decide +kernel
theorem dX6_isWithin_1 : decode cX6_isWithin 1 = .ok (.iload_n 1, 1) := by decide +kernel
theorem dX6_isWithin_2 : decode cX6_isWithin 2 = .ok (.if_icmp .lt 12, 3) := by decide +kernel
theorem dX6_isWithin_5 : decode cX6_isWithin 5 = .ok (.iload_n 0, 1) := by decide +kernel
theorem dX6_isWithin_6 : decode cX6_isWithin 6 = .ok (.iload_n 2, 1) := by decide +kernel
theorem dX6_isWithin_7 : decode cX6_isWithin 7 = .ok (.if_icmp .gt 7, 3) := by decide +kernel
theorem dX6_isWithin_10 : decode cX6_isWithin 10 = .ok (.iconst 1, 1) := by decide +kernel
theorem dX6_isWithin_11 : decode cX6_isWithin 11 = .ok (.goto 4, 3) := by decide +kernel
theorem dX6_isWithin_14 : decode cX6_isWithin 14 = .ok (.iconst 0, 1) := by decide +kernel
theorem dX6_isWithin_15 : decode cX6_isWithin 15 = .ok (.ireturn, 1) := by decide +kernel
theorem dX6_isPart_0 : decode cX6_isPart 0 = .ok (.iload_n 0, 1) := by decide +kernel
theorem dX6_isPart_1 : decode cX6_isPart 1 = .ok (.ifCond .lt 23, 3) := by decide +kernel
theorem dX6_isPart_4 : decode cX6_isPart 4 = .ok (.iload_n 1, 1) := by decide +kernel
theorem dX6_isPart_5 : decode cX6_isPart 5 = .ok (.ifCond .lt 19, 3) := by decide +kernel
theorem dX6_isPart_8 : decode cX6_isPart 8 = .ok (.iload_n 0, 1) := by decide +kernel
theorem dX6_isPart_9 : decode cX6_isPart 9 = .ok (.iload_n 2, 1) := by decide +kernel
theorem dX6_isPart_10 : decode cX6_isPart 10 = .ok (.if_icmp .gt 14, 3) := by decide +kernel
theorem dX6_isPart_13 : decode cX6_isPart 13 = .ok (.iload_n 1, 1) := by decide +kernel
theorem dX6_isPart_14 : decode cX6_isPart 14 = .ok (.iload_n 2, 1) := by decide +kernel
theorem dX6_isPart_15 : decode cX6_isPart 15 = .ok (.iload_n 0, 1) := by decide +kernel
theorem dX6_isPart_16 : decode cX6_isPart 16 = .ok (.isub, 1) := by decide +kernel
theorem dX6_isPart_17 : decode cX6_isPart 17 = .ok (.if_icmp .gt 7, 3) := by decide +kernel
theorem dX6_isPart_20 : decode cX6_isPart 20 = .ok (.iconst 1, 1) := by decide +kernel
theorem dX6_isPart_21 : decode cX6_isPart 21 = .ok (.goto 4, 3) := by decide +kernel
theorem dX6_isPart_24 : decode cX6_isPart 24 = .ok (.iconst 0, 1) := by decide +kernel
theorem dX6_isPart_25 : decode cX6_isPart 25 = .ok (.ireturn, 1) := by decide +kernel
theorem dX6_has_0 : decode cX6_has 0 = .ok (.iload_n 0, 1) := by decide +kernel
theorem dX6_has_1 : decode cX6_has 1 = .ok (.iload_n 1, 1) := by decide +kernel
theorem dX6_has_2 : decode cX6_has 2 = .ok (.ishr, 1) := by decide +kernel
theorem dX6_has_3 : decode cX6_has 3 = .ok (.iconst 1, 1) := by decide +kernel
theorem dX6_has_4 : decode cX6_has 4 = .ok (.iand, 1) := by decide +kernel
theorem dX6_has_5 : decode cX6_has 5 = .ok (.ifCond .eq 7, 3) := by decide +kernel
theorem dX6_has_8 : decode cX6_has 8 = .ok (.iconst 1, 1) := by decide +kernel
theorem dX6_has_9 : decode cX6_has 9 = .ok (.goto 4, 3) := by decide +kernel
theorem dX6_has_12 : decode cX6_has 12 = .ok (.iconst 0, 1) := by decide +kernel
theorem dX6_has_13 : decode cX6_has 13 = .ok (.ireturn, 1) := by decide +kernel
theorem dX6_with_0 : decode cX6_with 0 = .ok (.iload_n 2, 1) := by decide +kernel
theorem dX6_with_1 : decode cX6_with 1 = .ok (.ifCond .eq 11, 3) := by decide +kernel
theorem dX6_with_4 : decode cX6_with 4 = .ok (.iload_n 0, 1) := by decide +kernel
theorem dX6_with_5 : decode cX6_with 5 = .ok (.iconst 1, 1) := by decide +kernel
theorem dX6_with_6 : decode cX6_with 6 = .ok (.iload_n 1, 1) := by decide +kernel
theorem dX6_with_7 : decode cX6_with 7 = .ok (.ishl, 1) := by decide +kernel
theorem dX6_with_8 : decode cX6_with 8 = .ok (.ior, 1) := by decide +kernel
theorem dX6_with_9 : decode cX6_with 9 = .ok (.goto 10, 3) := by decide +kernel
theorem dX6_with_12 : decode cX6_with 12 = .ok (.iload_n 0, 1) := by decide +kernel
theorem dX6_with_13 : decode cX6_with 13 = .ok (.iconst 1, 1) := by decide +kernel
theorem dX6_with_14 : decode cX6_with 14 = .ok (.iload_n 1, 1) := by decide +kernel
theorem dX6_with_15 : decode cX6_with 15 = .ok (.ishl, 1) := by decide +kernel
theorem dX6_with_16 : decode cX6_with 16 = .ok (.iconst (-1), 1) := by decide +kernel
theorem dX6_with_17 : decode cX6_with 17 = .ok (.ixor, 1) := by decide +kernel
theorem dX6_with_18 : decode cX6_with 18 = .ok (.iand, 1) := by decide +kernel
theorem dX6_with_19 : decode cX6_with 19 = .ok (.ireturn, 1) := by decide +kernel
set_option maxRecDepth 20000 in
theorem ggX6_firstOf_X6_has : GoodIn wsX6_firstOf wsX6_has := goodIn_r _ [4] (by decide +kernel) (by decide +kernel)
set_option maxRecDepth 20000 in
theorem gX6_firstOf_X6_has : GoodIn wsX6_firstOf (va_wsS RX6 156 yX6_has wsX6_has) := goodIn_app (goodIn_of _ (by decide +kernel)) ggX6_firstOf_X6_has
theorem dX6_firstOf_0 : decode cX6_firstOf 0 = .ok (.iconst 0, 1) := by decide +kernel
theorem dX6_firstOf_1 : decode cX6_firstOf 1 = .ok (.istore_n 1, 1) := by decide +kernel
theorem dX6_firstOf_2 : decode cX6_firstOf 2 = .ok (.iload_n 1, 1) := by decide +kernel
theorem dX6_firstOf_3 : decode cX6_firstOf 3 = .ok (.bipush 32, 2) := by decide +kernel
theorem dX6_firstOf_5 : decode cX6_firstOf 5 = .ok (.if_icmp .ge 19, 3) := by decide +kernel
theorem dX6_firstOf_8 : decode cX6_firstOf 8 = .ok (.iload_n 0, 1) := by decide +kernel
theorem dX6_firstOf_9 : decode cX6_firstOf 9 = .ok (.iload_n 1, 1) := by decide +kernel
theorem dX6_firstOf_10 : decode cX6_firstOf 10 = .ok (.invokestatic 156, 3) := by decide +kernel
theorem dX6_firstOf_13 : decode cX6_firstOf 13 = .ok (.ifCond .eq 5, 3) := by decide +kernel
theorem dX6_firstOf_16 : decode cX6_firstOf 16 = .ok (.iload_n 1, 1) := by decide +kernel
theorem dX6_firstOf_17 : decode cX6_firstOf 17 = .ok (.ireturn, 1) := by decide +kernel
theorem dX6_firstOf_18 : decode cX6_firstOf 18 = .ok (.iinc 1 1, 3) := by decide +kernel
theorem dX6_firstOf_21 : decode cX6_firstOf 21 = .ok (.goto (-19), 3) := by decide +kernel
theorem dX6_firstOf_24 : decode cX6_firstOf 24 = .ok (.iconst (-1), 1) := by decide +kernel
theorem dX6_firstOf_25 : decode cX6_firstOf 25 = .ok (.ireturn, 1) := by decide +kernel
theorem dX6_firstBits_0 : decode cX6_firstBits 0 = .ok (.iload_n 0, 1) := by decide +kernel
theorem dX6_firstBits_1 : decode cX6_firstBits 1 = .ok (.istore_n 2, 1) := by decide +kernel
theorem dX6_firstBits_2 : decode cX6_firstBits 2 = .ok (.iconst 0, 1) := by decide +kernel
theorem dX6_firstBits_3 : decode cX6_firstBits 3 = .ok (.istore_n 3, 1) := by decide +kernel
theorem dX6_firstBits_4 : decode cX6_firstBits 4 = .ok (.iconst 0, 1) := by decide +kernel
theorem dX6_firstBits_5 : decode cX6_firstBits 5 = .ok (.istore 4, 2) := by decide +kernel
theorem dX6_firstBits_7 : decode cX6_firstBits 7 = .ok (.iload 4, 2) := by decide +kernel
theorem dX6_firstBits_9 : decode cX6_firstBits 9 = .ok (.iload_n 1, 1) := by decide +kernel
theorem dX6_firstBits_10 : decode cX6_firstBits 10 = .ok (.if_icmp .ge 31, 3) := by decide +kernel
theorem dX6_firstBits_13 : decode cX6_firstBits 13 = .ok (.iload_n 2, 1) := by decide +kernel
theorem dX6_firstBits_14 : decode cX6_firstBits 14 = .ok (.ifCond .eq 27, 3) := by decide +kernel
theorem dX6_firstBits_17 : decode cX6_firstBits 17 = .ok (.iload_n 2, 1) := by decide +kernel
theorem dX6_firstBits_18 : decode cX6_firstBits 18 = .ok (.iload_n 2, 1) := by decide +kernel
theorem dX6_firstBits_19 : decode cX6_firstBits 19 = .ok (.ineg, 1) := by decide +kernel
theorem dX6_firstBits_20 : decode cX6_firstBits 20 = .ok (.iand, 1) := by decide +kernel
theorem dX6_firstBits_21 : decode cX6_firstBits 21 = .ok (.istore 5, 2) := by decide +kernel
theorem dX6_firstBits_23 : decode cX6_firstBits 23 = .ok (.iload_n 3, 1) := by decide +kernel
theorem dX6_firstBits_24 : decode cX6_firstBits 24 = .ok (.iload 5, 2) := by decide +kernel
theorem dX6_firstBits_26 : decode cX6_firstBits 26 = .ok (.ior, 1) := by decide +kernel
theorem dX6_firstBits_27 : decode cX6_firstBits 27 = .ok (.istore_n 3, 1) := by decide +kernel
theorem dX6_firstBits_28 : decode cX6_firstBits 28 = .ok (.iload_n 2, 1) := by decide +kernel
theorem dX6_firstBits_29 : decode cX6_firstBits 29 = .ok (.iload 5, 2) := by decide +kernel
theorem dX6_firstBits_31 : decode cX6_firstBits 31 = .ok (.iconst (-1), 1) := by decide +kernel
theorem dX6_firstBits_32 : decode cX6_firstBits 32 = .ok (.ixor, 1) := by decide +kernel
theorem dX6_firstBits_33 : decode cX6_firstBits 33 = .ok (.iand, 1) := by decide +kernel
theorem dX6_firstBits_34 : decode cX6_firstBits 34 = .ok (.istore_n 2, 1) := by decide +kernel
theorem dX6_firstBits_35 : decode cX6_firstBits 35 = .ok (.iinc 4 1, 3) := by decide +kernel
theorem dX6_firstBits_38 : decode cX6_firstBits 38 = .ok (.goto (-31), 3) := by decide +kernel
theorem dX6_firstBits_41 : decode cX6_firstBits 41 = .ok (.iload_n 3, 1) := by decide +kernel
theorem dX6_firstBits_42 : decode cX6_firstBits 42 = .ok (.ireturn, 1) := by decide +kernel
theorem dX7_init_0 : decode cX7_init 0 = .ok (.aload_n 0, 1) := by decide +kernel
theorem dX7_init_1 : decode cX7_init 1 = .ok (.invokespecial 1, 3) := by decide +kernel
theorem dX7_init_4 : decode cX7_init 4 = .ok (.aload_n 0, 1) := by decide +kernel
theorem dX7_init_5 : decode cX7_init 5 = .ok (.bipush 8, 2) := by decide +kernel
theorem dX7_init_7 : decode cX7_init 7 = .ok (.newarray .int, 2) := by decide +kernel
theorem dX7_init_9 : decode cX7_init 9 = .ok (.putfield 7, 3) := by decide +kernel
theorem dX7_init_12 : decode cX7_init 12 = .ok (.aload_n 0, 1) := by decide +kernel
theorem dX7_init_13 : decode cX7_init 13 = .ok (.bipush 8, 2) := by decide +kernel
theorem dX7_init_15 : decode cX7_init 15 = .ok (.newarray .int, 2) := by decide +kernel
theorem dX7_init_17 : decode cX7_init 17 = .ok (.putfield 13, 3) := by decide +kernel
theorem dX7_init_20 : decode cX7_init 20 = .ok (.aload_n 0, 1) := by decide +kernel
theorem dX7_init_21 : decode cX7_init 21 = .ok (.bipush 8, 2) := by decide +kernel
theorem dX7_init_23 : decode cX7_init 23 = .ok (.newarray .int, 2) := by decide +kernel
theorem dX7_init_25 : decode cX7_init 25 = .ok (.putfield 16, 3) := by decide +kernel
theorem dX7_init_28 : decode cX7_init 28 = .ok (.aload_n 0, 1) := by decide +kernel
theorem dX7_init_29 : decode cX7_init 29 = .ok (.bipush 8, 2) := by decide +kernel
theorem dX7_init_31 : decode cX7_init 31 = .ok (.bipush 40, 2) := by decide +kernel
theorem dX7_init_33 : decode cX7_init 33 = .ok (.multianewarray 19 2, 4) := by decide +kernel
theorem dX7_init_37 : decode cX7_init 37 = .ok (.putfield 21, 3) := by decide +kernel
theorem dX7_init_40 : decode cX7_init 40 = .ok (.aload_n 0, 1) := by decide +kernel
theorem dX7_init_41 : decode cX7_init 41 = .ok (.bipush 40, 2) := by decide +kernel
theorem dX7_init_43 : decode cX7_init 43 = .ok (.newarray .long, 2) := by decide +kernel
theorem dX7_init_45 : decode cX7_init 45 = .ok (.putfield 24, 3) := by decide +kernel
theorem dX7_init_48 : decode cX7_init 48 = .ok (.aload_n 0, 1) := by decide +kernel
theorem dX7_init_49 : decode cX7_init 49 = .ok (.bipush 8, 2) := by decide +kernel
theorem dX7_init_51 : decode cX7_init 51 = .ok (.newarray .int, 2) := by decide +kernel
theorem dX7_init_53 : decode cX7_init 53 = .ok (.putfield 28, 3) := by decide +kernel
theorem dX7_init_56 : decode cX7_init 56 = .ok (.aload_n 0, 1) := by decide +kernel
theorem dX7_init_57 : decode cX7_init 57 = .ok (.sipush 250, 3) := by decide +kernel
theorem dX7_init_60 : decode cX7_init 60 = .ok (.newarray .int, 2) := by decide +kernel
theorem dX7_init_62 : decode cX7_init 62 = .ok (.putfield 31, 3) := by decide +kernel
theorem dX7_init_65 : decode cX7_init 65 = .ok (.aload_n 0, 1) := by decide +kernel
theorem dX7_init_66 : decode cX7_init 66 = .ok (.bipush 8, 2) := by decide +kernel
theorem dX7_init_68 : decode cX7_init 68 = .ok (.newarray .int, 2) := by decide +kernel
theorem dX7_init_70 : decode cX7_init 70 = .ok (.putfield 34, 3) := by decide +kernel
theorem dX7_init_73 : decode cX7_init 73 = .ok (.aload_n 0, 1) := by decide +kernel
theorem dX7_init_74 : decode cX7_init 74 = .ok (.iconst 4, 1) := by decide +kernel
theorem dX7_init_75 : decode cX7_init 75 = .ok (.putfield 37, 3) := by decide +kernel
theorem dX7_init_78 : decode cX7_init 78 = .ok (.aload_n 0, 1) := by decide +kernel
theorem dX7_init_79 : decode cX7_init 79 = .ok (.bipush 7, 2) := by decide +kernel
theorem dX7_init_81 : decode cX7_init 81 = .ok (.newarray .int, 2) := by decide +kernel
theorem dX7_init_83 : decode cX7_init 83 = .ok (.putfield 41, 3) := by decide +kernel
theorem dX7_init_86 : decode cX7_init 86 = .ok (.aload_n 0, 1) := by decide +kernel
theorem dX7_init_87 : decode cX7_init 87 = .ok (.bipush 7, 2) := by decide +kernel
theorem dX7_init_89 : decode cX7_init 89 = .ok (.newarray .int, 2) := by decide +kernel
theorem dX7_init_91 : decode cX7_init 91 = .ok (.putfield 44, 3) := by decide +kernel
theorem dX7_init_94 : decode cX7_init 94 = .ok (.aload_n 0, 1) := by decide +kernel
theorem dX7_init_95 : decode cX7_init 95 = .ok (.bipush 7, 2) := by decide +kernel
theorem dX7_init_97 : decode cX7_init 97 = .ok (.newarray .int, 2) := by decide +kernel
theorem dX7_init_99 : decode cX7_init 99 = .ok (.putfield 47, 3) := by decide +kernel
theorem dX7_init_102 : decode cX7_init 102 = .ok (.aload_n 0, 1) := by decide +kernel
theorem dX7_init_103 : decode cX7_init 103 = .ok (.bipush 7, 2) := by decide +kernel
theorem dX7_init_105 : decode cX7_init 105 = .ok (.newarray .int, 2) := by decide +kernel
theorem dX7_init_107 : decode cX7_init 107 = .ok (.putfield 50, 3) := by decide +kernel
theorem dX7_init_110 : decode cX7_init 110 = .ok (.aload_n 0, 1) := by decide +kernel
theorem dX7_init_111 : decode cX7_init 111 = .ok (.bipush 7, 2) := by decide +kernel
theorem dX7_init_113 : decode cX7_init 113 = .ok (.newarray .int, 2) := by decide +kernel
theorem dX7_init_115 : decode cX7_init 115 = .ok (.putfield 53, 3) := by decide +kernel
theorem dX7_init_118 : decode cX7_init 118 = .ok (.aload_n 0, 1) := by decide +kernel
theorem dX7_init_119 : decode cX7_init 119 = .ok (.bipush 7, 2) := by decide +kernel
theorem dX7_init_121 : decode cX7_init 121 = .ok (.newarray .int, 2) := by decide +kernel
theorem dX7_init_123 : decode cX7_init 123 = .ok (.putfield 56, 3) := by decide +kernel
theorem dX7_init_126 : decode cX7_init 126 = .ok (.aload_n 0, 1) := by decide +kernel
theorem dX7_init_127 : decode cX7_init 127 = .ok (.iconst 3, 1) := by decide +kernel
theorem dX7_init_128 : decode cX7_init 128 = .ok (.newarray .int, 2) := by decide +kernel
theorem dX7_init_130 : decode cX7_init 130 = .ok (.putfield 59, 3) := by decide +kernel
theorem dX7_init_133 : decode cX7_init 133 = .ok (.aload_n 0, 1) := by decide +kernel
theorem dX7_init_134 : decode cX7_init 134 = .ok (.iconst 1, 1) := by decide +kernel
theorem dX7_init_135 : decode cX7_init 135 = .ok (.putfield 62, 3) := by decide +kernel
theorem dX7_init_138 : decode cX7_init 138 = .ok (.aload_n 0, 1) := by decide +kernel
theorem dX7_init_139 : decode cX7_init 139 = .ok (.iconst 2, 1) := by decide +kernel
theorem dX7_init_140 : decode cX7_init 140 = .ok (.newarray .int, 2) := by decide +kernel
theorem dX7_init_142 : decode cX7_init 142 = .ok (.putfield 65, 3) := by decide +kernel
theorem dX7_init_145 : decode cX7_init 145 = .ok (.aload_n 0, 1) := by decide +kernel
theorem dX7_init_146 : decode cX7_init 146 = .ok (.bipush 7, 2) := by decide +kernel
theorem dX7_init_148 : decode cX7_init 148 = .ok (.newarray .int, 2) := by decide +kernel
theorem dX7_init_150 : decode cX7_init 150 = .ok (.putfield 68, 3) := by decide +kernel
theorem dX7_init_153 : decode cX7_init 153 = .ok (.aload_n 0, 1) := by decide +kernel
theorem dX7_init_154 : decode cX7_init 154 = .ok (.bipush 7, 2) := by decide +kernel
theorem dX7_init_156 : decode cX7_init 156 = .ok (.newarray .int, 2) := by decide +kernel
theorem dX7_init_158 : decode cX7_init 158 = .ok (.putfield 71, 3) := by decide +kernel
theorem dX7_init_161 : decode cX7_init 161 = .ok (.aload_n 0, 1) := by decide +kernel
theorem dX7_init_162 : decode cX7_init 162 = .ok (.bipush 7, 2) := by decide +kernel
theorem dX7_init_164 : decode cX7_init 164 = .ok (.newarray .int, 2) := by decide +kernel
theorem dX7_init_166 : decode cX7_init 166 = .ok (.putfield 74, 3) := by decide +kernel
theorem dX7_init_169 : decode cX7_init 169 = .ok (.return_, 1) := by decide +kernel
theorem dX7_refuse_0 : decode cX7_refuse 0 = .ok (.aload_n 0, 1) := by decide +kernel
theorem dX7_refuse_1 : decode cX7_refuse 1 = .ok (.getfield 34, 3) := by decide +kernel
theorem dX7_refuse_4 : decode cX7_refuse 4 = .ok (.iload_n 1, 1) := by decide +kernel
theorem dX7_refuse_5 : decode cX7_refuse 5 = .ok (.ineg, 1) := by decide +kernel
theorem dX7_refuse_6 : decode cX7_refuse 6 = .ok (.dup2, 1) := by decide +kernel
theorem dX7_refuse_7 : decode cX7_refuse 7 = .ok (.iaload, 1) := by decide +kernel
theorem dX7_refuse_8 : decode cX7_refuse 8 = .ok (.iconst 1, 1) := by decide +kernel
theorem dX7_refuse_9 : decode cX7_refuse 9 = .ok (.iadd, 1) := by decide +kernel
theorem dX7_refuse_10 : decode cX7_refuse 10 = .ok (.iastore, 1) := by decide +kernel
theorem dX7_refuse_11 : decode cX7_refuse 11 = .ok (.iload_n 1, 1) := by decide +kernel
theorem dX7_refuse_12 : decode cX7_refuse 12 = .ok (.ireturn, 1) := by decide +kernel
theorem dX7_in_0 : decode cX7_in 0 = .ok (.lload_n 0, 1) := by decide +kernel
theorem dX7_in_1 : decode cX7_in 1 = .ok (.lload_n 2, 1) := by decide +kernel
theorem dX7_in_2 : decode cX7_in 2 = .ok (.lcmp, 1) := by decide +kernel
theorem dX7_in_3 : decode cX7_in 3 = .ok (.ifCond .lt 14, 3) := by decide +kernel
theorem dX7_in_6 : decode cX7_in 6 = .ok (.lload_n 0, 1) := by decide +kernel
theorem dX7_in_7 : decode cX7_in 7 = .ok (.lload 4, 2) := by decide +kernel
theorem dX7_in_9 : decode cX7_in 9 = .ok (.lcmp, 1) := by decide +kernel
theorem dX7_in_10 : decode cX7_in 10 = .ok (.ifCond .gt 7, 3) := by decide +kernel
theorem dX7_in_13 : decode cX7_in 13 = .ok (.iconst 1, 1) := by decide +kernel
theorem dX7_in_14 : decode cX7_in 14 = .ok (.goto 4, 3) := by decide +kernel
theorem dX7_in_17 : decode cX7_in 17 = .ok (.iconst 0, 1) := by decide +kernel
theorem dX7_in_18 : decode cX7_in 18 = .ok (.ireturn, 1) := by decide +kernel
set_option maxRecDepth 20000 in
theorem ggX7_isOne_X7_in : GoodIn wsX7_isOne wsX7_in := goodIn_r _ [5] (by decide +kernel) (by decide +kernel)
set_option maxRecDepth 20000 in
theorem gX7_isOne_X7_in : GoodIn wsX7_isOne (va_wsS RX7 80 yX7_in wsX7_in) := goodIn_app (goodIn_of _ (by decide +kernel)) ggX7_isOne_X7_in
theorem dX7_isOne_0 : decode cX7_isOne 0 = .ok (.iload_n 1, 1) := by decide +kernel
theorem dX7_isOne_1 : decode cX7_isOne 1 = .ok (.i2l, 1) := by decide +kernel
theorem dX7_isOne_2 : decode cX7_isOne 2 = .ok (.lconst 0, 1) := by decide +kernel
theorem dX7_isOne_3 : decode cX7_isOne 3 = .ok (.aload_n 0, 1) := by decide +kernel
theorem dX7_isOne_4 : decode cX7_isOne 4 = .ok (.getfield 77, 3) := by decide +kernel
theorem dX7_isOne_7 : decode cX7_isOne 7 = .ok (.iconst 1, 1) := by decide +kernel
theorem dX7_isOne_8 : decode cX7_isOne 8 = .ok (.isub, 1) := by decide +kernel
theorem dX7_isOne_9 : decode cX7_isOne 9 = .ok (.i2l, 1) := by decide +kernel
theorem dX7_isOne_10 : decode cX7_isOne 10 = .ok (.invokestatic 80, 3) := by decide +kernel
theorem dX7_isOne_13 : decode cX7_isOne 13 = .ok (.ireturn, 1) := by decide +kernel
set_option maxRecDepth 20000 in
theorem ggX7_isSight_X7_in : GoodIn wsX7_isSight wsX7_in := goodIn_r _ [5] (by decide +kernel) (by decide +kernel)
set_option maxRecDepth 20000 in
theorem gX7_isSight_X7_in : GoodIn wsX7_isSight (va_wsS RX7 80 yX7_in wsX7_in) := goodIn_app (goodIn_of _ (by decide +kernel)) ggX7_isSight_X7_in
theorem dX7_isSight_0 : decode cX7_isSight 0 = .ok (.iload_n 1, 1) := by decide +kernel
theorem dX7_isSight_1 : decode cX7_isSight 1 = .ok (.i2l, 1) := by decide +kernel
theorem dX7_isSight_2 : decode cX7_isSight 2 = .ok (.lconst 0, 1) := by decide +kernel
theorem dX7_isSight_3 : decode cX7_isSight 3 = .ok (.aload_n 0, 1) := by decide +kernel
theorem dX7_isSight_4 : decode cX7_isSight 4 = .ok (.getfield 37, 3) := by decide +kernel
theorem dX7_isSight_7 : decode cX7_isSight 7 = .ok (.iconst 1, 1) := by decide +kernel
theorem dX7_isSight_8 : decode cX7_isSight 8 = .ok (.isub, 1) := by decide +kernel
theorem dX7_isSight_9 : decode cX7_isSight 9 = .ok (.i2l, 1) := by decide +kernel
theorem dX7_isSight_10 : decode cX7_isSight 10 = .ok (.invokestatic 80, 3) := by decide +kernel
theorem dX7_isSight_13 : decode cX7_isSight 13 = .ok (.ireturn, 1) := by decide +kernel
theorem dX7_allSights_0 : decode cX7_allSights 0 = .ok (.iconst 1, 1) := by decide +kernel
theorem dX7_allSights_1 : decode cX7_allSights 1 = .ok (.aload_n 0, 1) := by decide +kernel
theorem dX7_allSights_2 : decode cX7_allSights 2 = .ok (.getfield 37, 3) := by decide +kernel
theorem dX7_allSights_5 : decode cX7_allSights 5 = .ok (.ishl, 1) := by decide +kernel
theorem dX7_allSights_6 : decode cX7_allSights 6 = .ok (.iconst 1, 1) := by decide +kernel
theorem dX7_allSights_7 : decode cX7_allSights 7 = .ok (.isub, 1) := by decide +kernel
theorem dX7_allSights_8 : decode cX7_allSights 8 = .ok (.ireturn, 1) := by decide +kernel
theorem dX7_bits_0 : decode cX7_bits 0 = .ok (.iconst 0, 1) := by decide +kernel
theorem dX7_bits_1 : decode cX7_bits 1 = .ok (.istore_n 1, 1) := by decide +kernel
theorem dX7_bits_2 : decode cX7_bits 2 = .ok (.iconst 0, 1) := by decide +kernel
theorem dX7_bits_3 : decode cX7_bits 3 = .ok (.istore_n 2, 1) := by decide +kernel
theorem dX7_bits_4 : decode cX7_bits 4 = .ok (.iload_n 2, 1) := by decide +kernel
theorem dX7_bits_5 : decode cX7_bits 5 = .ok (.bipush 8, 2) := by decide +kernel
theorem dX7_bits_7 : decode cX7_bits 7 = .ok (.if_icmp .ge 17, 3) := by decide +kernel
theorem dX7_bits_10 : decode cX7_bits 10 = .ok (.iload_n 1, 1) := by decide +kernel
theorem dX7_bits_11 : decode cX7_bits 11 = .ok (.iload_n 0, 1) := by decide +kernel
theorem dX7_bits_12 : decode cX7_bits 12 = .ok (.iload_n 2, 1) := by decide +kernel
theorem dX7_bits_13 : decode cX7_bits 13 = .ok (.ishr, 1) := by decide +kernel
theorem dX7_bits_14 : decode cX7_bits 14 = .ok (.iconst 1, 1) := by decide +kernel
theorem dX7_bits_15 : decode cX7_bits 15 = .ok (.iand, 1) := by decide +kernel
theorem dX7_bits_16 : decode cX7_bits 16 = .ok (.iadd, 1) := by decide +kernel
theorem dX7_bits_17 : decode cX7_bits 17 = .ok (.istore_n 1, 1) := by decide +kernel
theorem dX7_bits_18 : decode cX7_bits 18 = .ok (.iinc 2 1, 3) := by decide +kernel
theorem dX7_bits_21 : decode cX7_bits 21 = .ok (.goto (-17), 3) := by decide +kernel
theorem dX7_bits_24 : decode cX7_bits 24 = .ok (.iload_n 1, 1) := by decide +kernel
theorem dX7_bits_25 : decode cX7_bits 25 = .ok (.ireturn, 1) := by decide +kernel
theorem dX7_has_0 : decode cX7_has 0 = .ok (.iload_n 0, 1) := by decide +kernel
theorem dX7_has_1 : decode cX7_has 1 = .ok (.iload_n 1, 1) := by decide +kernel
theorem dX7_has_2 : decode cX7_has 2 = .ok (.ishr, 1) := by decide +kernel
theorem dX7_has_3 : decode cX7_has 3 = .ok (.iconst 1, 1) := by decide +kernel
theorem dX7_has_4 : decode cX7_has 4 = .ok (.iand, 1) := by decide +kernel
theorem dX7_has_5 : decode cX7_has 5 = .ok (.ifCond .eq 7, 3) := by decide +kernel
theorem dX7_has_8 : decode cX7_has 8 = .ok (.iconst 1, 1) := by decide +kernel
theorem dX7_has_9 : decode cX7_has 9 = .ok (.goto 4, 3) := by decide +kernel
theorem dX7_has_12 : decode cX7_has 12 = .ok (.iconst 0, 1) := by decide +kernel
theorem dX7_has_13 : decode cX7_has 13 = .ok (.ireturn, 1) := by decide +kernel
set_option maxRecDepth 20000 in
theorem ggX7_firstOf_X7_has : GoodIn wsX7_firstOf wsX7_has := goodIn_r _ [4] (by decide +kernel) (by decide +kernel)
set_option maxRecDepth 20000 in
theorem gX7_firstOf_X7_has : GoodIn wsX7_firstOf (va_wsS RX7 84 yX7_has wsX7_has) := goodIn_app (goodIn_of _ (by decide +kernel)) ggX7_firstOf_X7_has
theorem dX7_firstOf_0 : decode cX7_firstOf 0 = .ok (.iconst 0, 1) := by decide +kernel
theorem dX7_firstOf_1 : decode cX7_firstOf 1 = .ok (.istore_n 1, 1) := by decide +kernel
theorem dX7_firstOf_2 : decode cX7_firstOf 2 = .ok (.iload_n 1, 1) := by decide +kernel
theorem dX7_firstOf_3 : decode cX7_firstOf 3 = .ok (.bipush 8, 2) := by decide +kernel
theorem dX7_firstOf_5 : decode cX7_firstOf 5 = .ok (.if_icmp .ge 19, 3) := by decide +kernel
theorem dX7_firstOf_8 : decode cX7_firstOf 8 = .ok (.iload_n 0, 1) := by decide +kernel
theorem dX7_firstOf_9 : decode cX7_firstOf 9 = .ok (.iload_n 1, 1) := by decide +kernel
theorem dX7_firstOf_10 : decode cX7_firstOf 10 = .ok (.invokestatic 84, 3) := by decide +kernel
theorem dX7_firstOf_13 : decode cX7_firstOf 13 = .ok (.ifCond .eq 5, 3) := by decide +kernel
theorem dX7_firstOf_16 : decode cX7_firstOf 16 = .ok (.iload_n 1, 1) := by decide +kernel
theorem dX7_firstOf_17 : decode cX7_firstOf 17 = .ok (.ireturn, 1) := by decide +kernel
theorem dX7_firstOf_18 : decode cX7_firstOf 18 = .ok (.iinc 1 1, 3) := by decide +kernel
theorem dX7_firstOf_21 : decode cX7_firstOf 21 = .ok (.goto (-19), 3) := by decide +kernel
theorem dX7_firstOf_24 : decode cX7_firstOf 24 = .ok (.iconst (-1), 1) := by decide +kernel
theorem dX7_firstOf_25 : decode cX7_firstOf 25 = .ok (.ireturn, 1) := by decide +kernel
set_option maxRecDepth 20000 in
theorem ggX7_row_X7_in : GoodIn wsX7_row wsX7_in := goodIn_r _ [11] (by decide +kernel) (by decide +kernel)
set_option maxRecDepth 20000 in
theorem gX7_row_X7_in : GoodIn wsX7_row (va_wsS RX7 80 yX7_in wsX7_in) := goodIn_app (goodIn_of _ (by decide +kernel)) ggX7_row_X7_in
set_option maxRecDepth 20000 in
theorem ggX7_row_X7_refuse : GoodIn wsX7_row wsX7_refuse := goodIn_r _ [15, 16, 17, 18, 19, 20, 21, 22, 23, 24, 25, 26, 27, 28, 29, 30, 31, 32, 33, 34, 35, 36, 37, 38, 39, 40, 41, 42, 43, 44, 45, 46, 47, 48, 49] (by decide +kernel) (by decide +kernel)
set_option maxRecDepth 20000 in
theorem gX7_row_X7_refuse : GoodIn wsX7_row (wsV RX7 94 RX7 yX7_refuse wsX7_refuse) := goodIn_app (goodIn_of _ (by decide +kernel)) ggX7_row_X7_refuse
theorem dX7_row_0 : decode cX7_row 0 = .ok (.iload_n 1, 1) := by decide +kernel
theorem dX7_row_1 : decode cX7_row 1 = .ok (.i2l, 1) := by decide +kernel
theorem dX7_row_2 : decode cX7_row 2 = .ok (.lconst 0, 1) := by decide +kernel
theorem dX7_row_3 : decode cX7_row 3 = .ok (.ldc2_w 88, 3) := by decide +kernel
theorem dX7_row_6 : decode cX7_row 6 = .ok (.invokestatic 80, 3) := by decide +kernel
theorem dX7_row_9 : decode cX7_row 9 = .ok (.ifCond .eq 27, 3) := by decide +kernel
theorem dX7_row_12 : decode cX7_row 12 = .ok (.iload_n 2, 1) := by decide +kernel
theorem dX7_row_13 : decode cX7_row 13 = .ok (.i2l, 1) := by decide +kernel
theorem dX7_row_14 : decode cX7_row 14 = .ok (.lconst 0, 1) := by decide +kernel
theorem dX7_row_15 : decode cX7_row 15 = .ok (.ldc2_w 90, 3) := by decide +kernel
theorem dX7_row_18 : decode cX7_row 18 = .ok (.invokestatic 80, 3) := by decide +kernel
theorem dX7_row_21 : decode cX7_row 21 = .ok (.ifCond .eq 15, 3) := by decide +kernel
theorem dX7_row_24 : decode cX7_row 24 = .ok (.iload_n 3, 1) := by decide +kernel
theorem dX7_row_25 : decode cX7_row 25 = .ok (.i2l, 1) := by decide +kernel
theorem dX7_row_26 : decode cX7_row 26 = .ok (.lconst 0, 1) := by decide +kernel
theorem dX7_row_27 : decode cX7_row 27 = .ok (.ldc2_w 92, 3) := by decide +kernel
theorem dX7_row_30 : decode cX7_row 30 = .ok (.invokestatic 80, 3) := by decide +kernel
theorem dX7_row_33 : decode cX7_row 33 = .ok (.ifCond .ne 10, 3) := by decide +kernel
theorem dX7_row_36 : decode cX7_row 36 = .ok (.aload_n 0, 1) := by decide +kernel
theorem dX7_row_37 : decode cX7_row 37 = .ok (.bipush (-2), 2) := by decide +kernel
theorem dX7_row_39 : decode cX7_row 39 = .ok (.invokevirtual 94, 3) := by decide +kernel
theorem dX7_row_42 : decode cX7_row 42 = .ok (.ireturn, 1) := by decide +kernel
theorem dX7_row_43 : decode cX7_row 43 = .ok (.aload_n 0, 1) := by decide +kernel
theorem dX7_row_44 : decode cX7_row 44 = .ok (.getfield 7, 3) := by decide +kernel
theorem dX7_row_47 : decode cX7_row 47 = .ok (.iload_n 1, 1) := by decide +kernel
theorem dX7_row_48 : decode cX7_row 48 = .ok (.iconst 1, 1) := by decide +kernel
theorem dX7_row_49 : decode cX7_row 49 = .ok (.iastore, 1) := by decide +kernel
theorem dX7_row_50 : decode cX7_row 50 = .ok (.aload_n 0, 1) := by decide +kernel
theorem dX7_row_51 : decode cX7_row 51 = .ok (.getfield 13, 3) := by decide +kernel
theorem dX7_row_54 : decode cX7_row 54 = .ok (.iload_n 1, 1) := by decide +kernel
theorem dX7_row_55 : decode cX7_row 55 = .ok (.iload_n 2, 1) := by decide +kernel
theorem dX7_row_56 : decode cX7_row 56 = .ok (.iastore, 1) := by decide +kernel
theorem dX7_row_57 : decode cX7_row 57 = .ok (.aload_n 0, 1) := by decide +kernel
theorem dX7_row_58 : decode cX7_row 58 = .ok (.getfield 16, 3) := by decide +kernel
theorem dX7_row_61 : decode cX7_row 61 = .ok (.iload_n 1, 1) := by decide +kernel
theorem dX7_row_62 : decode cX7_row 62 = .ok (.iload_n 3, 1) := by decide +kernel
theorem dX7_row_63 : decode cX7_row 63 = .ok (.iastore, 1) := by decide +kernel
theorem dX7_row_64 : decode cX7_row 64 = .ok (.iconst 0, 1) := by decide +kernel
theorem dX7_row_65 : decode cX7_row 65 = .ok (.istore 4, 2) := by decide +kernel
theorem dX7_row_67 : decode cX7_row 67 = .ok (.iload 4, 2) := by decide +kernel
theorem dX7_row_69 : decode cX7_row 69 = .ok (.bipush 40, 2) := by decide +kernel
theorem dX7_row_71 : decode cX7_row 71 = .ok (.if_icmp .ge 19, 3) := by decide +kernel
theorem dX7_row_74 : decode cX7_row 74 = .ok (.aload_n 0, 1) := by decide +kernel
theorem dX7_row_75 : decode cX7_row 75 = .ok (.getfield 21, 3) := by decide +kernel
theorem dX7_row_78 : decode cX7_row 78 = .ok (.iload_n 1, 1) := by decide +kernel
theorem dX7_row_79 : decode cX7_row 79 = .ok (.aaload, 1) := by decide +kernel
theorem dX7_row_80 : decode cX7_row 80 = .ok (.iload 4, 2) := by decide +kernel
theorem dX7_row_82 : decode cX7_row 82 = .ok (.lconst 0, 1) := by decide +kernel
theorem dX7_row_83 : decode cX7_row 83 = .ok (.lastore, 1) := by decide +kernel
theorem dX7_row_84 : decode cX7_row 84 = .ok (.iinc 4 1, 3) := by decide +kernel
theorem dX7_row_87 : decode cX7_row 87 = .ok (.goto (-20), 3) := by decide +kernel
theorem dX7_row_90 : decode cX7_row 90 = .ok (.iconst 1, 1) := by decide +kernel
theorem dX7_row_91 : decode cX7_row 91 = .ok (.ireturn, 1) := by decide +kernel
theorem dX7_fit_0 : decode cX7_fit 0 = .ok (.iload_n 0, 1) := by decide +kernel
theorem dX7_fit_1 : decode cX7_fit 1 = .ok (.tableswitch 47 0 3 #[31, 36, 41, 45], 31) := by decide +kernel
theorem dX7_fit_32 : decode cX7_fit 32 = .ok (.lload_n 1, 1) := by decide +kernel
theorem dX7_fit_33 : decode cX7_fit 33 = .ok (.l2i, 1) := by decide +kernel
theorem dX7_fit_34 : decode cX7_fit 34 = .ok (.i2b, 1) := by decide +kernel
theorem dX7_fit_35 : decode cX7_fit 35 = .ok (.i2l, 1) := by decide +kernel
theorem dX7_fit_36 : decode cX7_fit 36 = .ok (.lreturn, 1) := by decide +kernel
theorem dX7_fit_37 : decode cX7_fit 37 = .ok (.lload_n 1, 1) := by decide +kernel
theorem dX7_fit_38 : decode cX7_fit 38 = .ok (.l2i, 1) := by decide +kernel
theorem dX7_fit_39 : decode cX7_fit 39 = .ok (.i2s, 1) := by decide +kernel
theorem dX7_fit_40 : decode cX7_fit 40 = .ok (.i2l, 1) := by decide +kernel
theorem dX7_fit_41 : decode cX7_fit 41 = .ok (.lreturn, 1) := by decide +kernel
theorem dX7_fit_42 : decode cX7_fit 42 = .ok (.lload_n 1, 1) := by decide +kernel
theorem dX7_fit_43 : decode cX7_fit 43 = .ok (.l2i, 1) := by decide +kernel
theorem dX7_fit_44 : decode cX7_fit 44 = .ok (.i2l, 1) := by decide +kernel
theorem dX7_fit_45 : decode cX7_fit 45 = .ok (.lreturn, 1) := by decide +kernel
theorem dX7_fit_46 : decode cX7_fit 46 = .ok (.lload_n 1, 1) := by decide +kernel
theorem dX7_fit_47 : decode cX7_fit 47 = .ok (.lreturn, 1) := by decide +kernel
theorem dX7_fit_48 : decode cX7_fit 48 = .ok (.lload_n 1, 1) := by decide +kernel
theorem dX7_fit_49 : decode cX7_fit 49 = .ok (.lconst 0, 1) := by decide +kernel
theorem dX7_fit_50 : decode cX7_fit 50 = .ok (.lcmp, 1) := by decide +kernel
theorem dX7_fit_51 : decode cX7_fit 51 = .ok (.ifCond .eq 7, 3) := by decide +kernel
theorem dX7_fit_54 : decode cX7_fit 54 = .ok (.lconst 1, 1) := by decide +kernel
theorem dX7_fit_55 : decode cX7_fit 55 = .ok (.goto 4, 3) := by decide +kernel
theorem dX7_fit_58 : decode cX7_fit 58 = .ok (.lconst 0, 1) := by decide +kernel
theorem dX7_fit_59 : decode cX7_fit 59 = .ok (.lreturn, 1) := by decide +kernel
set_option maxRecDepth 20000 in
theorem ggX7_noRow_X7_in : GoodIn wsX7_noRow wsX7_in := goodIn_r _ [6] (by decide +kernel) (by decide +kernel)
set_option maxRecDepth 20000 in
theorem gX7_noRow_X7_in : GoodIn wsX7_noRow (va_wsS RX7 80 yX7_in wsX7_in) := goodIn_app (goodIn_of _ (by decide +kernel)) ggX7_noRow_X7_in
set_option maxRecDepth 20000 in
theorem ggX7_noRow_X7_refuse : GoodIn wsX7_noRow wsX7_refuse := goodIn_r _ [10, 11, 12, 13, 14, 15, 16, 17, 18, 19, 20, 21, 22, 23, 24, 25, 26, 27, 28, 29, 30, 31, 32, 33, 34, 35, 36, 37, 38, 39, 40, 41, 42, 43, 44] (by decide +kernel) (by decide +kernel)
set_option maxRecDepth 20000 in
theorem gX7_noRow_X7_refuse : GoodIn wsX7_noRow (wsV RX7 94 RX7 yX7_refuse wsX7_refuse) := goodIn_app (goodIn_of _ (by decide +kernel)) ggX7_noRow_X7_refuse
theorem dX7_noRow_0 : decode cX7_noRow 0 = .ok (.iload_n 1, 1) := by decide +kernel
theorem dX7_noRow_1 : decode cX7_noRow 1 = .ok (.i2l, 1) := by decide +kernel
theorem dX7_noRow_2 : decode cX7_noRow 2 = .ok (.lconst 0, 1) := by decide +kernel
theorem dX7_noRow_3 : decode cX7_noRow 3 = .ok (.ldc2_w 88, 3) := by decide +kernel
theorem dX7_noRow_6 : decode cX7_noRow 6 = .ok (.invokestatic 80, 3) := by decide +kernel
theorem dX7_noRow_9 : decode cX7_noRow 9 = .ok (.ifCond .ne 10, 3) := by decide +kernel
theorem dX7_noRow_12 : decode cX7_noRow 12 = .ok (.aload_n 0, 1) := by decide +kernel
theorem dX7_noRow_13 : decode cX7_noRow 13 = .ok (.bipush (-2), 2) := by decide +kernel
theorem dX7_noRow_15 : decode cX7_noRow 15 = .ok (.invokevirtual 94, 3) := by decide +kernel
theorem dX7_noRow_18 : decode cX7_noRow 18 = .ok (.ireturn, 1) := by decide +kernel
theorem dX7_noRow_19 : decode cX7_noRow 19 = .ok (.aload_n 0, 1) := by decide +kernel
theorem dX7_noRow_20 : decode cX7_noRow 20 = .ok (.getfield 7, 3) := by decide +kernel
theorem dX7_noRow_23 : decode cX7_noRow 23 = .ok (.iload_n 1, 1) := by decide +kernel
theorem dX7_noRow_24 : decode cX7_noRow 24 = .ok (.iaload, 1) := by decide +kernel
theorem dX7_noRow_25 : decode cX7_noRow 25 = .ok (.iconst 2, 1) := by decide +kernel
theorem dX7_noRow_26 : decode cX7_noRow 26 = .ok (.if_icmp .ne 10, 3) := by decide +kernel
theorem dX7_noRow_29 : decode cX7_noRow 29 = .ok (.aload_n 0, 1) := by decide +kernel
theorem dX7_noRow_30 : decode cX7_noRow 30 = .ok (.bipush (-3), 2) := by decide +kernel
theorem dX7_noRow_32 : decode cX7_noRow 32 = .ok (.invokevirtual 94, 3) := by decide +kernel
theorem dX7_noRow_35 : decode cX7_noRow 35 = .ok (.ireturn, 1) := by decide +kernel
theorem dX7_noRow_36 : decode cX7_noRow 36 = .ok (.aload_n 0, 1) := by decide +kernel
theorem dX7_noRow_37 : decode cX7_noRow 37 = .ok (.getfield 7, 3) := by decide +kernel
theorem dX7_noRow_40 : decode cX7_noRow 40 = .ok (.iload_n 1, 1) := by decide +kernel
theorem dX7_noRow_41 : decode cX7_noRow 41 = .ok (.iaload, 1) := by decide +kernel
theorem dX7_noRow_42 : decode cX7_noRow 42 = .ok (.ifCond .ne 12, 3) := by decide +kernel
theorem dX7_noRow_45 : decode cX7_noRow 45 = .ok (.aload_n 0, 1) := by decide +kernel
theorem dX7_noRow_46 : decode cX7_noRow 46 = .ok (.bipush (-4), 2) := by decide +kernel
theorem dX7_noRow_48 : decode cX7_noRow 48 = .ok (.invokevirtual 94, 3) := by decide +kernel
theorem dX7_noRow_51 : decode cX7_noRow 51 = .ok (.goto 4, 3) := by decide +kernel
theorem dX7_noRow_54 : decode cX7_noRow 54 = .ok (.iconst 0, 1) := by decide +kernel
theorem dX7_noRow_55 : decode cX7_noRow 55 = .ok (.ireturn, 1) := by decide +kernel
set_option maxRecDepth 20000 in
theorem ggX7_set_X7_noRow : GoodIn wsX7_set wsX7_noRow := goodIn_r _ [8, 9, 10, 11, 12, 7, 13, 14, 15, 16, 17, 18, 22, 23, 24, 25, 26, 27, 28, 29, 30, 31, 32, 33, 34, 35, 36, 37, 38, 39, 40, 41, 42, 43, 44, 45, 46, 47, 48, 49, 50, 51, 52, 53, 54] (by decide +kernel) (by decide +kernel)
set_option maxRecDepth 20000 in
theorem gX7_set_X7_noRow : GoodIn wsX7_set (wsV RX7 98 RX7 yX7_noRow wsX7_noRow) := goodIn_app (goodIn_of _ (by decide +kernel)) ggX7_set_X7_noRow
set_option maxRecDepth 20000 in
theorem ggX7_set_X7_in : GoodIn wsX7_set wsX7_in := goodIn_r _ [13] (by decide +kernel) (by decide +kernel)
set_option maxRecDepth 20000 in
theorem gX7_set_X7_in : GoodIn wsX7_set (va_wsS RX7 80 yX7_in wsX7_in) := goodIn_app (goodIn_of _ (by decide +kernel)) ggX7_set_X7_in
set_option maxRecDepth 20000 in
theorem ggX7_set_X7_refuse : GoodIn wsX7_set wsX7_refuse := goodIn_r _ [17, 18, 22, 23, 24, 25, 26, 27, 28, 29, 30, 31, 32, 33, 34, 35, 36, 37, 38, 39, 40, 41, 42, 43, 44, 45, 46, 47, 48, 49, 50, 51, 52, 53, 54] (by decide +kernel) (by decide +kernel)
set_option maxRecDepth 20000 in
theorem gX7_set_X7_refuse : GoodIn wsX7_set (wsV RX7 94 RX7 yX7_refuse wsX7_refuse) := goodIn_app (goodIn_of _ (by decide +kernel)) ggX7_set_X7_refuse
set_option maxRecDepth 20000 in
theorem ggX7_set_X7_fit : GoodIn wsX7_set wsX7_fit := goodIn_r _ [21] (by decide +kernel) (by decide +kernel)
set_option maxRecDepth 20000 in
theorem gX7_set_X7_fit : GoodIn wsX7_set (va_wsS RX7 101 yX7_fit wsX7_fit) := goodIn_app (goodIn_of _ (by decide +kernel)) ggX7_set_X7_fit
theorem dX7_set_0 : decode cX7_set 0 = .ok (.aload_n 0, 1) := by decide +kernel
theorem dX7_set_1 : decode cX7_set 1 = .ok (.iload_n 1, 1) := by decide +kernel
theorem dX7_set_2 : decode cX7_set 2 = .ok (.invokevirtual 98, 3) := by decide +kernel
theorem dX7_set_5 : decode cX7_set 5 = .ok (.istore 5, 2) := by decide +kernel
theorem dX7_set_7 : decode cX7_set 7 = .ok (.iload 5, 2) := by decide +kernel
theorem dX7_set_9 : decode cX7_set 9 = .ok (.ifCond .eq 6, 3) := by decide +kernel
theorem dX7_set_12 : decode cX7_set 12 = .ok (.iload 5, 2) := by decide +kernel
theorem dX7_set_14 : decode cX7_set 14 = .ok (.ireturn, 1) := by decide +kernel
theorem dX7_set_15 : decode cX7_set 15 = .ok (.iload_n 2, 1) := by decide +kernel
theorem dX7_set_16 : decode cX7_set 16 = .ok (.i2l, 1) := by decide +kernel
theorem dX7_set_17 : decode cX7_set 17 = .ok (.lconst 0, 1) := by decide +kernel
theorem dX7_set_18 : decode cX7_set 18 = .ok (.aload_n 0, 1) := by decide +kernel
theorem dX7_set_19 : decode cX7_set 19 = .ok (.getfield 16, 3) := by decide +kernel
theorem dX7_set_22 : decode cX7_set 22 = .ok (.iload_n 1, 1) := by decide +kernel
theorem dX7_set_23 : decode cX7_set 23 = .ok (.iaload, 1) := by decide +kernel
theorem dX7_set_24 : decode cX7_set 24 = .ok (.iconst 1, 1) := by decide +kernel
theorem dX7_set_25 : decode cX7_set 25 = .ok (.isub, 1) := by decide +kernel
theorem dX7_set_26 : decode cX7_set 26 = .ok (.i2l, 1) := by decide +kernel
theorem dX7_set_27 : decode cX7_set 27 = .ok (.invokestatic 80, 3) := by decide +kernel
theorem dX7_set_30 : decode cX7_set 30 = .ok (.ifCond .ne 10, 3) := by decide +kernel
theorem dX7_set_33 : decode cX7_set 33 = .ok (.aload_n 0, 1) := by decide +kernel
theorem dX7_set_34 : decode cX7_set 34 = .ok (.bipush (-2), 2) := by decide +kernel
theorem dX7_set_36 : decode cX7_set 36 = .ok (.invokevirtual 94, 3) := by decide +kernel
theorem dX7_set_39 : decode cX7_set 39 = .ok (.ireturn, 1) := by decide +kernel
theorem dX7_set_40 : decode cX7_set 40 = .ok (.aload_n 0, 1) := by decide +kernel
theorem dX7_set_41 : decode cX7_set 41 = .ok (.getfield 21, 3) := by decide +kernel
theorem dX7_set_44 : decode cX7_set 44 = .ok (.iload_n 1, 1) := by decide +kernel
theorem dX7_set_45 : decode cX7_set 45 = .ok (.aaload, 1) := by decide +kernel
theorem dX7_set_46 : decode cX7_set 46 = .ok (.iload_n 2, 1) := by decide +kernel
theorem dX7_set_47 : decode cX7_set 47 = .ok (.aload_n 0, 1) := by decide +kernel
theorem dX7_set_48 : decode cX7_set 48 = .ok (.getfield 13, 3) := by decide +kernel
theorem dX7_set_51 : decode cX7_set 51 = .ok (.iload_n 1, 1) := by decide +kernel
theorem dX7_set_52 : decode cX7_set 52 = .ok (.iaload, 1) := by decide +kernel
theorem dX7_set_53 : decode cX7_set 53 = .ok (.lload_n 3, 1) := by decide +kernel
theorem dX7_set_54 : decode cX7_set 54 = .ok (.invokestatic 101, 3) := by decide +kernel
theorem dX7_set_57 : decode cX7_set 57 = .ok (.lastore, 1) := by decide +kernel
theorem dX7_set_58 : decode cX7_set 58 = .ok (.iconst 1, 1) := by decide +kernel
theorem dX7_set_59 : decode cX7_set 59 = .ok (.ireturn, 1) := by decide +kernel
set_option maxRecDepth 20000 in
theorem ggX7_copy_X7_in : GoodIn wsX7_copy wsX7_in := goodIn_r _ [10] (by decide +kernel) (by decide +kernel)
set_option maxRecDepth 20000 in
theorem gX7_copy_X7_in : GoodIn wsX7_copy (va_wsS RX7 80 yX7_in wsX7_in) := goodIn_app (goodIn_of _ (by decide +kernel)) ggX7_copy_X7_in
set_option maxRecDepth 20000 in
theorem ggX7_copy_X7_refuse : GoodIn wsX7_copy wsX7_refuse := goodIn_r _ [14, 15, 16, 17, 18, 19, 20, 21, 22, 23, 24, 25, 26, 27, 28, 29, 30, 31, 32, 33, 34, 35, 36, 37, 38, 39, 40, 41, 42, 43, 44, 45, 46, 47, 48] (by decide +kernel) (by decide +kernel)
set_option maxRecDepth 20000 in
theorem gX7_copy_X7_refuse : GoodIn wsX7_copy (wsV RX7 94 RX7 yX7_refuse wsX7_refuse) := goodIn_app (goodIn_of _ (by decide +kernel)) ggX7_copy_X7_refuse
theorem dX7_copy_0 : decode cX7_copy 0 = .ok (.iload_n 1, 1) := by decide +kernel
theorem dX7_copy_1 : decode cX7_copy 1 = .ok (.i2l, 1) := by decide +kernel
theorem dX7_copy_2 : decode cX7_copy 2 = .ok (.lconst 0, 1) := by decide +kernel
theorem dX7_copy_3 : decode cX7_copy 3 = .ok (.ldc2_w 88, 3) := by decide +kernel
theorem dX7_copy_6 : decode cX7_copy 6 = .ok (.invokestatic 80, 3) := by decide +kernel
theorem dX7_copy_9 : decode cX7_copy 9 = .ok (.ifCond .eq 15, 3) := by decide +kernel
theorem dX7_copy_12 : decode cX7_copy 12 = .ok (.iload_n 2, 1) := by decide +kernel
theorem dX7_copy_13 : decode cX7_copy 13 = .ok (.i2l, 1) := by decide +kernel
theorem dX7_copy_14 : decode cX7_copy 14 = .ok (.lconst 0, 1) := by decide +kernel
theorem dX7_copy_15 : decode cX7_copy 15 = .ok (.ldc2_w 88, 3) := by decide +kernel
theorem dX7_copy_18 : decode cX7_copy 18 = .ok (.invokestatic 80, 3) := by decide +kernel
theorem dX7_copy_21 : decode cX7_copy 21 = .ok (.ifCond .ne 10, 3) := by decide +kernel
theorem dX7_copy_24 : decode cX7_copy 24 = .ok (.aload_n 0, 1) := by decide +kernel
theorem dX7_copy_25 : decode cX7_copy 25 = .ok (.bipush (-2), 2) := by decide +kernel
theorem dX7_copy_27 : decode cX7_copy 27 = .ok (.invokevirtual 94, 3) := by decide +kernel
theorem dX7_copy_30 : decode cX7_copy 30 = .ok (.ireturn, 1) := by decide +kernel
theorem dX7_copy_31 : decode cX7_copy 31 = .ok (.aload_n 0, 1) := by decide +kernel
theorem dX7_copy_32 : decode cX7_copy 32 = .ok (.getfield 7, 3) := by decide +kernel
theorem dX7_copy_35 : decode cX7_copy 35 = .ok (.iload_n 1, 1) := by decide +kernel
theorem dX7_copy_36 : decode cX7_copy 36 = .ok (.iaload, 1) := by decide +kernel
theorem dX7_copy_37 : decode cX7_copy 37 = .ok (.iconst 2, 1) := by decide +kernel
theorem dX7_copy_38 : decode cX7_copy 38 = .ok (.if_icmp .eq 48, 3) := by decide +kernel
theorem dX7_copy_41 : decode cX7_copy 41 = .ok (.aload_n 0, 1) := by decide +kernel
theorem dX7_copy_42 : decode cX7_copy 42 = .ok (.getfield 7, 3) := by decide +kernel
theorem dX7_copy_45 : decode cX7_copy 45 = .ok (.iload_n 2, 1) := by decide +kernel
theorem dX7_copy_46 : decode cX7_copy 46 = .ok (.iaload, 1) := by decide +kernel
theorem dX7_copy_47 : decode cX7_copy 47 = .ok (.iconst 2, 1) := by decide +kernel
theorem dX7_copy_48 : decode cX7_copy 48 = .ok (.if_icmp .eq 38, 3) := by decide +kernel
theorem dX7_copy_51 : decode cX7_copy 51 = .ok (.aload_n 0, 1) := by decide +kernel
theorem dX7_copy_52 : decode cX7_copy 52 = .ok (.getfield 7, 3) := by decide +kernel
theorem dX7_copy_55 : decode cX7_copy 55 = .ok (.iload_n 1, 1) := by decide +kernel
theorem dX7_copy_56 : decode cX7_copy 56 = .ok (.iaload, 1) := by decide +kernel
theorem dX7_copy_57 : decode cX7_copy 57 = .ok (.iconst 1, 1) := by decide +kernel
theorem dX7_copy_58 : decode cX7_copy 58 = .ok (.if_icmp .ne 35, 3) := by decide +kernel
theorem dX7_copy_61 : decode cX7_copy 61 = .ok (.aload_n 0, 1) := by decide +kernel
theorem dX7_copy_62 : decode cX7_copy 62 = .ok (.getfield 7, 3) := by decide +kernel
theorem dX7_copy_65 : decode cX7_copy 65 = .ok (.iload_n 2, 1) := by decide +kernel
theorem dX7_copy_66 : decode cX7_copy 66 = .ok (.iaload, 1) := by decide +kernel
theorem dX7_copy_67 : decode cX7_copy 67 = .ok (.iconst 1, 1) := by decide +kernel
theorem dX7_copy_68 : decode cX7_copy 68 = .ok (.if_icmp .ne 25, 3) := by decide +kernel
theorem dX7_copy_71 : decode cX7_copy 71 = .ok (.aload_n 0, 1) := by decide +kernel
theorem dX7_copy_72 : decode cX7_copy 72 = .ok (.getfield 13, 3) := by decide +kernel
theorem dX7_copy_75 : decode cX7_copy 75 = .ok (.iload_n 1, 1) := by decide +kernel
theorem dX7_copy_76 : decode cX7_copy 76 = .ok (.iaload, 1) := by decide +kernel
theorem dX7_copy_77 : decode cX7_copy 77 = .ok (.aload_n 0, 1) := by decide +kernel
theorem dX7_copy_78 : decode cX7_copy 78 = .ok (.getfield 13, 3) := by decide +kernel
theorem dX7_copy_81 : decode cX7_copy 81 = .ok (.iload_n 2, 1) := by decide +kernel
theorem dX7_copy_82 : decode cX7_copy 82 = .ok (.iaload, 1) := by decide +kernel
theorem dX7_copy_83 : decode cX7_copy 83 = .ok (.if_icmp .eq 10, 3) := by decide +kernel
theorem dX7_copy_86 : decode cX7_copy 86 = .ok (.aload_n 0, 1) := by decide +kernel
theorem dX7_copy_87 : decode cX7_copy 87 = .ok (.bipush (-3), 2) := by decide +kernel
theorem dX7_copy_89 : decode cX7_copy 89 = .ok (.invokevirtual 94, 3) := by decide +kernel
theorem dX7_copy_92 : decode cX7_copy 92 = .ok (.ireturn, 1) := by decide +kernel
theorem dX7_copy_93 : decode cX7_copy 93 = .ok (.aload_n 0, 1) := by decide +kernel
theorem dX7_copy_94 : decode cX7_copy 94 = .ok (.getfield 7, 3) := by decide +kernel
theorem dX7_copy_97 : decode cX7_copy 97 = .ok (.iload_n 1, 1) := by decide +kernel
theorem dX7_copy_98 : decode cX7_copy 98 = .ok (.iaload, 1) := by decide +kernel
theorem dX7_copy_99 : decode cX7_copy 99 = .ok (.ifCond .eq 12, 3) := by decide +kernel
theorem dX7_copy_102 : decode cX7_copy 102 = .ok (.aload_n 0, 1) := by decide +kernel
theorem dX7_copy_103 : decode cX7_copy 103 = .ok (.getfield 7, 3) := by decide +kernel
theorem dX7_copy_106 : decode cX7_copy 106 = .ok (.iload_n 2, 1) := by decide +kernel
theorem dX7_copy_107 : decode cX7_copy 107 = .ok (.iaload, 1) := by decide +kernel
theorem dX7_copy_108 : decode cX7_copy 108 = .ok (.ifCond .ne 10, 3) := by decide +kernel
theorem dX7_copy_111 : decode cX7_copy 111 = .ok (.aload_n 0, 1) := by decide +kernel
theorem dX7_copy_112 : decode cX7_copy 112 = .ok (.bipush (-4), 2) := by decide +kernel
theorem dX7_copy_114 : decode cX7_copy 114 = .ok (.invokevirtual 94, 3) := by decide +kernel
theorem dX7_copy_117 : decode cX7_copy 117 = .ok (.ireturn, 1) := by decide +kernel
theorem dX7_copy_118 : decode cX7_copy 118 = .ok (.iload 5, 2) := by decide +kernel
theorem dX7_copy_120 : decode cX7_copy 120 = .ok (.ifCond .lt 61, 3) := by decide +kernel
theorem dX7_copy_123 : decode cX7_copy 123 = .ok (.iload_n 3, 1) := by decide +kernel
theorem dX7_copy_124 : decode cX7_copy 124 = .ok (.ifCond .lt 57, 3) := by decide +kernel
theorem dX7_copy_127 : decode cX7_copy 127 = .ok (.iload 4, 2) := by decide +kernel
theorem dX7_copy_129 : decode cX7_copy 129 = .ok (.ifCond .lt 52, 3) := by decide +kernel
theorem dX7_copy_132 : decode cX7_copy 132 = .ok (.iload 5, 2) := by decide +kernel
theorem dX7_copy_134 : decode cX7_copy 134 = .ok (.aload_n 0, 1) := by decide +kernel
theorem dX7_copy_135 : decode cX7_copy 135 = .ok (.getfield 16, 3) := by decide +kernel
theorem dX7_copy_138 : decode cX7_copy 138 = .ok (.iload_n 1, 1) := by decide +kernel
theorem dX7_copy_139 : decode cX7_copy 139 = .ok (.iaload, 1) := by decide +kernel
theorem dX7_copy_140 : decode cX7_copy 140 = .ok (.if_icmp .gt 41, 3) := by decide +kernel
theorem dX7_copy_143 : decode cX7_copy 143 = .ok (.iload 5, 2) := by decide +kernel
theorem dX7_copy_145 : decode cX7_copy 145 = .ok (.aload_n 0, 1) := by decide +kernel
theorem dX7_copy_146 : decode cX7_copy 146 = .ok (.getfield 16, 3) := by decide +kernel
theorem dX7_copy_149 : decode cX7_copy 149 = .ok (.iload_n 2, 1) := by decide +kernel
theorem dX7_copy_150 : decode cX7_copy 150 = .ok (.iaload, 1) := by decide +kernel
theorem dX7_copy_151 : decode cX7_copy 151 = .ok (.if_icmp .gt 30, 3) := by decide +kernel
theorem dX7_copy_154 : decode cX7_copy 154 = .ok (.iload_n 3, 1) := by decide +kernel
theorem dX7_copy_155 : decode cX7_copy 155 = .ok (.aload_n 0, 1) := by decide +kernel
theorem dX7_copy_156 : decode cX7_copy 156 = .ok (.getfield 16, 3) := by decide +kernel
theorem dX7_copy_159 : decode cX7_copy 159 = .ok (.iload_n 1, 1) := by decide +kernel
theorem dX7_copy_160 : decode cX7_copy 160 = .ok (.iaload, 1) := by decide +kernel
theorem dX7_copy_161 : decode cX7_copy 161 = .ok (.iload 5, 2) := by decide +kernel
theorem dX7_copy_163 : decode cX7_copy 163 = .ok (.isub, 1) := by decide +kernel
theorem dX7_copy_164 : decode cX7_copy 164 = .ok (.if_icmp .gt 17, 3) := by decide +kernel
theorem dX7_copy_167 : decode cX7_copy 167 = .ok (.iload 4, 2) := by decide +kernel
theorem dX7_copy_169 : decode cX7_copy 169 = .ok (.aload_n 0, 1) := by decide +kernel
theorem dX7_copy_170 : decode cX7_copy 170 = .ok (.getfield 16, 3) := by decide +kernel
theorem dX7_copy_173 : decode cX7_copy 173 = .ok (.iload_n 2, 1) := by decide +kernel
theorem dX7_copy_174 : decode cX7_copy 174 = .ok (.iaload, 1) := by decide +kernel
theorem dX7_copy_175 : decode cX7_copy 175 = .ok (.iload 5, 2) := by decide +kernel
theorem dX7_copy_177 : decode cX7_copy 177 = .ok (.isub, 1) := by decide +kernel
theorem dX7_copy_178 : decode cX7_copy 178 = .ok (.if_icmp .le 10, 3) := by decide +kernel
theorem dX7_copy_181 : decode cX7_copy 181 = .ok (.aload_n 0, 1) := by decide +kernel
theorem dX7_copy_182 : decode cX7_copy 182 = .ok (.bipush (-2), 2) := by decide +kernel
theorem dX7_copy_184 : decode cX7_copy 184 = .ok (.invokevirtual 94, 3) := by decide +kernel
theorem dX7_copy_187 : decode cX7_copy 187 = .ok (.ireturn, 1) := by decide +kernel
theorem dX7_copy_188 : decode cX7_copy 188 = .ok (.iconst 0, 1) := by decide +kernel
theorem dX7_copy_189 : decode cX7_copy 189 = .ok (.istore 6, 2) := by decide +kernel
theorem dX7_copy_191 : decode cX7_copy 191 = .ok (.iload 6, 2) := by decide +kernel
theorem dX7_copy_193 : decode cX7_copy 193 = .ok (.iload 5, 2) := by decide +kernel
theorem dX7_copy_195 : decode cX7_copy 195 = .ok (.if_icmp .ge 27, 3) := by decide +kernel
theorem dX7_copy_198 : decode cX7_copy 198 = .ok (.aload_n 0, 1) := by decide +kernel
theorem dX7_copy_199 : decode cX7_copy 199 = .ok (.getfield 24, 3) := by decide +kernel
theorem dX7_copy_202 : decode cX7_copy 202 = .ok (.iload 6, 2) := by decide +kernel
theorem dX7_copy_204 : decode cX7_copy 204 = .ok (.aload_n 0, 1) := by decide +kernel
theorem dX7_copy_205 : decode cX7_copy 205 = .ok (.getfield 21, 3) := by decide +kernel
theorem dX7_copy_208 : decode cX7_copy 208 = .ok (.iload_n 1, 1) := by decide +kernel
theorem dX7_copy_209 : decode cX7_copy 209 = .ok (.aaload, 1) := by decide +kernel
theorem dX7_copy_210 : decode cX7_copy 210 = .ok (.iload_n 3, 1) := by decide +kernel
theorem dX7_copy_211 : decode cX7_copy 211 = .ok (.iload 6, 2) := by decide +kernel
theorem dX7_copy_213 : decode cX7_copy 213 = .ok (.iadd, 1) := by decide +kernel
theorem dX7_copy_214 : decode cX7_copy 214 = .ok (.laload, 1) := by decide +kernel
theorem dX7_copy_215 : decode cX7_copy 215 = .ok (.lastore, 1) := by decide +kernel
theorem dX7_copy_216 : decode cX7_copy 216 = .ok (.iinc 6 1, 3) := by decide +kernel
theorem dX7_copy_219 : decode cX7_copy 219 = .ok (.goto (-28), 3) := by decide +kernel
theorem dX7_copy_222 : decode cX7_copy 222 = .ok (.iconst 0, 1) := by decide +kernel
theorem dX7_copy_223 : decode cX7_copy 223 = .ok (.istore 6, 2) := by decide +kernel
theorem dX7_copy_225 : decode cX7_copy 225 = .ok (.iload 6, 2) := by decide +kernel
theorem dX7_copy_227 : decode cX7_copy 227 = .ok (.iload 5, 2) := by decide +kernel
theorem dX7_copy_229 : decode cX7_copy 229 = .ok (.if_icmp .ge 28, 3) := by decide +kernel
theorem dX7_copy_232 : decode cX7_copy 232 = .ok (.aload_n 0, 1) := by decide +kernel
theorem dX7_copy_233 : decode cX7_copy 233 = .ok (.getfield 21, 3) := by decide +kernel
theorem dX7_copy_236 : decode cX7_copy 236 = .ok (.iload_n 2, 1) := by decide +kernel
theorem dX7_copy_237 : decode cX7_copy 237 = .ok (.aaload, 1) := by decide +kernel
theorem dX7_copy_238 : decode cX7_copy 238 = .ok (.iload 4, 2) := by decide +kernel
theorem dX7_copy_240 : decode cX7_copy 240 = .ok (.iload 6, 2) := by decide +kernel
theorem dX7_copy_242 : decode cX7_copy 242 = .ok (.iadd, 1) := by decide +kernel
theorem dX7_copy_243 : decode cX7_copy 243 = .ok (.aload_n 0, 1) := by decide +kernel
theorem dX7_copy_244 : decode cX7_copy 244 = .ok (.getfield 24, 3) := by decide +kernel
theorem dX7_copy_247 : decode cX7_copy 247 = .ok (.iload 6, 2) := by decide +kernel
theorem dX7_copy_249 : decode cX7_copy 249 = .ok (.laload, 1) := by decide +kernel
theorem dX7_copy_250 : decode cX7_copy 250 = .ok (.lastore, 1) := by decide +kernel
theorem dX7_copy_251 : decode cX7_copy 251 = .ok (.iinc 6 1, 3) := by decide +kernel
theorem dX7_copy_254 : decode cX7_copy 254 = .ok (.goto (-29), 3) := by decide +kernel
theorem dX7_copy_257 : decode cX7_copy 257 = .ok (.iload 5, 2) := by decide +kernel
theorem dX7_copy_259 : decode cX7_copy 259 = .ok (.ireturn, 1) := by decide +kernel
set_option maxRecDepth 20000 in
theorem ggX7_element_X7_in : GoodIn wsX7_element wsX7_in := goodIn_r _ [8] (by decide +kernel) (by decide +kernel)
set_option maxRecDepth 20000 in
theorem gX7_element_X7_in : GoodIn wsX7_element (va_wsS RX7 80 yX7_in wsX7_in) := goodIn_app (goodIn_of _ (by decide +kernel)) ggX7_element_X7_in
theorem dX7_element_0 : decode cX7_element 0 = .ok (.iload_n 1, 1) := by decide +kernel
theorem dX7_element_1 : decode cX7_element 1 = .ok (.i2l, 1) := by decide +kernel
theorem dX7_element_2 : decode cX7_element 2 = .ok (.lconst 0, 1) := by decide +kernel
theorem dX7_element_3 : decode cX7_element 3 = .ok (.ldc2_w 88, 3) := by decide +kernel
theorem dX7_element_6 : decode cX7_element 6 = .ok (.invokestatic 80, 3) := by decide +kernel
theorem dX7_element_9 : decode cX7_element 9 = .ok (.ifCond .eq 42, 3) := by decide +kernel
theorem dX7_element_12 : decode cX7_element 12 = .ok (.aload_n 0, 1) := by decide +kernel
theorem dX7_element_13 : decode cX7_element 13 = .ok (.getfield 7, 3) := by decide +kernel
theorem dX7_element_16 : decode cX7_element 16 = .ok (.iload_n 1, 1) := by decide +kernel
theorem dX7_element_17 : decode cX7_element 17 = .ok (.iaload, 1) := by decide +kernel
theorem dX7_element_18 : decode cX7_element 18 = .ok (.iconst 1, 1) := by decide +kernel
theorem dX7_element_19 : decode cX7_element 19 = .ok (.if_icmp .ne 32, 3) := by decide +kernel
theorem dX7_element_22 : decode cX7_element 22 = .ok (.iload_n 2, 1) := by decide +kernel
theorem dX7_element_23 : decode cX7_element 23 = .ok (.i2l, 1) := by decide +kernel
theorem dX7_element_24 : decode cX7_element 24 = .ok (.lconst 0, 1) := by decide +kernel
theorem dX7_element_25 : decode cX7_element 25 = .ok (.aload_n 0, 1) := by decide +kernel
theorem dX7_element_26 : decode cX7_element 26 = .ok (.getfield 16, 3) := by decide +kernel
theorem dX7_element_29 : decode cX7_element 29 = .ok (.iload_n 1, 1) := by decide +kernel
theorem dX7_element_30 : decode cX7_element 30 = .ok (.iaload, 1) := by decide +kernel
theorem dX7_element_31 : decode cX7_element 31 = .ok (.iconst 1, 1) := by decide +kernel
theorem dX7_element_32 : decode cX7_element 32 = .ok (.isub, 1) := by decide +kernel
theorem dX7_element_33 : decode cX7_element 33 = .ok (.i2l, 1) := by decide +kernel
theorem dX7_element_34 : decode cX7_element 34 = .ok (.invokestatic 80, 3) := by decide +kernel
theorem dX7_element_37 : decode cX7_element 37 = .ok (.ifCond .eq 14, 3) := by decide +kernel
theorem dX7_element_40 : decode cX7_element 40 = .ok (.aload_n 0, 1) := by decide +kernel
theorem dX7_element_41 : decode cX7_element 41 = .ok (.getfield 21, 3) := by decide +kernel
theorem dX7_element_44 : decode cX7_element 44 = .ok (.iload_n 1, 1) := by decide +kernel
theorem dX7_element_45 : decode cX7_element 45 = .ok (.aaload, 1) := by decide +kernel
theorem dX7_element_46 : decode cX7_element 46 = .ok (.iload_n 2, 1) := by decide +kernel
theorem dX7_element_47 : decode cX7_element 47 = .ok (.laload, 1) := by decide +kernel
theorem dX7_element_48 : decode cX7_element 48 = .ok (.goto 4, 3) := by decide +kernel
theorem dX7_element_51 : decode cX7_element 51 = .ok (.lconst 0, 1) := by decide +kernel
theorem dX7_element_52 : decode cX7_element 52 = .ok (.lreturn, 1) := by decide +kernel
set_option maxRecDepth 20000 in
theorem ggX7_holds_X7_in : GoodIn wsX7_holds wsX7_in := goodIn_r _ [8] (by decide +kernel) (by decide +kernel)
set_option maxRecDepth 20000 in
theorem gX7_holds_X7_in : GoodIn wsX7_holds (va_wsS RX7 80 yX7_in wsX7_in) := goodIn_app (goodIn_of _ (by decide +kernel)) ggX7_holds_X7_in
theorem dX7_holds_0 : decode cX7_holds 0 = .ok (.iload_n 1, 1) := by decide +kernel
theorem dX7_holds_1 : decode cX7_holds 1 = .ok (.i2l, 1) := by decide +kernel
theorem dX7_holds_2 : decode cX7_holds 2 = .ok (.lconst 0, 1) := by decide +kernel
theorem dX7_holds_3 : decode cX7_holds 3 = .ok (.ldc2_w 88, 3) := by decide +kernel
theorem dX7_holds_6 : decode cX7_holds 6 = .ok (.invokestatic 80, 3) := by decide +kernel
theorem dX7_holds_9 : decode cX7_holds 9 = .ok (.ifCond .eq 12, 3) := by decide +kernel
theorem dX7_holds_12 : decode cX7_holds 12 = .ok (.aload_n 0, 1) := by decide +kernel
theorem dX7_holds_13 : decode cX7_holds 13 = .ok (.getfield 7, 3) := by decide +kernel
theorem dX7_holds_16 : decode cX7_holds 16 = .ok (.iload_n 1, 1) := by decide +kernel
theorem dX7_holds_17 : decode cX7_holds 17 = .ok (.iaload, 1) := by decide +kernel
theorem dX7_holds_18 : decode cX7_holds 18 = .ok (.ifCond .ne 5, 3) := by decide +kernel
theorem dX7_holds_21 : decode cX7_holds 21 = .ok (.iconst (-1), 1) := by decide +kernel
theorem dX7_holds_22 : decode cX7_holds 22 = .ok (.ireturn, 1) := by decide +kernel
theorem dX7_holds_23 : decode cX7_holds 23 = .ok (.aload_n 0, 1) := by decide +kernel
theorem dX7_holds_24 : decode cX7_holds 24 = .ok (.getfield 7, 3) := by decide +kernel
theorem dX7_holds_27 : decode cX7_holds 27 = .ok (.iload_n 1, 1) := by decide +kernel
theorem dX7_holds_28 : decode cX7_holds 28 = .ok (.iaload, 1) := by decide +kernel
theorem dX7_holds_29 : decode cX7_holds 29 = .ok (.iconst 1, 1) := by decide +kernel
theorem dX7_holds_30 : decode cX7_holds 30 = .ok (.if_icmp .ne 12, 3) := by decide +kernel
theorem dX7_holds_33 : decode cX7_holds 33 = .ok (.aload_n 0, 1) := by decide +kernel
theorem dX7_holds_34 : decode cX7_holds 34 = .ok (.getfield 13, 3) := by decide +kernel
theorem dX7_holds_37 : decode cX7_holds 37 = .ok (.iload_n 1, 1) := by decide +kernel
theorem dX7_holds_38 : decode cX7_holds 38 = .ok (.iaload, 1) := by decide +kernel
theorem dX7_holds_39 : decode cX7_holds 39 = .ok (.goto 12, 3) := by decide +kernel
theorem dX7_holds_42 : decode cX7_holds 42 = .ok (.bipush 10, 2) := by decide +kernel
theorem dX7_holds_44 : decode cX7_holds 44 = .ok (.aload_n 0, 1) := by decide +kernel
theorem dX7_holds_45 : decode cX7_holds 45 = .ok (.getfield 28, 3) := by decide +kernel
theorem dX7_holds_48 : decode cX7_holds 48 = .ok (.iload_n 1, 1) := by decide +kernel
theorem dX7_holds_49 : decode cX7_holds 49 = .ok (.iaload, 1) := by decide +kernel
theorem dX7_holds_50 : decode cX7_holds 50 = .ok (.iadd, 1) := by decide +kernel
theorem dX7_holds_51 : decode cX7_holds 51 = .ok (.ireturn, 1) := by decide +kernel
set_option maxRecDepth 20000 in
theorem ggX7_show_X7_in : GoodIn wsX7_show wsX7_in := goodIn_r _ [7] (by decide +kernel) (by decide +kernel)
set_option maxRecDepth 20000 in
theorem gX7_show_X7_in : GoodIn wsX7_show (va_wsS RX7 80 yX7_in wsX7_in) := goodIn_app (goodIn_of _ (by decide +kernel)) ggX7_show_X7_in
set_option maxRecDepth 20000 in
theorem ggX7_show_X7_isOne : GoodIn wsX7_show wsX7_isOne := goodIn_r _ [11, 12, 4, 5, 6, 7, 18, 19, 20, 21, 22, 23, 24, 25, 26, 27, 28, 29, 30, 31, 32, 33, 34, 35, 36, 37, 38, 39, 40, 41, 42, 43, 44, 45, 46, 47, 48, 49, 50] (by decide +kernel) (by decide +kernel)
set_option maxRecDepth 20000 in
theorem gX7_show_X7_isOne : GoodIn wsX7_show (wsV RX7 105 RX7 yX7_isOne wsX7_isOne) := goodIn_app (goodIn_of _ (by decide +kernel)) ggX7_show_X7_isOne
set_option maxRecDepth 20000 in
theorem ggX7_show_X7_refuse : GoodIn wsX7_show wsX7_refuse := goodIn_r _ [16, 17, 18, 19, 20, 21, 22, 23, 24, 25, 26, 27, 28, 29, 30, 31, 32, 33, 34, 35, 36, 37, 38, 39, 40, 41, 42, 43, 44, 45, 46, 47, 48, 49, 50] (by decide +kernel) (by decide +kernel)
set_option maxRecDepth 20000 in
theorem gX7_show_X7_refuse : GoodIn wsX7_show (wsV RX7 94 RX7 yX7_refuse wsX7_refuse) := goodIn_app (goodIn_of _ (by decide +kernel)) ggX7_show_X7_refuse
theorem dX7_show_0 : decode cX7_show 0 = .ok (.iload_n 1, 1) := by decide +kernel
theorem dX7_show_1 : decode cX7_show 1 = .ok (.i2l, 1) := by decide +kernel
theorem dX7_show_2 : decode cX7_show 2 = .ok (.lconst 0, 1) := by decide +kernel
theorem dX7_show_3 : decode cX7_show 3 = .ok (.ldc2_w 88, 3) := by decide +kernel
theorem dX7_show_6 : decode cX7_show 6 = .ok (.invokestatic 80, 3) := by decide +kernel
theorem dX7_show_9 : decode cX7_show 9 = .ok (.ifCond .eq 16, 3) := by decide +kernel
theorem dX7_show_12 : decode cX7_show 12 = .ok (.iload_n 2, 1) := by decide +kernel
theorem dX7_show_13 : decode cX7_show 13 = .ok (.iconst (-1), 1) := by decide +kernel
theorem dX7_show_14 : decode cX7_show 14 = .ok (.if_icmp .eq 18, 3) := by decide +kernel
theorem dX7_show_17 : decode cX7_show 17 = .ok (.aload_n 0, 1) := by decide +kernel
theorem dX7_show_18 : decode cX7_show 18 = .ok (.iload_n 2, 1) := by decide +kernel
theorem dX7_show_19 : decode cX7_show 19 = .ok (.invokevirtual 105, 3) := by decide +kernel
theorem dX7_show_22 : decode cX7_show 22 = .ok (.ifCond .ne 10, 3) := by decide +kernel
theorem dX7_show_25 : decode cX7_show 25 = .ok (.aload_n 0, 1) := by decide +kernel
theorem dX7_show_26 : decode cX7_show 26 = .ok (.bipush (-2), 2) := by decide +kernel
theorem dX7_show_28 : decode cX7_show 28 = .ok (.invokevirtual 94, 3) := by decide +kernel
theorem dX7_show_31 : decode cX7_show 31 = .ok (.ireturn, 1) := by decide +kernel
theorem dX7_show_32 : decode cX7_show 32 = .ok (.aload_n 0, 1) := by decide +kernel
theorem dX7_show_33 : decode cX7_show 33 = .ok (.getfield 7, 3) := by decide +kernel
theorem dX7_show_36 : decode cX7_show 36 = .ok (.iload_n 1, 1) := by decide +kernel
theorem dX7_show_37 : decode cX7_show 37 = .ok (.iload_n 2, 1) := by decide +kernel
theorem dX7_show_38 : decode cX7_show 38 = .ok (.iconst (-1), 1) := by decide +kernel
theorem dX7_show_39 : decode cX7_show 39 = .ok (.if_icmp .ne 7, 3) := by decide +kernel
theorem dX7_show_42 : decode cX7_show 42 = .ok (.iconst 0, 1) := by decide +kernel
theorem dX7_show_43 : decode cX7_show 43 = .ok (.goto 4, 3) := by decide +kernel
theorem dX7_show_46 : decode cX7_show 46 = .ok (.iconst 2, 1) := by decide +kernel
theorem dX7_show_47 : decode cX7_show 47 = .ok (.iastore, 1) := by decide +kernel
theorem dX7_show_48 : decode cX7_show 48 = .ok (.aload_n 0, 1) := by decide +kernel
theorem dX7_show_49 : decode cX7_show 49 = .ok (.getfield 28, 3) := by decide +kernel
theorem dX7_show_52 : decode cX7_show 52 = .ok (.iload_n 1, 1) := by decide +kernel
theorem dX7_show_53 : decode cX7_show 53 = .ok (.iload_n 2, 1) := by decide +kernel
theorem dX7_show_54 : decode cX7_show 54 = .ok (.iastore, 1) := by decide +kernel
theorem dX7_show_55 : decode cX7_show 55 = .ok (.iconst 1, 1) := by decide +kernel
theorem dX7_show_56 : decode cX7_show 56 = .ok (.ireturn, 1) := by decide +kernel
theorem dX7_isUnder_0 : decode cX7_isUnder 0 = .ok (.iload_n 1, 1) := by decide +kernel
theorem dX7_isUnder_1 : decode cX7_isUnder 1 = .ok (.ifCond .eq 18, 3) := by decide +kernel
theorem dX7_isUnder_4 : decode cX7_isUnder 4 = .ok (.iload_n 0, 1) := by decide +kernel
theorem dX7_isUnder_5 : decode cX7_isUnder 5 = .ok (.iload_n 1, 1) := by decide +kernel
theorem dX7_isUnder_6 : decode cX7_isUnder 6 = .ok (.if_icmp .eq 13, 3) := by decide +kernel
theorem dX7_isUnder_9 : decode cX7_isUnder 9 = .ok (.iload_n 1, 1) := by decide +kernel
theorem dX7_isUnder_10 : decode cX7_isUnder 10 = .ok (.iconst 2, 1) := by decide +kernel
theorem dX7_isUnder_11 : decode cX7_isUnder 11 = .ok (.if_icmp .ne 12, 3) := by decide +kernel
theorem dX7_isUnder_14 : decode cX7_isUnder 14 = .ok (.iload_n 0, 1) := by decide +kernel
theorem dX7_isUnder_15 : decode cX7_isUnder 15 = .ok (.iconst 3, 1) := by decide +kernel
theorem dX7_isUnder_16 : decode cX7_isUnder 16 = .ok (.if_icmp .ne 7, 3) := by decide +kernel
theorem dX7_isUnder_19 : decode cX7_isUnder 19 = .ok (.iconst 1, 1) := by decide +kernel
theorem dX7_isUnder_20 : decode cX7_isUnder 20 = .ok (.goto 4, 3) := by decide +kernel
theorem dX7_isUnder_23 : decode cX7_isUnder 23 = .ok (.iconst 0, 1) := by decide +kernel
theorem dX7_isUnder_24 : decode cX7_isUnder 24 = .ok (.ireturn, 1) := by decide +kernel
set_option maxRecDepth 20000 in
theorem ggX7_says_X7_in : GoodIn wsX7_says wsX7_in := goodIn_r _ [12] (by decide +kernel) (by decide +kernel)
set_option maxRecDepth 20000 in
theorem gX7_says_X7_in : GoodIn wsX7_says (va_wsS RX7 80 yX7_in wsX7_in) := goodIn_app (goodIn_of _ (by decide +kernel)) ggX7_says_X7_in
set_option maxRecDepth 20000 in
theorem ggX7_says_X7_refuse : GoodIn wsX7_says wsX7_refuse := goodIn_r _ [16, 17, 46, 47, 48, 49, 50, 51, 52, 53, 54, 55, 56, 57, 58, 59, 60, 61, 62, 63, 64, 65, 66, 67, 68, 69, 70, 71, 72, 73, 74, 75, 76, 77, 78] (by decide +kernel) (by decide +kernel)
set_option maxRecDepth 20000 in
theorem gX7_says_X7_refuse : GoodIn wsX7_says (wsV RX7 94 RX7 yX7_refuse wsX7_refuse) := goodIn_app (goodIn_of _ (by decide +kernel)) ggX7_says_X7_refuse
set_option maxRecDepth 20000 in
theorem ggX7_says_X7_isUnder : GoodIn wsX7_says wsX7_isUnder := goodIn_r _ [20] (by decide +kernel) (by decide +kernel)
set_option maxRecDepth 20000 in
theorem gX7_says_X7_isUnder : GoodIn wsX7_says (va_wsS RX7 111 yX7_isUnder wsX7_isUnder) := goodIn_app (goodIn_of _ (by decide +kernel)) ggX7_says_X7_isUnder
set_option maxRecDepth 20000 in
theorem ggX7_says_X7_mayOf : GoodIn wsX7_says wsX7_mayOf := goodIn_r _ [24, 4, 7, 25, 6, 8, 26, 27, 28, 29, 30, 11, 31, 32, 33, 34, 35, 36, 37, 38, 39, 46, 47, 48, 49, 50, 51, 52, 53, 54, 55, 56, 57, 58, 59, 60, 61, 62, 63, 64, 65, 66, 67, 68, 69, 70, 71, 72, 73, 74, 75, 76, 77, 78] (by decide +kernel) (by decide +kernel)
set_option maxRecDepth 20000 in
theorem gX7_says_X7_mayOf : GoodIn wsX7_says (wsV RX7 114 RX7 yX7_mayOf wsX7_mayOf) := goodIn_app (goodIn_of _ (by decide +kernel)) ggX7_says_X7_mayOf
set_option maxRecDepth 20000 in
theorem ggX7_says_X7_bits : GoodIn wsX7_says wsX7_bits := goodIn_r _ [42] (by decide +kernel) (by decide +kernel)
set_option maxRecDepth 20000 in
theorem gX7_says_X7_bits : GoodIn wsX7_says (va_wsS RX7 117 yX7_bits wsX7_bits) := goodIn_app (goodIn_of _ (by decide +kernel)) ggX7_says_X7_bits
set_option maxRecDepth 20000 in
theorem ggX7_says_X7_allSights : GoodIn wsX7_says wsX7_allSights := goodIn_r _ [36, 27, 46, 47, 48, 49, 50, 51, 52, 53, 54, 55, 56, 57, 58, 59, 60, 61, 62, 63, 64, 65, 66, 67, 68, 69, 70, 71, 72, 73, 74, 75, 76, 77, 78] (by decide +kernel) (by decide +kernel)
set_option maxRecDepth 20000 in
theorem gX7_says_X7_allSights : GoodIn wsX7_says (wsV RX7 120 RX7 yX7_allSights wsX7_allSights) := goodIn_app (goodIn_of _ (by decide +kernel)) ggX7_says_X7_allSights
set_option maxRecDepth 20000 in
theorem ggX7_says_X7_barredBy : GoodIn wsX7_says wsX7_barredBy := goodIn_r _ [31, 26, 8, 32, 46, 47, 48, 49, 50, 51, 52, 53, 54, 55, 56, 57, 58, 59, 60, 61, 62, 63, 64, 65, 66, 67, 68, 69, 70, 71, 72, 73, 74, 75, 76, 77, 78] (by decide +kernel) (by decide +kernel)
set_option maxRecDepth 20000 in
theorem gX7_says_X7_barredBy : GoodIn wsX7_says (wsV RX7 124 RX7 yX7_barredBy wsX7_barredBy) := goodIn_app (goodIn_of _ (by decide +kernel)) ggX7_says_X7_barredBy
set_option maxRecDepth 20000 in
theorem ggX7_says_X7_firstOf : GoodIn wsX7_says wsX7_firstOf := goodIn_r _ [45, 37, 38, 11, 39] (by decide +kernel) (by decide +kernel)
set_option maxRecDepth 20000 in
theorem gX7_says_X7_firstOf : GoodIn wsX7_says (va_wsS RX7 127 yX7_firstOf wsX7_firstOf) := goodIn_app (goodIn_of _ (by decide +kernel)) ggX7_says_X7_firstOf
theorem dX7_says_0 : decode cX7_says 0 = .ok (.iload_n 1, 1) := by decide +kernel
theorem dX7_says_1 : decode cX7_says 1 = .ok (.i2l, 1) := by decide +kernel
theorem dX7_says_2 : decode cX7_says 2 = .ok (.lconst 0, 1) := by decide +kernel
theorem dX7_says_3 : decode cX7_says 3 = .ok (.ldc2_w 88, 3) := by decide +kernel
theorem dX7_says_6 : decode cX7_says 6 = .ok (.invokestatic 80, 3) := by decide +kernel
theorem dX7_says_9 : decode cX7_says 9 = .ok (.ifCond .eq 15, 3) := by decide +kernel
theorem dX7_says_12 : decode cX7_says 12 = .ok (.iload_n 2, 1) := by decide +kernel
theorem dX7_says_13 : decode cX7_says 13 = .ok (.i2l, 1) := by decide +kernel
theorem dX7_says_14 : decode cX7_says 14 = .ok (.lconst 0, 1) := by decide +kernel
theorem dX7_says_15 : decode cX7_says 15 = .ok (.ldc2_w 109, 3) := by decide +kernel
theorem dX7_says_18 : decode cX7_says 18 = .ok (.invokestatic 80, 3) := by decide +kernel
theorem dX7_says_21 : decode cX7_says 21 = .ok (.ifCond .ne 10, 3) := by decide +kernel
theorem dX7_says_24 : decode cX7_says 24 = .ok (.aload_n 0, 1) := by decide +kernel
theorem dX7_says_25 : decode cX7_says 25 = .ok (.bipush (-2), 2) := by decide +kernel
theorem dX7_says_27 : decode cX7_says 27 = .ok (.invokevirtual 94, 3) := by decide +kernel
theorem dX7_says_30 : decode cX7_says 30 = .ok (.ireturn, 1) := by decide +kernel
theorem dX7_says_31 : decode cX7_says 31 = .ok (.aload_n 0, 1) := by decide +kernel
theorem dX7_says_32 : decode cX7_says 32 = .ok (.getfield 7, 3) := by decide +kernel
theorem dX7_says_35 : decode cX7_says 35 = .ok (.iload_n 1, 1) := by decide +kernel
theorem dX7_says_36 : decode cX7_says 36 = .ok (.iaload, 1) := by decide +kernel
theorem dX7_says_37 : decode cX7_says 37 = .ok (.iconst 1, 1) := by decide +kernel
theorem dX7_says_38 : decode cX7_says 38 = .ok (.if_icmp .eq 31, 3) := by decide +kernel
theorem dX7_says_41 : decode cX7_says 41 = .ok (.aload_n 0, 1) := by decide +kernel
theorem dX7_says_42 : decode cX7_says 42 = .ok (.getfield 7, 3) := by decide +kernel
theorem dX7_says_45 : decode cX7_says 45 = .ok (.iload_n 1, 1) := by decide +kernel
theorem dX7_says_46 : decode cX7_says 46 = .ok (.iaload, 1) := by decide +kernel
theorem dX7_says_47 : decode cX7_says 47 = .ok (.iconst 2, 1) := by decide +kernel
theorem dX7_says_48 : decode cX7_says 48 = .ok (.if_icmp .ne 28, 3) := by decide +kernel
theorem dX7_says_51 : decode cX7_says 51 = .ok (.aload_n 0, 1) := by decide +kernel
theorem dX7_says_52 : decode cX7_says 52 = .ok (.getfield 41, 3) := by decide +kernel
theorem dX7_says_55 : decode cX7_says 55 = .ok (.aload_n 0, 1) := by decide +kernel
theorem dX7_says_56 : decode cX7_says 56 = .ok (.getfield 28, 3) := by decide +kernel
theorem dX7_says_59 : decode cX7_says 59 = .ok (.iload_n 1, 1) := by decide +kernel
theorem dX7_says_60 : decode cX7_says 60 = .ok (.iaload, 1) := by decide +kernel
theorem dX7_says_61 : decode cX7_says 61 = .ok (.iaload, 1) := by decide +kernel
theorem dX7_says_62 : decode cX7_says 62 = .ok (.iload_n 2, 1) := by decide +kernel
theorem dX7_says_63 : decode cX7_says 63 = .ok (.invokestatic 111, 3) := by decide +kernel
theorem dX7_says_66 : decode cX7_says 66 = .ok (.ifCond .ne 10, 3) := by decide +kernel
theorem dX7_says_69 : decode cX7_says 69 = .ok (.aload_n 0, 1) := by decide +kernel
theorem dX7_says_70 : decode cX7_says 70 = .ok (.bipush (-3), 2) := by decide +kernel
theorem dX7_says_72 : decode cX7_says 72 = .ok (.invokevirtual 94, 3) := by decide +kernel
theorem dX7_says_75 : decode cX7_says 75 = .ok (.ireturn, 1) := by decide +kernel
theorem dX7_says_76 : decode cX7_says 76 = .ok (.aload_n 0, 1) := by decide +kernel
theorem dX7_says_77 : decode cX7_says 77 = .ok (.getfield 7, 3) := by decide +kernel
theorem dX7_says_80 : decode cX7_says 80 = .ok (.iload_n 1, 1) := by decide +kernel
theorem dX7_says_81 : decode cX7_says 81 = .ok (.iaload, 1) := by decide +kernel
theorem dX7_says_82 : decode cX7_says 82 = .ok (.ifCond .ne 10, 3) := by decide +kernel
theorem dX7_says_85 : decode cX7_says 85 = .ok (.aload_n 0, 1) := by decide +kernel
theorem dX7_says_86 : decode cX7_says 86 = .ok (.bipush (-4), 2) := by decide +kernel
theorem dX7_says_88 : decode cX7_says 88 = .ok (.invokevirtual 94, 3) := by decide +kernel
theorem dX7_says_91 : decode cX7_says 91 = .ok (.ireturn, 1) := by decide +kernel
theorem dX7_says_92 : decode cX7_says 92 = .ok (.aload_n 0, 1) := by decide +kernel
theorem dX7_says_93 : decode cX7_says 93 = .ok (.getfield 28, 3) := by decide +kernel
theorem dX7_says_96 : decode cX7_says 96 = .ok (.iload_n 1, 1) := by decide +kernel
theorem dX7_says_97 : decode cX7_says 97 = .ok (.iaload, 1) := by decide +kernel
theorem dX7_says_98 : decode cX7_says 98 = .ok (.istore_n 3, 1) := by decide +kernel
theorem dX7_says_99 : decode cX7_says 99 = .ok (.iload_n 2, 1) := by decide +kernel
theorem dX7_says_100 : decode cX7_says 100 = .ok (.tableswitch 87 0 4 #[36, 42, 52, 68, 77], 36) := by decide +kernel
theorem dX7_says_136 : decode cX7_says 136 = .ok (.aload_n 0, 1) := by decide +kernel
theorem dX7_says_137 : decode cX7_says 137 = .ok (.iload_n 3, 1) := by decide +kernel
theorem dX7_says_138 : decode cX7_says 138 = .ok (.invokevirtual 114, 3) := by decide +kernel
theorem dX7_says_141 : decode cX7_says 141 = .ok (.ireturn, 1) := by decide +kernel
theorem dX7_says_142 : decode cX7_says 142 = .ok (.aload_n 0, 1) := by decide +kernel
theorem dX7_says_143 : decode cX7_says 143 = .ok (.getfield 56, 3) := by decide +kernel
theorem dX7_says_146 : decode cX7_says 146 = .ok (.iload_n 3, 1) := by decide +kernel
theorem dX7_says_147 : decode cX7_says 147 = .ok (.iaload, 1) := by decide +kernel
theorem dX7_says_148 : decode cX7_says 148 = .ok (.invokestatic 117, 3) := by decide +kernel
theorem dX7_says_151 : decode cX7_says 151 = .ok (.ireturn, 1) := by decide +kernel
theorem dX7_says_152 : decode cX7_says 152 = .ok (.aload_n 0, 1) := by decide +kernel
theorem dX7_says_153 : decode cX7_says 153 = .ok (.invokevirtual 120, 3) := by decide +kernel
theorem dX7_says_156 : decode cX7_says 156 = .ok (.aload_n 0, 1) := by decide +kernel
theorem dX7_says_157 : decode cX7_says 157 = .ok (.iload_n 3, 1) := by decide +kernel
theorem dX7_says_158 : decode cX7_says 158 = .ok (.invokevirtual 124, 3) := by decide +kernel
theorem dX7_says_161 : decode cX7_says 161 = .ok (.iconst (-1), 1) := by decide +kernel
theorem dX7_says_162 : decode cX7_says 162 = .ok (.ixor, 1) := by decide +kernel
theorem dX7_says_163 : decode cX7_says 163 = .ok (.iand, 1) := by decide +kernel
theorem dX7_says_164 : decode cX7_says 164 = .ok (.invokestatic 117, 3) := by decide +kernel
theorem dX7_says_167 : decode cX7_says 167 = .ok (.ireturn, 1) := by decide +kernel
theorem dX7_says_168 : decode cX7_says 168 = .ok (.aload_n 0, 1) := by decide +kernel
theorem dX7_says_169 : decode cX7_says 169 = .ok (.iload_n 3, 1) := by decide +kernel
theorem dX7_says_170 : decode cX7_says 170 = .ok (.invokevirtual 124, 3) := by decide +kernel
theorem dX7_says_173 : decode cX7_says 173 = .ok (.invokestatic 127, 3) := by decide +kernel
theorem dX7_says_176 : decode cX7_says 176 = .ok (.ireturn, 1) := by decide +kernel
theorem dX7_says_177 : decode cX7_says 177 = .ok (.aload_n 0, 1) := by decide +kernel
theorem dX7_says_178 : decode cX7_says 178 = .ok (.getfield 53, 3) := by decide +kernel
theorem dX7_says_181 : decode cX7_says 181 = .ok (.iload_n 3, 1) := by decide +kernel
theorem dX7_says_182 : decode cX7_says 182 = .ok (.iaload, 1) := by decide +kernel
theorem dX7_says_183 : decode cX7_says 183 = .ok (.invokestatic 117, 3) := by decide +kernel
theorem dX7_says_186 : decode cX7_says 186 = .ok (.ireturn, 1) := by decide +kernel
theorem dX7_says_187 : decode cX7_says 187 = .ok (.aload_n 0, 1) := by decide +kernel
theorem dX7_says_188 : decode cX7_says 188 = .ok (.getfield 47, 3) := by decide +kernel
theorem dX7_says_191 : decode cX7_says 191 = .ok (.iload_n 3, 1) := by decide +kernel
theorem dX7_says_192 : decode cX7_says 192 = .ok (.iaload, 1) := by decide +kernel
theorem dX7_says_193 : decode cX7_says 193 = .ok (.invokestatic 127, 3) := by decide +kernel
theorem dX7_says_196 : decode cX7_says 196 = .ok (.ireturn, 1) := by decide +kernel
set_option maxRecDepth 20000 in
theorem ggX7_sights_X7_in : GoodIn wsX7_sights wsX7_in := goodIn_r _ [6] (by decide +kernel) (by decide +kernel)
set_option maxRecDepth 20000 in
theorem gX7_sights_X7_in : GoodIn wsX7_sights (va_wsS RX7 80 yX7_in wsX7_in) := goodIn_app (goodIn_of _ (by decide +kernel)) ggX7_sights_X7_in
set_option maxRecDepth 20000 in
theorem ggX7_sights_X7_refuse : GoodIn wsX7_sights wsX7_refuse := goodIn_r _ [10, 11, 12, 13, 14, 15, 16, 17, 18, 19, 20, 21, 22, 23, 24, 25, 26, 27, 28, 29, 30, 31, 32, 33, 34, 35, 36, 37, 38, 39, 40, 41, 42, 43, 44] (by decide +kernel) (by decide +kernel)
set_option maxRecDepth 20000 in
theorem gX7_sights_X7_refuse : GoodIn wsX7_sights (wsV RX7 94 RX7 yX7_refuse wsX7_refuse) := goodIn_app (goodIn_of _ (by decide +kernel)) ggX7_sights_X7_refuse
theorem dX7_sights_0 : decode cX7_sights 0 = .ok (.iload_n 1, 1) := by decide +kernel
theorem dX7_sights_1 : decode cX7_sights 1 = .ok (.i2l, 1) := by decide +kernel
theorem dX7_sights_2 : decode cX7_sights 2 = .ok (.aload_n 0, 1) := by decide +kernel
theorem dX7_sights_3 : decode cX7_sights 3 = .ok (.getfield 37, 3) := by decide +kernel
theorem dX7_sights_6 : decode cX7_sights 6 = .ok (.i2l, 1) := by decide +kernel
theorem dX7_sights_7 : decode cX7_sights 7 = .ok (.ldc2_w 130, 3) := by decide +kernel
theorem dX7_sights_10 : decode cX7_sights 10 = .ok (.invokestatic 80, 3) := by decide +kernel
theorem dX7_sights_13 : decode cX7_sights 13 = .ok (.ifCond .ne 10, 3) := by decide +kernel
theorem dX7_sights_16 : decode cX7_sights 16 = .ok (.aload_n 0, 1) := by decide +kernel
theorem dX7_sights_17 : decode cX7_sights 17 = .ok (.bipush (-2), 2) := by decide +kernel
theorem dX7_sights_19 : decode cX7_sights 19 = .ok (.invokevirtual 94, 3) := by decide +kernel
theorem dX7_sights_22 : decode cX7_sights 22 = .ok (.ireturn, 1) := by decide +kernel
theorem dX7_sights_23 : decode cX7_sights 23 = .ok (.aload_n 0, 1) := by decide +kernel
theorem dX7_sights_24 : decode cX7_sights 24 = .ok (.getfield 37, 3) := by decide +kernel
theorem dX7_sights_27 : decode cX7_sights 27 = .ok (.istore_n 2, 1) := by decide +kernel
theorem dX7_sights_28 : decode cX7_sights 28 = .ok (.aload_n 0, 1) := by decide +kernel
theorem dX7_sights_29 : decode cX7_sights 29 = .ok (.iload_n 1, 1) := by decide +kernel
theorem dX7_sights_30 : decode cX7_sights 30 = .ok (.putfield 37, 3) := by decide +kernel
theorem dX7_sights_33 : decode cX7_sights 33 = .ok (.iload_n 2, 1) := by decide +kernel
theorem dX7_sights_34 : decode cX7_sights 34 = .ok (.ireturn, 1) := by decide +kernel
theorem dX7_addOne_0 : decode cX7_addOne 0 = .ok (.aload_n 0, 1) := by decide +kernel
theorem dX7_addOne_1 : decode cX7_addOne 1 = .ok (.getfield 41, 3) := by decide +kernel
theorem dX7_addOne_4 : decode cX7_addOne 4 = .ok (.aload_n 0, 1) := by decide +kernel
theorem dX7_addOne_5 : decode cX7_addOne 5 = .ok (.getfield 77, 3) := by decide +kernel
theorem dX7_addOne_8 : decode cX7_addOne 8 = .ok (.iload_n 1, 1) := by decide +kernel
theorem dX7_addOne_9 : decode cX7_addOne 9 = .ok (.iastore, 1) := by decide +kernel
theorem dX7_addOne_10 : decode cX7_addOne 10 = .ok (.aload_n 0, 1) := by decide +kernel
theorem dX7_addOne_11 : decode cX7_addOne 11 = .ok (.getfield 44, 3) := by decide +kernel
theorem dX7_addOne_14 : decode cX7_addOne 14 = .ok (.aload_n 0, 1) := by decide +kernel
theorem dX7_addOne_15 : decode cX7_addOne 15 = .ok (.getfield 77, 3) := by decide +kernel
theorem dX7_addOne_18 : decode cX7_addOne 18 = .ok (.iload_n 2, 1) := by decide +kernel
theorem dX7_addOne_19 : decode cX7_addOne 19 = .ok (.iastore, 1) := by decide +kernel
theorem dX7_addOne_20 : decode cX7_addOne 20 = .ok (.aload_n 0, 1) := by decide +kernel
theorem dX7_addOne_21 : decode cX7_addOne 21 = .ok (.getfield 47, 3) := by decide +kernel
theorem dX7_addOne_24 : decode cX7_addOne 24 = .ok (.aload_n 0, 1) := by decide +kernel
theorem dX7_addOne_25 : decode cX7_addOne 25 = .ok (.getfield 77, 3) := by decide +kernel
theorem dX7_addOne_28 : decode cX7_addOne 28 = .ok (.iconst 0, 1) := by decide +kernel
theorem dX7_addOne_29 : decode cX7_addOne 29 = .ok (.iastore, 1) := by decide +kernel
theorem dX7_addOne_30 : decode cX7_addOne 30 = .ok (.aload_n 0, 1) := by decide +kernel
theorem dX7_addOne_31 : decode cX7_addOne 31 = .ok (.getfield 50, 3) := by decide +kernel
theorem dX7_addOne_34 : decode cX7_addOne 34 = .ok (.aload_n 0, 1) := by decide +kernel
theorem dX7_addOne_35 : decode cX7_addOne 35 = .ok (.getfield 77, 3) := by decide +kernel
theorem dX7_addOne_38 : decode cX7_addOne 38 = .ok (.iconst 0, 1) := by decide +kernel
theorem dX7_addOne_39 : decode cX7_addOne 39 = .ok (.iastore, 1) := by decide +kernel
theorem dX7_addOne_40 : decode cX7_addOne 40 = .ok (.aload_n 0, 1) := by decide +kernel
theorem dX7_addOne_41 : decode cX7_addOne 41 = .ok (.getfield 53, 3) := by decide +kernel
theorem dX7_addOne_44 : decode cX7_addOne 44 = .ok (.aload_n 0, 1) := by decide +kernel
theorem dX7_addOne_45 : decode cX7_addOne 45 = .ok (.getfield 77, 3) := by decide +kernel
theorem dX7_addOne_48 : decode cX7_addOne 48 = .ok (.iconst 0, 1) := by decide +kernel
theorem dX7_addOne_49 : decode cX7_addOne 49 = .ok (.iastore, 1) := by decide +kernel
theorem dX7_addOne_50 : decode cX7_addOne 50 = .ok (.aload_n 0, 1) := by decide +kernel
theorem dX7_addOne_51 : decode cX7_addOne 51 = .ok (.getfield 56, 3) := by decide +kernel
theorem dX7_addOne_54 : decode cX7_addOne 54 = .ok (.aload_n 0, 1) := by decide +kernel
theorem dX7_addOne_55 : decode cX7_addOne 55 = .ok (.getfield 77, 3) := by decide +kernel
theorem dX7_addOne_58 : decode cX7_addOne 58 = .ok (.iconst 0, 1) := by decide +kernel
theorem dX7_addOne_59 : decode cX7_addOne 59 = .ok (.iastore, 1) := by decide +kernel
theorem dX7_addOne_60 : decode cX7_addOne 60 = .ok (.aload_n 0, 1) := by decide +kernel
theorem dX7_addOne_61 : decode cX7_addOne 61 = .ok (.dup, 1) := by decide +kernel
theorem dX7_addOne_62 : decode cX7_addOne 62 = .ok (.getfield 77, 3) := by decide +kernel
theorem dX7_addOne_65 : decode cX7_addOne 65 = .ok (.iconst 1, 1) := by decide +kernel
theorem dX7_addOne_66 : decode cX7_addOne 66 = .ok (.iadd, 1) := by decide +kernel
theorem dX7_addOne_67 : decode cX7_addOne 67 = .ok (.putfield 77, 3) := by decide +kernel
theorem dX7_addOne_70 : decode cX7_addOne 70 = .ok (.return_, 1) := by decide +kernel
set_option maxRecDepth 20000 in
theorem ggX7_person_X7_in : GoodIn wsX7_person wsX7_in := goodIn_r _ [7] (by decide +kernel) (by decide +kernel)
set_option maxRecDepth 20000 in
theorem gX7_person_X7_in : GoodIn wsX7_person (va_wsS RX7 80 yX7_in wsX7_in) := goodIn_app (goodIn_of _ (by decide +kernel)) ggX7_person_X7_in
set_option maxRecDepth 20000 in
theorem ggX7_person_X7_refuse : GoodIn wsX7_person wsX7_refuse := goodIn_r _ [11, 12, 23, 24, 25, 26, 27, 28, 29, 30, 31, 32, 33, 34, 35, 36, 37, 38, 39, 40, 41, 42, 43, 44, 45, 46, 47, 48, 49, 50, 51, 52, 53, 54, 55] (by decide +kernel) (by decide +kernel)
set_option maxRecDepth 20000 in
theorem gX7_person_X7_refuse : GoodIn wsX7_person (wsV RX7 94 RX7 yX7_refuse wsX7_refuse) := goodIn_app (goodIn_of _ (by decide +kernel)) ggX7_person_X7_refuse
set_option maxRecDepth 20000 in
theorem ggX7_person_X7_addOne : GoodIn wsX7_person wsX7_addOne := goodIn_r _ [16, 17, 3, 18, 19, 20, 21, 22, 23, 24, 25, 26, 27, 28, 29, 30, 31, 32, 33, 34, 35, 36, 37, 38, 39, 40, 41, 42, 43, 44, 45, 46, 47, 48, 49, 50, 51, 52, 53, 54, 55] (by decide +kernel) (by decide +kernel)
set_option maxRecDepth 20000 in
theorem gX7_person_X7_addOne : GoodIn wsX7_person (wsV RX7 134 RX7 yX7_addOne wsX7_addOne) := goodIn_app (goodIn_of _ (by decide +kernel)) ggX7_person_X7_addOne
theorem dX7_person_0 : decode cX7_person 0 = .ok (.iload_n 1, 1) := by decide +kernel
theorem dX7_person_1 : decode cX7_person 1 = .ok (.i2l, 1) := by decide +kernel
theorem dX7_person_2 : decode cX7_person 2 = .ok (.lconst 0, 1) := by decide +kernel
theorem dX7_person_3 : decode cX7_person 3 = .ok (.ldc2_w 109, 3) := by decide +kernel
theorem dX7_person_6 : decode cX7_person 6 = .ok (.invokestatic 80, 3) := by decide +kernel
theorem dX7_person_9 : decode cX7_person 9 = .ok (.ifCond .eq 15, 3) := by decide +kernel
theorem dX7_person_12 : decode cX7_person 12 = .ok (.iload_n 2, 1) := by decide +kernel
theorem dX7_person_13 : decode cX7_person 13 = .ok (.i2l, 1) := by decide +kernel
theorem dX7_person_14 : decode cX7_person 14 = .ok (.lconst 0, 1) := by decide +kernel
theorem dX7_person_15 : decode cX7_person 15 = .ok (.ldc2_w 132, 3) := by decide +kernel
theorem dX7_person_18 : decode cX7_person 18 = .ok (.invokestatic 80, 3) := by decide +kernel
theorem dX7_person_21 : decode cX7_person 21 = .ok (.ifCond .ne 10, 3) := by decide +kernel
theorem dX7_person_24 : decode cX7_person 24 = .ok (.aload_n 0, 1) := by decide +kernel
theorem dX7_person_25 : decode cX7_person 25 = .ok (.bipush (-2), 2) := by decide +kernel
theorem dX7_person_27 : decode cX7_person 27 = .ok (.invokevirtual 94, 3) := by decide +kernel
theorem dX7_person_30 : decode cX7_person 30 = .ok (.ireturn, 1) := by decide +kernel
theorem dX7_person_31 : decode cX7_person 31 = .ok (.aload_n 0, 1) := by decide +kernel
theorem dX7_person_32 : decode cX7_person 32 = .ok (.getfield 77, 3) := by decide +kernel
theorem dX7_person_35 : decode cX7_person 35 = .ok (.bipush 7, 2) := by decide +kernel
theorem dX7_person_37 : decode cX7_person 37 = .ok (.if_icmp .ne 10, 3) := by decide +kernel
theorem dX7_person_40 : decode cX7_person 40 = .ok (.aload_n 0, 1) := by decide +kernel
theorem dX7_person_41 : decode cX7_person 41 = .ok (.bipush (-6), 2) := by decide +kernel
theorem dX7_person_43 : decode cX7_person 43 = .ok (.invokevirtual 94, 3) := by decide +kernel
theorem dX7_person_46 : decode cX7_person 46 = .ok (.ireturn, 1) := by decide +kernel
theorem dX7_person_47 : decode cX7_person 47 = .ok (.aload_n 0, 1) := by decide +kernel
theorem dX7_person_48 : decode cX7_person 48 = .ok (.iload_n 1, 1) := by decide +kernel
theorem dX7_person_49 : decode cX7_person 49 = .ok (.iload_n 2, 1) := by decide +kernel
theorem dX7_person_50 : decode cX7_person 50 = .ok (.invokevirtual 134, 3) := by decide +kernel
theorem dX7_person_53 : decode cX7_person 53 = .ok (.aload_n 0, 1) := by decide +kernel
theorem dX7_person_54 : decode cX7_person 54 = .ok (.getfield 77, 3) := by decide +kernel
theorem dX7_person_57 : decode cX7_person 57 = .ok (.iconst 1, 1) := by decide +kernel
theorem dX7_person_58 : decode cX7_person 58 = .ok (.isub, 1) := by decide +kernel
theorem dX7_person_59 : decode cX7_person 59 = .ok (.ireturn, 1) := by decide +kernel
theorem dX7_sees_0 : decode cX7_sees 0 = .ok (.aload_n 0, 1) := by decide +kernel
theorem dX7_sees_1 : decode cX7_sees 1 = .ok (.getfield 47, 3) := by decide +kernel
theorem dX7_sees_4 : decode cX7_sees 4 = .ok (.iload_n 1, 1) := by decide +kernel
theorem dX7_sees_5 : decode cX7_sees 5 = .ok (.dup2, 1) := by decide +kernel
theorem dX7_sees_6 : decode cX7_sees 6 = .ok (.iaload, 1) := by decide +kernel
theorem dX7_sees_7 : decode cX7_sees 7 = .ok (.iconst 1, 1) := by decide +kernel
theorem dX7_sees_8 : decode cX7_sees 8 = .ok (.iload_n 2, 1) := by decide +kernel
theorem dX7_sees_9 : decode cX7_sees 9 = .ok (.ishl, 1) := by decide +kernel
theorem dX7_sees_10 : decode cX7_sees 10 = .ok (.iconst (-1), 1) := by decide +kernel
theorem dX7_sees_11 : decode cX7_sees 11 = .ok (.ixor, 1) := by decide +kernel
theorem dX7_sees_12 : decode cX7_sees 12 = .ok (.iand, 1) := by decide +kernel
theorem dX7_sees_13 : decode cX7_sees 13 = .ok (.iastore, 1) := by decide +kernel
theorem dX7_sees_14 : decode cX7_sees 14 = .ok (.aload_n 0, 1) := by decide +kernel
theorem dX7_sees_15 : decode cX7_sees 15 = .ok (.getfield 50, 3) := by decide +kernel
theorem dX7_sees_18 : decode cX7_sees 18 = .ok (.iload_n 1, 1) := by decide +kernel
theorem dX7_sees_19 : decode cX7_sees 19 = .ok (.dup2, 1) := by decide +kernel
theorem dX7_sees_20 : decode cX7_sees 20 = .ok (.iaload, 1) := by decide +kernel
theorem dX7_sees_21 : decode cX7_sees 21 = .ok (.iconst 1, 1) := by decide +kernel
theorem dX7_sees_22 : decode cX7_sees 22 = .ok (.iload_n 2, 1) := by decide +kernel
theorem dX7_sees_23 : decode cX7_sees 23 = .ok (.ishl, 1) := by decide +kernel
theorem dX7_sees_24 : decode cX7_sees 24 = .ok (.iconst (-1), 1) := by decide +kernel
theorem dX7_sees_25 : decode cX7_sees 25 = .ok (.ixor, 1) := by decide +kernel
theorem dX7_sees_26 : decode cX7_sees 26 = .ok (.iand, 1) := by decide +kernel
theorem dX7_sees_27 : decode cX7_sees 27 = .ok (.iastore, 1) := by decide +kernel
theorem dX7_sees_28 : decode cX7_sees 28 = .ok (.aload_n 0, 1) := by decide +kernel
theorem dX7_sees_29 : decode cX7_sees 29 = .ok (.getfield 47, 3) := by decide +kernel
theorem dX7_sees_32 : decode cX7_sees 32 = .ok (.iload_n 1, 1) := by decide +kernel
theorem dX7_sees_33 : decode cX7_sees 33 = .ok (.dup2, 1) := by decide +kernel
theorem dX7_sees_34 : decode cX7_sees 34 = .ok (.iaload, 1) := by decide +kernel
theorem dX7_sees_35 : decode cX7_sees 35 = .ok (.iload_n 3, 1) := by decide +kernel
theorem dX7_sees_36 : decode cX7_sees 36 = .ok (.iconst 2, 1) := by decide +kernel
theorem dX7_sees_37 : decode cX7_sees 37 = .ok (.if_icmp .ne 9, 3) := by decide +kernel
theorem dX7_sees_40 : decode cX7_sees 40 = .ok (.iconst 1, 1) := by decide +kernel
theorem dX7_sees_41 : decode cX7_sees 41 = .ok (.iload_n 2, 1) := by decide +kernel
theorem dX7_sees_42 : decode cX7_sees 42 = .ok (.ishl, 1) := by decide +kernel
theorem dX7_sees_43 : decode cX7_sees 43 = .ok (.goto 4, 3) := by decide +kernel
theorem dX7_sees_46 : decode cX7_sees 46 = .ok (.iconst 0, 1) := by decide +kernel
theorem dX7_sees_47 : decode cX7_sees 47 = .ok (.ior, 1) := by decide +kernel
theorem dX7_sees_48 : decode cX7_sees 48 = .ok (.iastore, 1) := by decide +kernel
theorem dX7_sees_49 : decode cX7_sees 49 = .ok (.aload_n 0, 1) := by decide +kernel
theorem dX7_sees_50 : decode cX7_sees 50 = .ok (.getfield 50, 3) := by decide +kernel
theorem dX7_sees_53 : decode cX7_sees 53 = .ok (.iload_n 1, 1) := by decide +kernel
theorem dX7_sees_54 : decode cX7_sees 54 = .ok (.dup2, 1) := by decide +kernel
theorem dX7_sees_55 : decode cX7_sees 55 = .ok (.iaload, 1) := by decide +kernel
theorem dX7_sees_56 : decode cX7_sees 56 = .ok (.iload_n 3, 1) := by decide +kernel
theorem dX7_sees_57 : decode cX7_sees 57 = .ok (.iconst 1, 1) := by decide +kernel
theorem dX7_sees_58 : decode cX7_sees 58 = .ok (.if_icmp .ne 9, 3) := by decide +kernel
theorem dX7_sees_61 : decode cX7_sees 61 = .ok (.iconst 1, 1) := by decide +kernel
theorem dX7_sees_62 : decode cX7_sees 62 = .ok (.iload_n 2, 1) := by decide +kernel
theorem dX7_sees_63 : decode cX7_sees 63 = .ok (.ishl, 1) := by decide +kernel
theorem dX7_sees_64 : decode cX7_sees 64 = .ok (.goto 4, 3) := by decide +kernel
theorem dX7_sees_67 : decode cX7_sees 67 = .ok (.iconst 0, 1) := by decide +kernel
theorem dX7_sees_68 : decode cX7_sees 68 = .ok (.ior, 1) := by decide +kernel
theorem dX7_sees_69 : decode cX7_sees 69 = .ok (.iastore, 1) := by decide +kernel
theorem dX7_sees_70 : decode cX7_sees 70 = .ok (.return_, 1) := by decide +kernel
set_option maxRecDepth 20000 in
theorem ggX7_see_X7_isOne : GoodIn wsX7_see wsX7_isOne := goodIn_r _ [9, 10, 11, 12, 8, 13, 31, 32, 33, 34, 35, 36, 37, 38, 39, 40, 41, 42, 43, 44, 45, 46, 47, 48, 49, 50, 51, 52, 53, 54, 55, 56, 57, 58, 59, 60, 61, 62, 63] (by decide +kernel) (by decide +kernel)
set_option maxRecDepth 20000 in
theorem gX7_see_X7_isOne : GoodIn wsX7_see (wsV RX7 105 RX7 yX7_isOne wsX7_isOne) := goodIn_app (goodIn_of _ (by decide +kernel)) ggX7_see_X7_isOne
set_option maxRecDepth 20000 in
theorem ggX7_see_X7_isSight : GoodIn wsX7_see wsX7_isSight := goodIn_r _ [17, 18, 11, 12, 8, 13, 31, 32, 33, 34, 35, 36, 37, 38, 39, 40, 41, 42, 43, 44, 45, 46, 47, 48, 49, 50, 51, 52, 53, 54, 55, 56, 57, 58, 59, 60, 61, 62, 63] (by decide +kernel) (by decide +kernel)
set_option maxRecDepth 20000 in
theorem gX7_see_X7_isSight : GoodIn wsX7_see (wsV RX7 138 RX7 yX7_isSight wsX7_isSight) := goodIn_app (goodIn_of _ (by decide +kernel)) ggX7_see_X7_isSight
set_option maxRecDepth 20000 in
theorem ggX7_see_X7_in : GoodIn wsX7_see wsX7_in := goodIn_r _ [13] (by decide +kernel) (by decide +kernel)
set_option maxRecDepth 20000 in
theorem gX7_see_X7_in : GoodIn wsX7_see (va_wsS RX7 80 yX7_in wsX7_in) := goodIn_app (goodIn_of _ (by decide +kernel)) ggX7_see_X7_in
set_option maxRecDepth 20000 in
theorem ggX7_see_X7_refuse : GoodIn wsX7_see wsX7_refuse := goodIn_r _ [22, 23, 31, 32, 33, 34, 35, 36, 37, 38, 39, 40, 41, 42, 43, 44, 45, 46, 47, 48, 49, 50, 51, 52, 53, 54, 55, 56, 57, 58, 59, 60, 61, 62, 63] (by decide +kernel) (by decide +kernel)
set_option maxRecDepth 20000 in
theorem gX7_see_X7_refuse : GoodIn wsX7_see (wsV RX7 94 RX7 yX7_refuse wsX7_refuse) := goodIn_app (goodIn_of _ (by decide +kernel)) ggX7_see_X7_refuse
set_option maxRecDepth 20000 in
theorem ggX7_see_X7_has : GoodIn wsX7_see wsX7_has := goodIn_r _ [26] (by decide +kernel) (by decide +kernel)
set_option maxRecDepth 20000 in
theorem gX7_see_X7_has : GoodIn wsX7_see (va_wsS RX7 84 yX7_has wsX7_has) := goodIn_app (goodIn_of _ (by decide +kernel)) ggX7_see_X7_has
set_option maxRecDepth 20000 in
theorem ggX7_see_X7_sees : GoodIn wsX7_see wsX7_sees := goodIn_r _ [30, 3, 4, 31, 32, 33, 34, 35, 36, 37, 38, 39, 40, 41, 42, 43, 44, 45, 46, 47, 48, 49, 50, 51, 52, 53, 54, 55, 56, 57, 58, 59, 60, 61, 62, 63] (by decide +kernel) (by decide +kernel)
set_option maxRecDepth 20000 in
theorem gX7_see_X7_sees : GoodIn wsX7_see (wsV RX7 143 RX7 yX7_sees wsX7_sees) := goodIn_app (goodIn_of _ (by decide +kernel)) ggX7_see_X7_sees
theorem dX7_see_0 : decode cX7_see 0 = .ok (.aload_n 0, 1) := by decide +kernel
theorem dX7_see_1 : decode cX7_see 1 = .ok (.iload_n 1, 1) := by decide +kernel
theorem dX7_see_2 : decode cX7_see 2 = .ok (.invokevirtual 105, 3) := by decide +kernel
theorem dX7_see_5 : decode cX7_see 5 = .ok (.ifCond .eq 23, 3) := by decide +kernel
theorem dX7_see_8 : decode cX7_see 8 = .ok (.aload_n 0, 1) := by decide +kernel
theorem dX7_see_9 : decode cX7_see 9 = .ok (.iload_n 2, 1) := by decide +kernel
theorem dX7_see_10 : decode cX7_see 10 = .ok (.invokevirtual 138, 3) := by decide +kernel
theorem dX7_see_13 : decode cX7_see 13 = .ok (.ifCond .eq 15, 3) := by decide +kernel
theorem dX7_see_16 : decode cX7_see 16 = .ok (.iload_n 3, 1) := by decide +kernel
theorem dX7_see_17 : decode cX7_see 17 = .ok (.i2l, 1) := by decide +kernel
theorem dX7_see_18 : decode cX7_see 18 = .ok (.lconst 0, 1) := by decide +kernel
theorem dX7_see_19 : decode cX7_see 19 = .ok (.ldc2_w 141, 3) := by decide +kernel
theorem dX7_see_22 : decode cX7_see 22 = .ok (.invokestatic 80, 3) := by decide +kernel
theorem dX7_see_25 : decode cX7_see 25 = .ok (.ifCond .ne 10, 3) := by decide +kernel
theorem dX7_see_28 : decode cX7_see 28 = .ok (.aload_n 0, 1) := by decide +kernel
theorem dX7_see_29 : decode cX7_see 29 = .ok (.bipush (-2), 2) := by decide +kernel
theorem dX7_see_31 : decode cX7_see 31 = .ok (.invokevirtual 94, 3) := by decide +kernel
theorem dX7_see_34 : decode cX7_see 34 = .ok (.ireturn, 1) := by decide +kernel
theorem dX7_see_35 : decode cX7_see 35 = .ok (.aload_n 0, 1) := by decide +kernel
theorem dX7_see_36 : decode cX7_see 36 = .ok (.getfield 41, 3) := by decide +kernel
theorem dX7_see_39 : decode cX7_see 39 = .ok (.iload_n 1, 1) := by decide +kernel
theorem dX7_see_40 : decode cX7_see 40 = .ok (.iaload, 1) := by decide +kernel
theorem dX7_see_41 : decode cX7_see 41 = .ok (.iconst 4, 1) := by decide +kernel
theorem dX7_see_42 : decode cX7_see 42 = .ok (.if_icmp .ne 14, 3) := by decide +kernel
theorem dX7_see_45 : decode cX7_see 45 = .ok (.iload_n 3, 1) := by decide +kernel
theorem dX7_see_46 : decode cX7_see 46 = .ok (.ifCond .eq 10, 3) := by decide +kernel
theorem dX7_see_49 : decode cX7_see 49 = .ok (.aload_n 0, 1) := by decide +kernel
theorem dX7_see_50 : decode cX7_see 50 = .ok (.bipush (-5), 2) := by decide +kernel
theorem dX7_see_52 : decode cX7_see 52 = .ok (.invokevirtual 94, 3) := by decide +kernel
theorem dX7_see_55 : decode cX7_see 55 = .ok (.ireturn, 1) := by decide +kernel
theorem dX7_see_56 : decode cX7_see 56 = .ok (.aload_n 0, 1) := by decide +kernel
theorem dX7_see_57 : decode cX7_see 57 = .ok (.getfield 47, 3) := by decide +kernel
theorem dX7_see_60 : decode cX7_see 60 = .ok (.iload_n 1, 1) := by decide +kernel
theorem dX7_see_61 : decode cX7_see 61 = .ok (.iaload, 1) := by decide +kernel
theorem dX7_see_62 : decode cX7_see 62 = .ok (.iload_n 2, 1) := by decide +kernel
theorem dX7_see_63 : decode cX7_see 63 = .ok (.invokestatic 84, 3) := by decide +kernel
theorem dX7_see_66 : decode cX7_see 66 = .ok (.ifCond .eq 7, 3) := by decide +kernel
theorem dX7_see_69 : decode cX7_see 69 = .ok (.iconst 2, 1) := by decide +kernel
theorem dX7_see_70 : decode cX7_see 70 = .ok (.goto 21, 3) := by decide +kernel
theorem dX7_see_73 : decode cX7_see 73 = .ok (.aload_n 0, 1) := by decide +kernel
theorem dX7_see_74 : decode cX7_see 74 = .ok (.getfield 50, 3) := by decide +kernel
theorem dX7_see_77 : decode cX7_see 77 = .ok (.iload_n 1, 1) := by decide +kernel
theorem dX7_see_78 : decode cX7_see 78 = .ok (.iaload, 1) := by decide +kernel
theorem dX7_see_79 : decode cX7_see 79 = .ok (.iload_n 2, 1) := by decide +kernel
theorem dX7_see_80 : decode cX7_see 80 = .ok (.invokestatic 84, 3) := by decide +kernel
theorem dX7_see_83 : decode cX7_see 83 = .ok (.ifCond .eq 7, 3) := by decide +kernel
theorem dX7_see_86 : decode cX7_see 86 = .ok (.iconst 1, 1) := by decide +kernel
theorem dX7_see_87 : decode cX7_see 87 = .ok (.goto 4, 3) := by decide +kernel
theorem dX7_see_90 : decode cX7_see 90 = .ok (.iconst 0, 1) := by decide +kernel
theorem dX7_see_91 : decode cX7_see 91 = .ok (.istore 4, 2) := by decide +kernel
theorem dX7_see_93 : decode cX7_see 93 = .ok (.aload_n 0, 1) := by decide +kernel
theorem dX7_see_94 : decode cX7_see 94 = .ok (.iload_n 1, 1) := by decide +kernel
theorem dX7_see_95 : decode cX7_see 95 = .ok (.iload_n 2, 1) := by decide +kernel
theorem dX7_see_96 : decode cX7_see 96 = .ok (.iload_n 3, 1) := by decide +kernel
theorem dX7_see_97 : decode cX7_see 97 = .ok (.invokevirtual 143, 3) := by decide +kernel
theorem dX7_see_100 : decode cX7_see 100 = .ok (.iload 4, 2) := by decide +kernel
theorem dX7_see_102 : decode cX7_see 102 = .ok (.ireturn, 1) := by decide +kernel
set_option maxRecDepth 20000 in
theorem ggX7_hear_X7_isOne : GoodIn wsX7_hear wsX7_isOne := goodIn_r _ [6, 7, 8, 9, 5, 10, 24, 25, 26, 27, 28, 29, 30, 31, 32, 33, 34, 35, 36, 37, 38, 39, 40, 41, 42, 43, 44, 45, 46, 47, 48, 49, 50, 51, 52, 53, 54, 55, 56] (by decide +kernel) (by decide +kernel)
set_option maxRecDepth 20000 in
theorem gX7_hear_X7_isOne : GoodIn wsX7_hear (wsV RX7 105 RX7 yX7_isOne wsX7_isOne) := goodIn_app (goodIn_of _ (by decide +kernel)) ggX7_hear_X7_isOne
set_option maxRecDepth 20000 in
theorem ggX7_hear_X7_isSight : GoodIn wsX7_hear wsX7_isSight := goodIn_r _ [14, 15, 8, 9, 5, 10, 24, 25, 26, 27, 28, 29, 30, 31, 32, 33, 34, 35, 36, 37, 38, 39, 40, 41, 42, 43, 44, 45, 46, 47, 48, 49, 50, 51, 52, 53, 54, 55, 56] (by decide +kernel) (by decide +kernel)
set_option maxRecDepth 20000 in
theorem gX7_hear_X7_isSight : GoodIn wsX7_hear (wsV RX7 138 RX7 yX7_isSight wsX7_isSight) := goodIn_app (goodIn_of _ (by decide +kernel)) ggX7_hear_X7_isSight
set_option maxRecDepth 20000 in
theorem ggX7_hear_X7_refuse : GoodIn wsX7_hear wsX7_refuse := goodIn_r _ [19, 20, 24, 25, 26, 27, 28, 29, 30, 31, 32, 33, 34, 35, 36, 37, 38, 39, 40, 41, 42, 43, 44, 45, 46, 47, 48, 49, 50, 51, 52, 53, 54, 55, 56] (by decide +kernel) (by decide +kernel)
set_option maxRecDepth 20000 in
theorem gX7_hear_X7_refuse : GoodIn wsX7_hear (wsV RX7 94 RX7 yX7_refuse wsX7_refuse) := goodIn_app (goodIn_of _ (by decide +kernel)) ggX7_hear_X7_refuse
set_option maxRecDepth 20000 in
theorem ggX7_hear_X7_has : GoodIn wsX7_hear wsX7_has := goodIn_r _ [23] (by decide +kernel) (by decide +kernel)
set_option maxRecDepth 20000 in
theorem gX7_hear_X7_has : GoodIn wsX7_hear (va_wsS RX7 84 yX7_has wsX7_has) := goodIn_app (goodIn_of _ (by decide +kernel)) ggX7_hear_X7_has
theorem dX7_hear_0 : decode cX7_hear 0 = .ok (.aload_n 0, 1) := by decide +kernel
theorem dX7_hear_1 : decode cX7_hear 1 = .ok (.iload_n 1, 1) := by decide +kernel
theorem dX7_hear_2 : decode cX7_hear 2 = .ok (.invokevirtual 105, 3) := by decide +kernel
theorem dX7_hear_5 : decode cX7_hear 5 = .ok (.ifCond .eq 11, 3) := by decide +kernel
theorem dX7_hear_8 : decode cX7_hear 8 = .ok (.aload_n 0, 1) := by decide +kernel
theorem dX7_hear_9 : decode cX7_hear 9 = .ok (.iload_n 2, 1) := by decide +kernel
theorem dX7_hear_10 : decode cX7_hear 10 = .ok (.invokevirtual 138, 3) := by decide +kernel
theorem dX7_hear_13 : decode cX7_hear 13 = .ok (.ifCond .ne 10, 3) := by decide +kernel
theorem dX7_hear_16 : decode cX7_hear 16 = .ok (.aload_n 0, 1) := by decide +kernel
theorem dX7_hear_17 : decode cX7_hear 17 = .ok (.bipush (-2), 2) := by decide +kernel
theorem dX7_hear_19 : decode cX7_hear 19 = .ok (.invokevirtual 94, 3) := by decide +kernel
theorem dX7_hear_22 : decode cX7_hear 22 = .ok (.ireturn, 1) := by decide +kernel
theorem dX7_hear_23 : decode cX7_hear 23 = .ok (.aload_n 0, 1) := by decide +kernel
theorem dX7_hear_24 : decode cX7_hear 24 = .ok (.getfield 53, 3) := by decide +kernel
theorem dX7_hear_27 : decode cX7_hear 27 = .ok (.iload_n 1, 1) := by decide +kernel
theorem dX7_hear_28 : decode cX7_hear 28 = .ok (.iaload, 1) := by decide +kernel
theorem dX7_hear_29 : decode cX7_hear 29 = .ok (.iload_n 2, 1) := by decide +kernel
theorem dX7_hear_30 : decode cX7_hear 30 = .ok (.invokestatic 84, 3) := by decide +kernel
theorem dX7_hear_33 : decode cX7_hear 33 = .ok (.istore 4, 2) := by decide +kernel
theorem dX7_hear_35 : decode cX7_hear 35 = .ok (.aload_n 0, 1) := by decide +kernel
theorem dX7_hear_36 : decode cX7_hear 36 = .ok (.getfield 53, 3) := by decide +kernel
theorem dX7_hear_39 : decode cX7_hear 39 = .ok (.iload_n 1, 1) := by decide +kernel
theorem dX7_hear_40 : decode cX7_hear 40 = .ok (.iload_n 3, 1) := by decide +kernel
theorem dX7_hear_41 : decode cX7_hear 41 = .ok (.ifCond .eq 16, 3) := by decide +kernel
theorem dX7_hear_44 : decode cX7_hear 44 = .ok (.aload_n 0, 1) := by decide +kernel
theorem dX7_hear_45 : decode cX7_hear 45 = .ok (.getfield 53, 3) := by decide +kernel
theorem dX7_hear_48 : decode cX7_hear 48 = .ok (.iload_n 1, 1) := by decide +kernel
theorem dX7_hear_49 : decode cX7_hear 49 = .ok (.iaload, 1) := by decide +kernel
theorem dX7_hear_50 : decode cX7_hear 50 = .ok (.iconst 1, 1) := by decide +kernel
theorem dX7_hear_51 : decode cX7_hear 51 = .ok (.iload_n 2, 1) := by decide +kernel
theorem dX7_hear_52 : decode cX7_hear 52 = .ok (.ishl, 1) := by decide +kernel
theorem dX7_hear_53 : decode cX7_hear 53 = .ok (.ior, 1) := by decide +kernel
theorem dX7_hear_54 : decode cX7_hear 54 = .ok (.goto 15, 3) := by decide +kernel
theorem dX7_hear_57 : decode cX7_hear 57 = .ok (.aload_n 0, 1) := by decide +kernel
theorem dX7_hear_58 : decode cX7_hear 58 = .ok (.getfield 53, 3) := by decide +kernel
theorem dX7_hear_61 : decode cX7_hear 61 = .ok (.iload_n 1, 1) := by decide +kernel
theorem dX7_hear_62 : decode cX7_hear 62 = .ok (.iaload, 1) := by decide +kernel
theorem dX7_hear_63 : decode cX7_hear 63 = .ok (.iconst 1, 1) := by decide +kernel
theorem dX7_hear_64 : decode cX7_hear 64 = .ok (.iload_n 2, 1) := by decide +kernel
theorem dX7_hear_65 : decode cX7_hear 65 = .ok (.ishl, 1) := by decide +kernel
theorem dX7_hear_66 : decode cX7_hear 66 = .ok (.iconst (-1), 1) := by decide +kernel
theorem dX7_hear_67 : decode cX7_hear 67 = .ok (.ixor, 1) := by decide +kernel
theorem dX7_hear_68 : decode cX7_hear 68 = .ok (.iand, 1) := by decide +kernel
theorem dX7_hear_69 : decode cX7_hear 69 = .ok (.iastore, 1) := by decide +kernel
theorem dX7_hear_70 : decode cX7_hear 70 = .ok (.iload 4, 2) := by decide +kernel
theorem dX7_hear_72 : decode cX7_hear 72 = .ok (.iload_n 3, 1) := by decide +kernel
theorem dX7_hear_73 : decode cX7_hear 73 = .ok (.if_icmp .eq 7, 3) := by decide +kernel
theorem dX7_hear_76 : decode cX7_hear 76 = .ok (.iconst 1, 1) := by decide +kernel
theorem dX7_hear_77 : decode cX7_hear 77 = .ok (.goto 4, 3) := by decide +kernel
theorem dX7_hear_80 : decode cX7_hear 80 = .ok (.iconst 0, 1) := by decide +kernel
theorem dX7_hear_81 : decode cX7_hear 81 = .ok (.ireturn, 1) := by decide +kernel
set_option maxRecDepth 20000 in
theorem ggX7_near_X7_isOne : GoodIn wsX7_near wsX7_isOne := goodIn_r _ [6, 7, 8, 9, 5, 10, 19, 20, 21, 22, 23, 24, 25, 26, 27, 28, 29, 30, 31, 32, 33, 34, 35, 36, 37, 38, 39, 40, 41, 42, 43, 44, 45, 46, 47, 48, 49, 50, 51] (by decide +kernel) (by decide +kernel)
set_option maxRecDepth 20000 in
theorem gX7_near_X7_isOne : GoodIn wsX7_near (wsV RX7 105 RX7 yX7_isOne wsX7_isOne) := goodIn_app (goodIn_of _ (by decide +kernel)) ggX7_near_X7_isOne
set_option maxRecDepth 20000 in
theorem ggX7_near_X7_refuse : GoodIn wsX7_near wsX7_refuse := goodIn_r _ [14, 15, 19, 20, 21, 22, 23, 24, 25, 26, 27, 28, 29, 30, 31, 32, 33, 34, 35, 36, 37, 38, 39, 40, 41, 42, 43, 44, 45, 46, 47, 48, 49, 50, 51] (by decide +kernel) (by decide +kernel)
set_option maxRecDepth 20000 in
theorem gX7_near_X7_refuse : GoodIn wsX7_near (wsV RX7 94 RX7 yX7_refuse wsX7_refuse) := goodIn_app (goodIn_of _ (by decide +kernel)) ggX7_near_X7_refuse
set_option maxRecDepth 20000 in
theorem ggX7_near_X7_has : GoodIn wsX7_near wsX7_has := goodIn_r _ [18] (by decide +kernel) (by decide +kernel)
set_option maxRecDepth 20000 in
theorem gX7_near_X7_has : GoodIn wsX7_near (va_wsS RX7 84 yX7_has wsX7_has) := goodIn_app (goodIn_of _ (by decide +kernel)) ggX7_near_X7_has
theorem dX7_near_0 : decode cX7_near 0 = .ok (.aload_n 0, 1) := by decide +kernel
theorem dX7_near_1 : decode cX7_near 1 = .ok (.iload_n 1, 1) := by decide +kernel
theorem dX7_near_2 : decode cX7_near 2 = .ok (.invokevirtual 105, 3) := by decide +kernel
theorem dX7_near_5 : decode cX7_near 5 = .ok (.ifCond .eq 16, 3) := by decide +kernel
theorem dX7_near_8 : decode cX7_near 8 = .ok (.aload_n 0, 1) := by decide +kernel
theorem dX7_near_9 : decode cX7_near 9 = .ok (.iload_n 2, 1) := by decide +kernel
theorem dX7_near_10 : decode cX7_near 10 = .ok (.invokevirtual 105, 3) := by decide +kernel
theorem dX7_near_13 : decode cX7_near 13 = .ok (.ifCond .eq 8, 3) := by decide +kernel
theorem dX7_near_16 : decode cX7_near 16 = .ok (.iload_n 1, 1) := by decide +kernel
theorem dX7_near_17 : decode cX7_near 17 = .ok (.iload_n 2, 1) := by decide +kernel
theorem dX7_near_18 : decode cX7_near 18 = .ok (.if_icmp .ne 10, 3) := by decide +kernel
theorem dX7_near_21 : decode cX7_near 21 = .ok (.aload_n 0, 1) := by decide +kernel
theorem dX7_near_22 : decode cX7_near 22 = .ok (.bipush (-2), 2) := by decide +kernel
theorem dX7_near_24 : decode cX7_near 24 = .ok (.invokevirtual 94, 3) := by decide +kernel
theorem dX7_near_27 : decode cX7_near 27 = .ok (.ireturn, 1) := by decide +kernel
theorem dX7_near_28 : decode cX7_near 28 = .ok (.aload_n 0, 1) := by decide +kernel
theorem dX7_near_29 : decode cX7_near 29 = .ok (.getfield 56, 3) := by decide +kernel
theorem dX7_near_32 : decode cX7_near 32 = .ok (.iload_n 1, 1) := by decide +kernel
theorem dX7_near_33 : decode cX7_near 33 = .ok (.iaload, 1) := by decide +kernel
theorem dX7_near_34 : decode cX7_near 34 = .ok (.iload_n 2, 1) := by decide +kernel
theorem dX7_near_35 : decode cX7_near 35 = .ok (.invokestatic 84, 3) := by decide +kernel
theorem dX7_near_38 : decode cX7_near 38 = .ok (.istore 4, 2) := by decide +kernel
theorem dX7_near_40 : decode cX7_near 40 = .ok (.aload_n 0, 1) := by decide +kernel
theorem dX7_near_41 : decode cX7_near 41 = .ok (.getfield 56, 3) := by decide +kernel
theorem dX7_near_44 : decode cX7_near 44 = .ok (.iload_n 1, 1) := by decide +kernel
theorem dX7_near_45 : decode cX7_near 45 = .ok (.iload_n 3, 1) := by decide +kernel
theorem dX7_near_46 : decode cX7_near 46 = .ok (.ifCond .eq 16, 3) := by decide +kernel
theorem dX7_near_49 : decode cX7_near 49 = .ok (.aload_n 0, 1) := by decide +kernel
theorem dX7_near_50 : decode cX7_near 50 = .ok (.getfield 56, 3) := by decide +kernel
theorem dX7_near_53 : decode cX7_near 53 = .ok (.iload_n 1, 1) := by decide +kernel
theorem dX7_near_54 : decode cX7_near 54 = .ok (.iaload, 1) := by decide +kernel
theorem dX7_near_55 : decode cX7_near 55 = .ok (.iconst 1, 1) := by decide +kernel
theorem dX7_near_56 : decode cX7_near 56 = .ok (.iload_n 2, 1) := by decide +kernel
theorem dX7_near_57 : decode cX7_near 57 = .ok (.ishl, 1) := by decide +kernel
theorem dX7_near_58 : decode cX7_near 58 = .ok (.ior, 1) := by decide +kernel
theorem dX7_near_59 : decode cX7_near 59 = .ok (.goto 15, 3) := by decide +kernel
theorem dX7_near_62 : decode cX7_near 62 = .ok (.aload_n 0, 1) := by decide +kernel
theorem dX7_near_63 : decode cX7_near 63 = .ok (.getfield 56, 3) := by decide +kernel
theorem dX7_near_66 : decode cX7_near 66 = .ok (.iload_n 1, 1) := by decide +kernel
theorem dX7_near_67 : decode cX7_near 67 = .ok (.iaload, 1) := by decide +kernel
theorem dX7_near_68 : decode cX7_near 68 = .ok (.iconst 1, 1) := by decide +kernel
theorem dX7_near_69 : decode cX7_near 69 = .ok (.iload_n 2, 1) := by decide +kernel
theorem dX7_near_70 : decode cX7_near 70 = .ok (.ishl, 1) := by decide +kernel
theorem dX7_near_71 : decode cX7_near 71 = .ok (.iconst (-1), 1) := by decide +kernel
theorem dX7_near_72 : decode cX7_near 72 = .ok (.ixor, 1) := by decide +kernel
theorem dX7_near_73 : decode cX7_near 73 = .ok (.iand, 1) := by decide +kernel
theorem dX7_near_74 : decode cX7_near 74 = .ok (.iastore, 1) := by decide +kernel
theorem dX7_near_75 : decode cX7_near 75 = .ok (.iload 4, 2) := by decide +kernel
theorem dX7_near_77 : decode cX7_near 77 = .ok (.iload_n 3, 1) := by decide +kernel
theorem dX7_near_78 : decode cX7_near 78 = .ok (.if_icmp .eq 7, 3) := by decide +kernel
theorem dX7_near_81 : decode cX7_near 81 = .ok (.iconst 1, 1) := by decide +kernel
theorem dX7_near_82 : decode cX7_near 82 = .ok (.goto 4, 3) := by decide +kernel
theorem dX7_near_85 : decode cX7_near 85 = .ok (.iconst 0, 1) := by decide +kernel
theorem dX7_near_86 : decode cX7_near 86 = .ok (.ireturn, 1) := by decide +kernel
theorem dX7_mostOf_0 : decode cX7_mostOf 0 = .ok (.iload_n 0, 1) := by decide +kernel
theorem dX7_mostOf_1 : decode cX7_mostOf 1 = .ok (.ifCond .ne 7, 3) := by decide +kernel
theorem dX7_mostOf_4 : decode cX7_mostOf 4 = .ok (.iconst 1, 1) := by decide +kernel
theorem dX7_mostOf_5 : decode cX7_mostOf 5 = .ok (.goto 5, 3) := by decide +kernel
theorem dX7_mostOf_8 : decode cX7_mostOf 8 = .ok (.bipush 9, 2) := by decide +kernel
theorem dX7_mostOf_10 : decode cX7_mostOf 10 = .ok (.ireturn, 1) := by decide +kernel
set_option maxRecDepth 20000 in
theorem ggX7_ask_X7_in : GoodIn wsX7_ask wsX7_in := goodIn_r _ [6] (by decide +kernel) (by decide +kernel)
set_option maxRecDepth 20000 in
theorem gX7_ask_X7_in : GoodIn wsX7_ask (va_wsS RX7 80 yX7_in wsX7_in) := goodIn_app (goodIn_of _ (by decide +kernel)) ggX7_ask_X7_in
set_option maxRecDepth 20000 in
theorem ggX7_ask_X7_mostOf : GoodIn wsX7_ask wsX7_mostOf := goodIn_r _ [9] (by decide +kernel) (by decide +kernel)
set_option maxRecDepth 20000 in
theorem gX7_ask_X7_mostOf : GoodIn wsX7_ask (va_wsS RX7 147 yX7_mostOf wsX7_mostOf) := goodIn_app (goodIn_of _ (by decide +kernel)) ggX7_ask_X7_mostOf
set_option maxRecDepth 20000 in
theorem ggX7_ask_X7_refuse : GoodIn wsX7_ask wsX7_refuse := goodIn_r _ [13, 14, 15, 16, 17, 18, 19, 20, 21, 22, 23, 24, 25, 26, 27, 28, 29, 30, 31, 32, 33, 34, 35, 36, 37, 38, 39, 40, 41, 42, 43, 44, 45, 46, 47] (by decide +kernel) (by decide +kernel)
set_option maxRecDepth 20000 in
theorem gX7_ask_X7_refuse : GoodIn wsX7_ask (wsV RX7 94 RX7 yX7_refuse wsX7_refuse) := goodIn_app (goodIn_of _ (by decide +kernel)) ggX7_ask_X7_refuse
theorem dX7_ask_0 : decode cX7_ask 0 = .ok (.iload_n 1, 1) := by decide +kernel
theorem dX7_ask_1 : decode cX7_ask 1 = .ok (.i2l, 1) := by decide +kernel
theorem dX7_ask_2 : decode cX7_ask 2 = .ok (.lconst 0, 1) := by decide +kernel
theorem dX7_ask_3 : decode cX7_ask 3 = .ok (.ldc2_w 141, 3) := by decide +kernel
theorem dX7_ask_6 : decode cX7_ask 6 = .ok (.invokestatic 80, 3) := by decide +kernel
theorem dX7_ask_9 : decode cX7_ask 9 = .ok (.ifCond .eq 17, 3) := by decide +kernel
theorem dX7_ask_12 : decode cX7_ask 12 = .ok (.iload_n 2, 1) := by decide +kernel
theorem dX7_ask_13 : decode cX7_ask 13 = .ok (.i2l, 1) := by decide +kernel
theorem dX7_ask_14 : decode cX7_ask 14 = .ok (.lconst 0, 1) := by decide +kernel
theorem dX7_ask_15 : decode cX7_ask 15 = .ok (.iload_n 1, 1) := by decide +kernel
theorem dX7_ask_16 : decode cX7_ask 16 = .ok (.invokestatic 147, 3) := by decide +kernel
theorem dX7_ask_19 : decode cX7_ask 19 = .ok (.i2l, 1) := by decide +kernel
theorem dX7_ask_20 : decode cX7_ask 20 = .ok (.invokestatic 80, 3) := by decide +kernel
theorem dX7_ask_23 : decode cX7_ask 23 = .ok (.ifCond .ne 10, 3) := by decide +kernel
theorem dX7_ask_26 : decode cX7_ask 26 = .ok (.aload_n 0, 1) := by decide +kernel
theorem dX7_ask_27 : decode cX7_ask 27 = .ok (.bipush (-2), 2) := by decide +kernel
theorem dX7_ask_29 : decode cX7_ask 29 = .ok (.invokevirtual 94, 3) := by decide +kernel
theorem dX7_ask_32 : decode cX7_ask 32 = .ok (.ireturn, 1) := by decide +kernel
theorem dX7_ask_33 : decode cX7_ask 33 = .ok (.aload_n 0, 1) := by decide +kernel
theorem dX7_ask_34 : decode cX7_ask 34 = .ok (.getfield 59, 3) := by decide +kernel
theorem dX7_ask_37 : decode cX7_ask 37 = .ok (.iload_n 1, 1) := by decide +kernel
theorem dX7_ask_38 : decode cX7_ask 38 = .ok (.iaload, 1) := by decide +kernel
theorem dX7_ask_39 : decode cX7_ask 39 = .ok (.istore_n 3, 1) := by decide +kernel
theorem dX7_ask_40 : decode cX7_ask 40 = .ok (.aload_n 0, 1) := by decide +kernel
theorem dX7_ask_41 : decode cX7_ask 41 = .ok (.getfield 59, 3) := by decide +kernel
theorem dX7_ask_44 : decode cX7_ask 44 = .ok (.iload_n 1, 1) := by decide +kernel
theorem dX7_ask_45 : decode cX7_ask 45 = .ok (.iload_n 2, 1) := by decide +kernel
theorem dX7_ask_46 : decode cX7_ask 46 = .ok (.iastore, 1) := by decide +kernel
theorem dX7_ask_47 : decode cX7_ask 47 = .ok (.iload_n 3, 1) := by decide +kernel
theorem dX7_ask_48 : decode cX7_ask 48 = .ok (.ireturn, 1) := by decide +kernel
set_option maxRecDepth 20000 in
theorem ggX7_feed_X7_in : GoodIn wsX7_feed wsX7_in := goodIn_r _ [7] (by decide +kernel) (by decide +kernel)
set_option maxRecDepth 20000 in
theorem gX7_feed_X7_in : GoodIn wsX7_feed (va_wsS RX7 80 yX7_in wsX7_in) := goodIn_app (goodIn_of _ (by decide +kernel)) ggX7_feed_X7_in
set_option maxRecDepth 20000 in
theorem ggX7_feed_X7_refuse : GoodIn wsX7_feed wsX7_refuse := goodIn_r _ [11, 12, 13, 14, 15, 16, 17, 18, 19, 20, 21, 22, 23, 24, 25, 26, 27, 28, 29, 30, 31, 32, 33, 34, 35, 36, 37, 38, 39, 40, 41, 42, 43, 44, 45] (by decide +kernel) (by decide +kernel)
set_option maxRecDepth 20000 in
theorem gX7_feed_X7_refuse : GoodIn wsX7_feed (wsV RX7 94 RX7 yX7_refuse wsX7_refuse) := goodIn_app (goodIn_of _ (by decide +kernel)) ggX7_feed_X7_refuse
theorem dX7_feed_0 : decode cX7_feed 0 = .ok (.iload_n 1, 1) := by decide +kernel
theorem dX7_feed_1 : decode cX7_feed 1 = .ok (.i2l, 1) := by decide +kernel
theorem dX7_feed_2 : decode cX7_feed 2 = .ok (.lconst 0, 1) := by decide +kernel
theorem dX7_feed_3 : decode cX7_feed 3 = .ok (.ldc2_w 150, 3) := by decide +kernel
theorem dX7_feed_6 : decode cX7_feed 6 = .ok (.invokestatic 80, 3) := by decide +kernel
theorem dX7_feed_9 : decode cX7_feed 9 = .ok (.ifCond .ne 10, 3) := by decide +kernel
theorem dX7_feed_12 : decode cX7_feed 12 = .ok (.aload_n 0, 1) := by decide +kernel
theorem dX7_feed_13 : decode cX7_feed 13 = .ok (.bipush (-2), 2) := by decide +kernel
theorem dX7_feed_15 : decode cX7_feed 15 = .ok (.invokevirtual 94, 3) := by decide +kernel
theorem dX7_feed_18 : decode cX7_feed 18 = .ok (.ireturn, 1) := by decide +kernel
theorem dX7_feed_19 : decode cX7_feed 19 = .ok (.aload_n 0, 1) := by decide +kernel
theorem dX7_feed_20 : decode cX7_feed 20 = .ok (.getfield 152, 3) := by decide +kernel
theorem dX7_feed_23 : decode cX7_feed 23 = .ok (.sipush 250, 3) := by decide +kernel
theorem dX7_feed_26 : decode cX7_feed 26 = .ok (.if_icmp .ne 10, 3) := by decide +kernel
theorem dX7_feed_29 : decode cX7_feed 29 = .ok (.aload_n 0, 1) := by decide +kernel
theorem dX7_feed_30 : decode cX7_feed 30 = .ok (.bipush (-6), 2) := by decide +kernel
theorem dX7_feed_32 : decode cX7_feed 32 = .ok (.invokevirtual 94, 3) := by decide +kernel
theorem dX7_feed_35 : decode cX7_feed 35 = .ok (.ireturn, 1) := by decide +kernel
theorem dX7_feed_36 : decode cX7_feed 36 = .ok (.aload_n 0, 1) := by decide +kernel
theorem dX7_feed_37 : decode cX7_feed 37 = .ok (.getfield 31, 3) := by decide +kernel
theorem dX7_feed_40 : decode cX7_feed 40 = .ok (.aload_n 0, 1) := by decide +kernel
theorem dX7_feed_41 : decode cX7_feed 41 = .ok (.dup, 1) := by decide +kernel
theorem dX7_feed_42 : decode cX7_feed 42 = .ok (.getfield 152, 3) := by decide +kernel
theorem dX7_feed_45 : decode cX7_feed 45 = .ok (.dup_x1, 1) := by decide +kernel
theorem dX7_feed_46 : decode cX7_feed 46 = .ok (.iconst 1, 1) := by decide +kernel
theorem dX7_feed_47 : decode cX7_feed 47 = .ok (.iadd, 1) := by decide +kernel
theorem dX7_feed_48 : decode cX7_feed 48 = .ok (.putfield 152, 3) := by decide +kernel
theorem dX7_feed_51 : decode cX7_feed 51 = .ok (.iload_n 1, 1) := by decide +kernel
theorem dX7_feed_52 : decode cX7_feed 52 = .ok (.iastore, 1) := by decide +kernel
theorem dX7_feed_53 : decode cX7_feed 53 = .ok (.aload_n 0, 1) := by decide +kernel
theorem dX7_feed_54 : decode cX7_feed 54 = .ok (.getfield 152, 3) := by decide +kernel
theorem dX7_feed_57 : decode cX7_feed 57 = .ok (.ireturn, 1) := by decide +kernel
theorem dX7_wipe_0 : decode cX7_wipe 0 = .ok (.aload_n 0, 1) := by decide +kernel
theorem dX7_wipe_1 : decode cX7_wipe 1 = .ok (.getfield 152, 3) := by decide +kernel
theorem dX7_wipe_4 : decode cX7_wipe 4 = .ok (.istore_n 1, 1) := by decide +kernel
theorem dX7_wipe_5 : decode cX7_wipe 5 = .ok (.aload_n 0, 1) := by decide +kernel
theorem dX7_wipe_6 : decode cX7_wipe 6 = .ok (.iconst 0, 1) := by decide +kernel
theorem dX7_wipe_7 : decode cX7_wipe 7 = .ok (.putfield 152, 3) := by decide +kernel
theorem dX7_wipe_10 : decode cX7_wipe 10 = .ok (.iload_n 1, 1) := by decide +kernel
theorem dX7_wipe_11 : decode cX7_wipe 11 = .ok (.ireturn, 1) := by decide +kernel
theorem dX7_isLetter_0 : decode cX7_isLetter 0 = .ok (.iload_n 0, 1) := by decide +kernel
theorem dX7_isLetter_1 : decode cX7_isLetter 1 = .ok (.bipush 97, 2) := by decide +kernel
theorem dX7_isLetter_3 : decode cX7_isLetter 3 = .ok (.if_icmp .lt 13, 3) := by decide +kernel
theorem dX7_isLetter_6 : decode cX7_isLetter 6 = .ok (.iload_n 0, 1) := by decide +kernel
theorem dX7_isLetter_7 : decode cX7_isLetter 7 = .ok (.bipush 122, 2) := by decide +kernel
theorem dX7_isLetter_9 : decode cX7_isLetter 9 = .ok (.if_icmp .gt 7, 3) := by decide +kernel
theorem dX7_isLetter_12 : decode cX7_isLetter 12 = .ok (.iconst 1, 1) := by decide +kernel
theorem dX7_isLetter_13 : decode cX7_isLetter 13 = .ok (.goto 4, 3) := by decide +kernel
theorem dX7_isLetter_16 : decode cX7_isLetter 16 = .ok (.iconst 0, 1) := by decide +kernel
theorem dX7_isLetter_17 : decode cX7_isLetter 17 = .ok (.ireturn, 1) := by decide +kernel
theorem dX7_isDigit_0 : decode cX7_isDigit 0 = .ok (.iload_n 0, 1) := by decide +kernel
theorem dX7_isDigit_1 : decode cX7_isDigit 1 = .ok (.bipush 48, 2) := by decide +kernel
theorem dX7_isDigit_3 : decode cX7_isDigit 3 = .ok (.if_icmp .lt 13, 3) := by decide +kernel
theorem dX7_isDigit_6 : decode cX7_isDigit 6 = .ok (.iload_n 0, 1) := by decide +kernel
theorem dX7_isDigit_7 : decode cX7_isDigit 7 = .ok (.bipush 57, 2) := by decide +kernel
theorem dX7_isDigit_9 : decode cX7_isDigit 9 = .ok (.if_icmp .gt 7, 3) := by decide +kernel
theorem dX7_isDigit_12 : decode cX7_isDigit 12 = .ok (.iconst 1, 1) := by decide +kernel
theorem dX7_isDigit_13 : decode cX7_isDigit 13 = .ok (.goto 4, 3) := by decide +kernel
theorem dX7_isDigit_16 : decode cX7_isDigit 16 = .ok (.iconst 0, 1) := by decide +kernel
theorem dX7_isDigit_17 : decode cX7_isDigit 17 = .ok (.ireturn, 1) := by decide +kernel
set_option maxRecDepth 20000 in
theorem ggX7_look_X7_isLetter : GoodIn wsX7_look wsX7_isLetter := goodIn_r _ [11] (by decide +kernel) (by decide +kernel)
set_option maxRecDepth 20000 in
theorem gX7_look_X7_isLetter : GoodIn wsX7_look (va_wsS RX7 167 yX7_isLetter wsX7_isLetter) := goodIn_app (goodIn_of _ (by decide +kernel)) ggX7_look_X7_isLetter
set_option maxRecDepth 20000 in
theorem ggX7_look_X7_isDigit : GoodIn wsX7_look wsX7_isDigit := goodIn_r _ [14] (by decide +kernel) (by decide +kernel)
set_option maxRecDepth 20000 in
theorem gX7_look_X7_isDigit : GoodIn wsX7_look (va_wsS RX7 170 yX7_isDigit wsX7_isDigit) := goodIn_app (goodIn_of _ (by decide +kernel)) ggX7_look_X7_isDigit
theorem dX7_look_0 : decode cX7_look 0 = .ok (.aload_n 0, 1) := by decide +kernel
theorem dX7_look_1 : decode cX7_look 1 = .ok (.getfield 155, 3) := by decide +kernel
theorem dX7_look_4 : decode cX7_look 4 = .ok (.aload_n 0, 1) := by decide +kernel
theorem dX7_look_5 : decode cX7_look 5 = .ok (.getfield 152, 3) := by decide +kernel
theorem dX7_look_8 : decode cX7_look 8 = .ok (.if_icmp .ge 30, 3) := by decide +kernel
theorem dX7_look_11 : decode cX7_look 11 = .ok (.aload_n 0, 1) := by decide +kernel
theorem dX7_look_12 : decode cX7_look 12 = .ok (.getfield 31, 3) := by decide +kernel
theorem dX7_look_15 : decode cX7_look 15 = .ok (.aload_n 0, 1) := by decide +kernel
theorem dX7_look_16 : decode cX7_look 16 = .ok (.getfield 155, 3) := by decide +kernel
theorem dX7_look_19 : decode cX7_look 19 = .ok (.iaload, 1) := by decide +kernel
theorem dX7_look_20 : decode cX7_look 20 = .ok (.bipush 32, 2) := by decide +kernel
theorem dX7_look_22 : decode cX7_look 22 = .ok (.if_icmp .ne 16, 3) := by decide +kernel
theorem dX7_look_25 : decode cX7_look 25 = .ok (.aload_n 0, 1) := by decide +kernel
theorem dX7_look_26 : decode cX7_look 26 = .ok (.dup, 1) := by decide +kernel
theorem dX7_look_27 : decode cX7_look 27 = .ok (.getfield 155, 3) := by decide +kernel
theorem dX7_look_30 : decode cX7_look 30 = .ok (.iconst 1, 1) := by decide +kernel
theorem dX7_look_31 : decode cX7_look 31 = .ok (.iadd, 1) := by decide +kernel
theorem dX7_look_32 : decode cX7_look 32 = .ok (.putfield 155, 3) := by decide +kernel
theorem dX7_look_35 : decode cX7_look 35 = .ok (.goto (-35), 3) := by decide +kernel
theorem dX7_look_38 : decode cX7_look 38 = .ok (.aload_n 0, 1) := by decide +kernel
theorem dX7_look_39 : decode cX7_look 39 = .ok (.aload_n 0, 1) := by decide +kernel
theorem dX7_look_40 : decode cX7_look 40 = .ok (.getfield 155, 3) := by decide +kernel
theorem dX7_look_43 : decode cX7_look 43 = .ok (.putfield 158, 3) := by decide +kernel
theorem dX7_look_46 : decode cX7_look 46 = .ok (.aload_n 0, 1) := by decide +kernel
theorem dX7_look_47 : decode cX7_look 47 = .ok (.iconst 0, 1) := by decide +kernel
theorem dX7_look_48 : decode cX7_look 48 = .ok (.putfield 161, 3) := by decide +kernel
theorem dX7_look_51 : decode cX7_look 51 = .ok (.aload_n 0, 1) := by decide +kernel
theorem dX7_look_52 : decode cX7_look 52 = .ok (.getfield 155, 3) := by decide +kernel
theorem dX7_look_55 : decode cX7_look 55 = .ok (.aload_n 0, 1) := by decide +kernel
theorem dX7_look_56 : decode cX7_look 56 = .ok (.getfield 152, 3) := by decide +kernel
theorem dX7_look_59 : decode cX7_look 59 = .ok (.if_icmp .ne 11, 3) := by decide +kernel
theorem dX7_look_62 : decode cX7_look 62 = .ok (.aload_n 0, 1) := by decide +kernel
theorem dX7_look_63 : decode cX7_look 63 = .ok (.iconst 0, 1) := by decide +kernel
theorem dX7_look_64 : decode cX7_look 64 = .ok (.putfield 164, 3) := by decide +kernel
theorem dX7_look_67 : decode cX7_look 67 = .ok (.goto 196, 3) := by decide +kernel
theorem dX7_look_70 : decode cX7_look 70 = .ok (.aload_n 0, 1) := by decide +kernel
theorem dX7_look_71 : decode cX7_look 71 = .ok (.getfield 31, 3) := by decide +kernel
theorem dX7_look_74 : decode cX7_look 74 = .ok (.aload_n 0, 1) := by decide +kernel
theorem dX7_look_75 : decode cX7_look 75 = .ok (.getfield 155, 3) := by decide +kernel
theorem dX7_look_78 : decode cX7_look 78 = .ok (.iaload, 1) := by decide +kernel
theorem dX7_look_79 : decode cX7_look 79 = .ok (.invokestatic 167, 3) := by decide +kernel
theorem dX7_look_82 : decode cX7_look 82 = .ok (.ifCond .eq 47, 3) := by decide +kernel
theorem dX7_look_85 : decode cX7_look 85 = .ok (.aload_n 0, 1) := by decide +kernel
theorem dX7_look_86 : decode cX7_look 86 = .ok (.iconst 1, 1) := by decide +kernel
theorem dX7_look_87 : decode cX7_look 87 = .ok (.putfield 164, 3) := by decide +kernel
theorem dX7_look_90 : decode cX7_look 90 = .ok (.aload_n 0, 1) := by decide +kernel
theorem dX7_look_91 : decode cX7_look 91 = .ok (.getfield 155, 3) := by decide +kernel
theorem dX7_look_94 : decode cX7_look 94 = .ok (.aload_n 0, 1) := by decide +kernel
theorem dX7_look_95 : decode cX7_look 95 = .ok (.getfield 152, 3) := by decide +kernel
theorem dX7_look_98 : decode cX7_look 98 = .ok (.if_icmp .ge 165, 3) := by decide +kernel
theorem dX7_look_101 : decode cX7_look 101 = .ok (.aload_n 0, 1) := by decide +kernel
theorem dX7_look_102 : decode cX7_look 102 = .ok (.getfield 31, 3) := by decide +kernel
theorem dX7_look_105 : decode cX7_look 105 = .ok (.aload_n 0, 1) := by decide +kernel
theorem dX7_look_106 : decode cX7_look 106 = .ok (.getfield 155, 3) := by decide +kernel
theorem dX7_look_109 : decode cX7_look 109 = .ok (.iaload, 1) := by decide +kernel
theorem dX7_look_110 : decode cX7_look 110 = .ok (.invokestatic 167, 3) := by decide +kernel
theorem dX7_look_113 : decode cX7_look 113 = .ok (.ifCond .eq 150, 3) := by decide +kernel
theorem dX7_look_116 : decode cX7_look 116 = .ok (.aload_n 0, 1) := by decide +kernel
theorem dX7_look_117 : decode cX7_look 117 = .ok (.dup, 1) := by decide +kernel
theorem dX7_look_118 : decode cX7_look 118 = .ok (.getfield 155, 3) := by decide +kernel
theorem dX7_look_121 : decode cX7_look 121 = .ok (.iconst 1, 1) := by decide +kernel
theorem dX7_look_122 : decode cX7_look 122 = .ok (.iadd, 1) := by decide +kernel
theorem dX7_look_123 : decode cX7_look 123 = .ok (.putfield 155, 3) := by decide +kernel
theorem dX7_look_126 : decode cX7_look 126 = .ok (.goto (-36), 3) := by decide +kernel
theorem dX7_look_129 : decode cX7_look 129 = .ok (.aload_n 0, 1) := by decide +kernel
theorem dX7_look_130 : decode cX7_look 130 = .ok (.getfield 31, 3) := by decide +kernel
theorem dX7_look_133 : decode cX7_look 133 = .ok (.aload_n 0, 1) := by decide +kernel
theorem dX7_look_134 : decode cX7_look 134 = .ok (.getfield 155, 3) := by decide +kernel
theorem dX7_look_137 : decode cX7_look 137 = .ok (.iaload, 1) := by decide +kernel
theorem dX7_look_138 : decode cX7_look 138 = .ok (.invokestatic 170, 3) := by decide +kernel
theorem dX7_look_141 : decode cX7_look 141 = .ok (.ifCond .eq 89, 3) := by decide +kernel
theorem dX7_look_144 : decode cX7_look 144 = .ok (.aload_n 0, 1) := by decide +kernel
theorem dX7_look_145 : decode cX7_look 145 = .ok (.iconst 2, 1) := by decide +kernel
theorem dX7_look_146 : decode cX7_look 146 = .ok (.putfield 164, 3) := by decide +kernel
theorem dX7_look_149 : decode cX7_look 149 = .ok (.aload_n 0, 1) := by decide +kernel
theorem dX7_look_150 : decode cX7_look 150 = .ok (.getfield 155, 3) := by decide +kernel
theorem dX7_look_153 : decode cX7_look 153 = .ok (.aload_n 0, 1) := by decide +kernel
theorem dX7_look_154 : decode cX7_look 154 = .ok (.getfield 152, 3) := by decide +kernel
theorem dX7_look_157 : decode cX7_look 157 = .ok (.if_icmp .ge 106, 3) := by decide +kernel
theorem dX7_look_160 : decode cX7_look 160 = .ok (.aload_n 0, 1) := by decide +kernel
theorem dX7_look_161 : decode cX7_look 161 = .ok (.getfield 31, 3) := by decide +kernel
theorem dX7_look_164 : decode cX7_look 164 = .ok (.aload_n 0, 1) := by decide +kernel
theorem dX7_look_165 : decode cX7_look 165 = .ok (.getfield 155, 3) := by decide +kernel
theorem dX7_look_168 : decode cX7_look 168 = .ok (.iaload, 1) := by decide +kernel
theorem dX7_look_169 : decode cX7_look 169 = .ok (.invokestatic 170, 3) := by decide +kernel
theorem dX7_look_172 : decode cX7_look 172 = .ok (.ifCond .eq 91, 3) := by decide +kernel
theorem dX7_look_175 : decode cX7_look 175 = .ok (.aload_n 0, 1) := by decide +kernel
theorem dX7_look_176 : decode cX7_look 176 = .ok (.aload_n 0, 1) := by decide +kernel
theorem dX7_look_177 : decode cX7_look 177 = .ok (.getfield 155, 3) := by decide +kernel
theorem dX7_look_180 : decode cX7_look 180 = .ok (.aload_n 0, 1) := by decide +kernel
theorem dX7_look_181 : decode cX7_look 181 = .ok (.getfield 158, 3) := by decide +kernel
theorem dX7_look_184 : decode cX7_look 184 = .ok (.isub, 1) := by decide +kernel
theorem dX7_look_185 : decode cX7_look 185 = .ok (.iconst 2, 1) := by decide +kernel
theorem dX7_look_186 : decode cX7_look 186 = .ok (.if_icmp .ge 26, 3) := by decide +kernel
theorem dX7_look_189 : decode cX7_look 189 = .ok (.aload_n 0, 1) := by decide +kernel
theorem dX7_look_190 : decode cX7_look 190 = .ok (.getfield 161, 3) := by decide +kernel
theorem dX7_look_193 : decode cX7_look 193 = .ok (.bipush 10, 2) := by decide +kernel
theorem dX7_look_195 : decode cX7_look 195 = .ok (.imul, 1) := by decide +kernel
theorem dX7_look_196 : decode cX7_look 196 = .ok (.aload_n 0, 1) := by decide +kernel
theorem dX7_look_197 : decode cX7_look 197 = .ok (.getfield 31, 3) := by decide +kernel
theorem dX7_look_200 : decode cX7_look 200 = .ok (.aload_n 0, 1) := by decide +kernel
theorem dX7_look_201 : decode cX7_look 201 = .ok (.getfield 155, 3) := by decide +kernel
theorem dX7_look_204 : decode cX7_look 204 = .ok (.iaload, 1) := by decide +kernel
theorem dX7_look_205 : decode cX7_look 205 = .ok (.iadd, 1) := by decide +kernel
theorem dX7_look_206 : decode cX7_look 206 = .ok (.bipush 48, 2) := by decide +kernel
theorem dX7_look_208 : decode cX7_look 208 = .ok (.isub, 1) := by decide +kernel
theorem dX7_look_209 : decode cX7_look 209 = .ok (.goto 5, 3) := by decide +kernel
theorem dX7_look_212 : decode cX7_look 212 = .ok (.ldc 173, 2) := by decide +kernel
theorem dX7_look_214 : decode cX7_look 214 = .ok (.putfield 161, 3) := by decide +kernel
theorem dX7_look_217 : decode cX7_look 217 = .ok (.aload_n 0, 1) := by decide +kernel
theorem dX7_look_218 : decode cX7_look 218 = .ok (.dup, 1) := by decide +kernel
theorem dX7_look_219 : decode cX7_look 219 = .ok (.getfield 155, 3) := by decide +kernel
theorem dX7_look_222 : decode cX7_look 222 = .ok (.iconst 1, 1) := by decide +kernel
theorem dX7_look_223 : decode cX7_look 223 = .ok (.iadd, 1) := by decide +kernel
theorem dX7_look_224 : decode cX7_look 224 = .ok (.putfield 155, 3) := by decide +kernel
theorem dX7_look_227 : decode cX7_look 227 = .ok (.goto (-78), 3) := by decide +kernel
theorem dX7_look_230 : decode cX7_look 230 = .ok (.aload_n 0, 1) := by decide +kernel
theorem dX7_look_231 : decode cX7_look 231 = .ok (.aload_n 0, 1) := by decide +kernel
theorem dX7_look_232 : decode cX7_look 232 = .ok (.getfield 31, 3) := by decide +kernel
theorem dX7_look_235 : decode cX7_look 235 = .ok (.aload_n 0, 1) := by decide +kernel
theorem dX7_look_236 : decode cX7_look 236 = .ok (.getfield 155, 3) := by decide +kernel
theorem dX7_look_239 : decode cX7_look 239 = .ok (.iaload, 1) := by decide +kernel
theorem dX7_look_240 : decode cX7_look 240 = .ok (.bipush 59, 2) := by decide +kernel
theorem dX7_look_242 : decode cX7_look 242 = .ok (.if_icmp .ne 7, 3) := by decide +kernel
theorem dX7_look_245 : decode cX7_look 245 = .ok (.iconst 3, 1) := by decide +kernel
theorem dX7_look_246 : decode cX7_look 246 = .ok (.goto 4, 3) := by decide +kernel
theorem dX7_look_249 : decode cX7_look 249 = .ok (.iconst 4, 1) := by decide +kernel
theorem dX7_look_250 : decode cX7_look 250 = .ok (.putfield 164, 3) := by decide +kernel
theorem dX7_look_253 : decode cX7_look 253 = .ok (.aload_n 0, 1) := by decide +kernel
theorem dX7_look_254 : decode cX7_look 254 = .ok (.dup, 1) := by decide +kernel
theorem dX7_look_255 : decode cX7_look 255 = .ok (.getfield 155, 3) := by decide +kernel
theorem dX7_look_258 : decode cX7_look 258 = .ok (.iconst 1, 1) := by decide +kernel
theorem dX7_look_259 : decode cX7_look 259 = .ok (.iadd, 1) := by decide +kernel
theorem dX7_look_260 : decode cX7_look 260 = .ok (.putfield 155, 3) := by decide +kernel
theorem dX7_look_263 : decode cX7_look 263 = .ok (.return_, 1) := by decide +kernel
theorem dX7_wrong_0 : decode cX7_wrong 0 = .ok (.aload_n 0, 1) := by decide +kernel
theorem dX7_wrong_1 : decode cX7_wrong 1 = .ok (.aload_n 0, 1) := by decide +kernel
theorem dX7_wrong_2 : decode cX7_wrong 2 = .ok (.getfield 158, 3) := by decide +kernel
theorem dX7_wrong_5 : decode cX7_wrong 5 = .ok (.putfield 174, 3) := by decide +kernel
theorem dX7_wrong_8 : decode cX7_wrong 8 = .ok (.iconst 0, 1) := by decide +kernel
theorem dX7_wrong_9 : decode cX7_wrong 9 = .ok (.ireturn, 1) := by decide +kernel
set_option maxRecDepth 20000 in
theorem ggX7_isWord_J0_length_8abf5 : GoodIn wsX7_isWord wsJ0_length_8abf5 := goodIn_r _ [9, 10, 11, 12, 13, 8, 14, 15, 16] (by decide +kernel) (by decide +kernel)
set_option maxRecDepth 20000 in
theorem gX7_isWord_J0_length_8abf5 : GoodIn wsX7_isWord (wsV RX7 177 RJ0 yJ0_length_8abf5 wsJ0_length_8abf5) := goodIn_app (goodIn_of _ (by decide +kernel)) ggX7_isWord_J0_length_8abf5
set_option maxRecDepth 20000 in
theorem ggX7_isWord_J0_charAt_5068e : GoodIn wsX7_isWord wsJ0_charAt_5068e := goodIn_r _ [20, 10, 21, 22, 23, 8, 24, 15, 16, 25, 26, 27, 28, 29, 30, 31, 32, 33, 34, 35, 36, 37, 38, 39, 40, 41, 42, 43, 44, 45, 46, 47, 48, 49, 50, 51, 52, 53] (by decide +kernel) (by decide +kernel)
set_option maxRecDepth 20000 in
theorem gX7_isWord_J0_charAt_5068e : GoodIn wsX7_isWord (wsV RX7 182 RJ0 yJ0_charAt_5068e wsJ0_charAt_5068e) := goodIn_app (goodIn_of _ (by decide +kernel)) ggX7_isWord_J0_charAt_5068e
theorem dX7_isWord_0 : decode cX7_isWord 0 = .ok (.aload_n 0, 1) := by decide +kernel
theorem dX7_isWord_1 : decode cX7_isWord 1 = .ok (.getfield 164, 3) := by decide +kernel
theorem dX7_isWord_4 : decode cX7_isWord 4 = .ok (.iconst 1, 1) := by decide +kernel
theorem dX7_isWord_5 : decode cX7_isWord 5 = .ok (.if_icmp .ne 19, 3) := by decide +kernel
theorem dX7_isWord_8 : decode cX7_isWord 8 = .ok (.aload_n 0, 1) := by decide +kernel
theorem dX7_isWord_9 : decode cX7_isWord 9 = .ok (.getfield 155, 3) := by decide +kernel
theorem dX7_isWord_12 : decode cX7_isWord 12 = .ok (.aload_n 0, 1) := by decide +kernel
theorem dX7_isWord_13 : decode cX7_isWord 13 = .ok (.getfield 158, 3) := by decide +kernel
theorem dX7_isWord_16 : decode cX7_isWord 16 = .ok (.isub, 1) := by decide +kernel
theorem dX7_isWord_17 : decode cX7_isWord 17 = .ok (.aload_n 1, 1) := by decide +kernel
theorem dX7_isWord_18 : decode cX7_isWord 18 = .ok (.invokevirtual 177, 3) := by decide +kernel
theorem dX7_isWord_21 : decode cX7_isWord 21 = .ok (.if_icmp .eq 5, 3) := by decide +kernel
theorem dX7_isWord_24 : decode cX7_isWord 24 = .ok (.iconst 0, 1) := by decide +kernel
theorem dX7_isWord_25 : decode cX7_isWord 25 = .ok (.ireturn, 1) := by decide +kernel
theorem dX7_isWord_26 : decode cX7_isWord 26 = .ok (.iconst 0, 1) := by decide +kernel
theorem dX7_isWord_27 : decode cX7_isWord 27 = .ok (.istore_n 2, 1) := by decide +kernel
theorem dX7_isWord_28 : decode cX7_isWord 28 = .ok (.iload_n 2, 1) := by decide +kernel
theorem dX7_isWord_29 : decode cX7_isWord 29 = .ok (.aload_n 1, 1) := by decide +kernel
theorem dX7_isWord_30 : decode cX7_isWord 30 = .ok (.invokevirtual 177, 3) := by decide +kernel
theorem dX7_isWord_33 : decode cX7_isWord 33 = .ok (.if_icmp .ge 30, 3) := by decide +kernel
theorem dX7_isWord_36 : decode cX7_isWord 36 = .ok (.aload_n 0, 1) := by decide +kernel
theorem dX7_isWord_37 : decode cX7_isWord 37 = .ok (.getfield 31, 3) := by decide +kernel
theorem dX7_isWord_40 : decode cX7_isWord 40 = .ok (.aload_n 0, 1) := by decide +kernel
theorem dX7_isWord_41 : decode cX7_isWord 41 = .ok (.getfield 158, 3) := by decide +kernel
theorem dX7_isWord_44 : decode cX7_isWord 44 = .ok (.iload_n 2, 1) := by decide +kernel
theorem dX7_isWord_45 : decode cX7_isWord 45 = .ok (.iadd, 1) := by decide +kernel
theorem dX7_isWord_46 : decode cX7_isWord 46 = .ok (.iaload, 1) := by decide +kernel
theorem dX7_isWord_47 : decode cX7_isWord 47 = .ok (.aload_n 1, 1) := by decide +kernel
theorem dX7_isWord_48 : decode cX7_isWord 48 = .ok (.iload_n 2, 1) := by decide +kernel
theorem dX7_isWord_49 : decode cX7_isWord 49 = .ok (.invokevirtual 182, 3) := by decide +kernel
theorem dX7_isWord_52 : decode cX7_isWord 52 = .ok (.if_icmp .eq 5, 3) := by decide +kernel
theorem dX7_isWord_55 : decode cX7_isWord 55 = .ok (.iconst 0, 1) := by decide +kernel
theorem dX7_isWord_56 : decode cX7_isWord 56 = .ok (.ireturn, 1) := by decide +kernel
theorem dX7_isWord_57 : decode cX7_isWord 57 = .ok (.iinc 2 1, 3) := by decide +kernel
theorem dX7_isWord_60 : decode cX7_isWord 60 = .ok (.goto (-32), 3) := by decide +kernel
theorem dX7_isWord_63 : decode cX7_isWord 63 = .ok (.iconst 1, 1) := by decide +kernel
theorem dX7_isWord_64 : decode cX7_isWord 64 = .ok (.ireturn, 1) := by decide +kernel
set_option maxRecDepth 20000 in
theorem ggX7_number_X7_in : GoodIn wsX7_number wsX7_in := goodIn_r _ [7] (by decide +kernel) (by decide +kernel)
set_option maxRecDepth 20000 in
theorem gX7_number_X7_in : GoodIn wsX7_number (va_wsS RX7 80 yX7_in wsX7_in) := goodIn_app (goodIn_of _ (by decide +kernel)) ggX7_number_X7_in
set_option maxRecDepth 20000 in
theorem ggX7_number_X7_wrong : GoodIn wsX7_number wsX7_wrong := goodIn_r _ [11, 12, 13, 28, 29, 30, 31, 32, 33, 34, 35, 36, 37, 38, 39, 40, 41, 42, 43, 44, 45, 46, 47, 48, 49, 50, 51, 52, 53, 54, 55, 56, 57, 58, 59, 60] (by decide +kernel) (by decide +kernel)
set_option maxRecDepth 20000 in
theorem gX7_number_X7_wrong : GoodIn wsX7_number (wsV RX7 186 RX7 yX7_wrong wsX7_wrong) := goodIn_app (goodIn_of _ (by decide +kernel)) ggX7_number_X7_wrong
set_option maxRecDepth 20000 in
theorem ggX7_number_X7_look : GoodIn wsX7_number wsX7_look := goodIn_r _ [17, 18, 19, 20, 12, 2, 1, 21, 22, 23, 6, 24, 25, 26, 27, 28, 29, 30, 31, 32, 33, 34, 35, 36, 37, 38, 39, 40, 41, 42, 43, 44, 45, 46, 47, 48, 49, 50, 51, 52, 53, 54, 55, 56, 57, 58, 59, 60] (by decide +kernel) (by decide +kernel)
set_option maxRecDepth 20000 in
theorem gX7_number_X7_look : GoodIn wsX7_number (wsV RX7 190 RX7 yX7_look wsX7_look) := goodIn_app (goodIn_of _ (by decide +kernel)) ggX7_number_X7_look
theorem dX7_number_0 : decode cX7_number 0 = .ok (.aload_n 0, 1) := by decide +kernel
theorem dX7_number_1 : decode cX7_number 1 = .ok (.getfield 164, 3) := by decide +kernel
theorem dX7_number_4 : decode cX7_number 4 = .ok (.iconst 2, 1) := by decide +kernel
theorem dX7_number_5 : decode cX7_number 5 = .ok (.if_icmp .ne 18, 3) := by decide +kernel
theorem dX7_number_8 : decode cX7_number 8 = .ok (.aload_n 0, 1) := by decide +kernel
theorem dX7_number_9 : decode cX7_number 9 = .ok (.getfield 161, 3) := by decide +kernel
theorem dX7_number_12 : decode cX7_number 12 = .ok (.i2l, 1) := by decide +kernel
theorem dX7_number_13 : decode cX7_number 13 = .ok (.iload_n 2, 1) := by decide +kernel
theorem dX7_number_14 : decode cX7_number 14 = .ok (.i2l, 1) := by decide +kernel
theorem dX7_number_15 : decode cX7_number 15 = .ok (.iload_n 3, 1) := by decide +kernel
theorem dX7_number_16 : decode cX7_number 16 = .ok (.i2l, 1) := by decide +kernel
theorem dX7_number_17 : decode cX7_number 17 = .ok (.invokestatic 80, 3) := by decide +kernel
theorem dX7_number_20 : decode cX7_number 20 = .ok (.ifCond .ne 8, 3) := by decide +kernel
theorem dX7_number_23 : decode cX7_number 23 = .ok (.aload_n 0, 1) := by decide +kernel
theorem dX7_number_24 : decode cX7_number 24 = .ok (.invokevirtual 186, 3) := by decide +kernel
theorem dX7_number_27 : decode cX7_number 27 = .ok (.ireturn, 1) := by decide +kernel
theorem dX7_number_28 : decode cX7_number 28 = .ok (.aload_n 0, 1) := by decide +kernel
theorem dX7_number_29 : decode cX7_number 29 = .ok (.getfield 65, 3) := by decide +kernel
theorem dX7_number_32 : decode cX7_number 32 = .ok (.iload_n 1, 1) := by decide +kernel
theorem dX7_number_33 : decode cX7_number 33 = .ok (.aload_n 0, 1) := by decide +kernel
theorem dX7_number_34 : decode cX7_number 34 = .ok (.getfield 161, 3) := by decide +kernel
theorem dX7_number_37 : decode cX7_number 37 = .ok (.iastore, 1) := by decide +kernel
theorem dX7_number_38 : decode cX7_number 38 = .ok (.aload_n 0, 1) := by decide +kernel
theorem dX7_number_39 : decode cX7_number 39 = .ok (.invokevirtual 190, 3) := by decide +kernel
theorem dX7_number_42 : decode cX7_number 42 = .ok (.iconst 1, 1) := by decide +kernel
theorem dX7_number_43 : decode cX7_number 43 = .ok (.ireturn, 1) := by decide +kernel
set_option maxRecDepth 20000 in
theorem ggX7_tells_X7_look : GoodIn wsX7_tells wsX7_look := goodIn_r _ [5, 6, 7, 8, 9, 10, 11, 12, 13, 14, 4, 15, 16, 17, 18, 32, 33, 34, 35, 36, 37, 38, 39, 40, 41, 42, 43, 44, 45, 46, 47, 48, 49, 50, 51, 52, 53, 54, 55, 56, 57, 58, 59, 60, 61, 62, 63, 64] (by decide +kernel) (by decide +kernel)
set_option maxRecDepth 20000 in
theorem gX7_tells_X7_look : GoodIn wsX7_tells (wsV RX7 190 RX7 yX7_look wsX7_look) := goodIn_app (goodIn_of _ (by decide +kernel)) ggX7_tells_X7_look
set_option maxRecDepth 20000 in
theorem ggX7_tells_X7_number : GoodIn wsX7_tells wsX7_number := goodIn_r _ [22, 11, 10, 23, 24, 25, 4, 26, 27, 28, 29, 30, 9, 31, 1, 2, 3, 5, 6, 7, 8, 12, 13, 14, 15, 16, 17, 18, 32, 33, 34, 35, 36, 37, 38, 39, 40, 41, 42, 43, 44, 45, 46, 47, 48, 49, 50, 51, 52, 53, 54, 55, 56, 57, 58, 59, 60, 61, 62, 63, 64] (by decide +kernel) (by decide +kernel)
set_option maxRecDepth 20000 in
theorem gX7_tells_X7_number : GoodIn wsX7_tells (wsV RX7 193 RX7 yX7_number wsX7_number) := goodIn_app (goodIn_of _ (by decide +kernel)) ggX7_tells_X7_number
theorem dX7_tells_0 : decode cX7_tells 0 = .ok (.aload_n 0, 1) := by decide +kernel
theorem dX7_tells_1 : decode cX7_tells 1 = .ok (.invokevirtual 190, 3) := by decide +kernel
theorem dX7_tells_4 : decode cX7_tells 4 = .ok (.aload_n 0, 1) := by decide +kernel
theorem dX7_tells_5 : decode cX7_tells 5 = .ok (.iconst 0, 1) := by decide +kernel
theorem dX7_tells_6 : decode cX7_tells 6 = .ok (.iload_n 1, 1) := by decide +kernel
theorem dX7_tells_7 : decode cX7_tells 7 = .ok (.iload_n 2, 1) := by decide +kernel
theorem dX7_tells_8 : decode cX7_tells 8 = .ok (.invokevirtual 193, 3) := by decide +kernel
theorem dX7_tells_11 : decode cX7_tells 11 = .ok (.ireturn, 1) := by decide +kernel
set_option maxRecDepth 20000 in
theorem ggX7_personTold_X7_tells : GoodIn wsX7_personTold wsX7_tells := goodIn_r _ [10, 11, 12, 13, 9, 14, 15, 16, 17, 18, 19, 20, 21, 22, 23, 24, 25, 26, 27, 28, 29, 30, 31, 1, 32, 33, 34, 35, 36, 37, 38, 39, 105, 106, 107, 108, 109, 110, 111, 112, 113, 114, 115, 116, 117, 118, 119, 120, 121, 122, 123, 124, 125, 126, 127, 128, 129, 130, 131, 132, 133, 134, 135, 136, 137] (by decide +kernel) (by decide +kernel)
set_option maxRecDepth 20000 in
theorem gX7_personTold_X7_tells : GoodIn wsX7_personTold (wsV RX7 197 RX7 yX7_tells wsX7_tells) := goodIn_app (goodIn_of _ (by decide +kernel)) ggX7_personTold_X7_tells
set_option maxRecDepth 20000 in
theorem ggX7_personTold_X7_number : GoodIn wsX7_personTold wsX7_number := goodIn_r _ [31, 20, 19, 1, 32, 33, 9, 34, 35, 36, 37, 38, 18, 39, 11, 12, 13, 14, 15, 16, 17, 21, 22, 23, 24, 25, 26, 27, 105, 106, 107, 108, 109, 110, 111, 112, 113, 114, 115, 116, 117, 118, 119, 120, 121, 122, 123, 124, 125, 126, 127, 128, 129, 130, 131, 132, 133, 134, 135, 136, 137] (by decide +kernel) (by decide +kernel)
set_option maxRecDepth 20000 in
theorem gX7_personTold_X7_number : GoodIn wsX7_personTold (wsV RX7 193 RX7 yX7_number wsX7_number) := goodIn_app (goodIn_of _ (by decide +kernel)) ggX7_personTold_X7_number
set_option maxRecDepth 20000 in
theorem ggX7_personTold_X7_addOne : GoodIn wsX7_personTold wsX7_addOne := goodIn_r _ [43, 3, 2, 44, 45, 46, 5, 47, 105, 106, 107, 108, 109, 110, 111, 112, 113, 114, 115, 116, 117, 118, 119, 120, 121, 122, 123, 124, 125, 126, 127, 128, 129, 130, 131, 132, 133, 134, 135, 136, 137] (by decide +kernel) (by decide +kernel)
set_option maxRecDepth 20000 in
theorem gX7_personTold_X7_addOne : GoodIn wsX7_personTold (wsV RX7 134 RX7 yX7_addOne wsX7_addOne) := goodIn_app (goodIn_of _ (by decide +kernel)) ggX7_personTold_X7_addOne
set_option maxRecDepth 20000 in
theorem ggX7_personTold_X7_isWord : GoodIn wsX7_personTold wsX7_isWord := goodIn_r _ [51, 20, 15, 18, 17, 52, 53, 54, 55, 56, 57, 58, 59, 60, 61, 62, 63, 64, 65, 66, 67, 68, 69, 70, 71, 72, 73, 74, 75, 76, 77, 78, 79, 80, 81, 82, 83, 84, 85, 86, 87, 88, 89, 90, 91, 92, 93, 94, 95, 96, 97, 98, 99, 100, 105, 106, 107, 108, 109, 110, 111, 112, 113, 114, 115, 116, 117, 118, 119, 120, 121, 122, 123, 124, 125, 126, 127, 128, 129, 130, 131, 132, 133, 134, 135, 136, 137] (by decide +kernel) (by decide +kernel)
set_option maxRecDepth 20000 in
theorem gX7_personTold_X7_isWord : GoodIn wsX7_personTold (wsV RX7 202 RX7 yX7_isWord wsX7_isWord) := goodIn_app (goodIn_of _ (by decide +kernel)) ggX7_personTold_X7_isWord
set_option maxRecDepth 20000 in
theorem ggX7_personTold_X7_sees : GoodIn wsX7_personTold wsX7_sees := goodIn_r _ [104, 45, 46, 105, 106, 107, 108, 109, 110, 111, 112, 113, 114, 115, 116, 117, 118, 119, 120, 121, 122, 123, 124, 125, 126, 127, 128, 129, 130, 131, 132, 133, 134, 135, 136, 137] (by decide +kernel) (by decide +kernel)
set_option maxRecDepth 20000 in
theorem gX7_personTold_X7_sees : GoodIn wsX7_personTold (wsV RX7 143 RX7 yX7_sees wsX7_sees) := goodIn_app (goodIn_of _ (by decide +kernel)) ggX7_personTold_X7_sees
theorem dX7_personTold_0 : decode cX7_personTold 0 = .ok (.aload_n 0, 1) := by decide +kernel
theorem dX7_personTold_1 : decode cX7_personTold 1 = .ok (.iconst 0, 1) := by decide +kernel
theorem dX7_personTold_2 : decode cX7_personTold 2 = .ok (.iconst 5, 1) := by decide +kernel
theorem dX7_personTold_3 : decode cX7_personTold 3 = .ok (.invokevirtual 197, 3) := by decide +kernel
theorem dX7_personTold_6 : decode cX7_personTold 6 = .ok (.ifCond .eq 14, 3) := by decide +kernel
theorem dX7_personTold_9 : decode cX7_personTold 9 = .ok (.aload_n 0, 1) := by decide +kernel
theorem dX7_personTold_10 : decode cX7_personTold 10 = .ok (.iconst 1, 1) := by decide +kernel
theorem dX7_personTold_11 : decode cX7_personTold 11 = .ok (.iconst 0, 1) := by decide +kernel
theorem dX7_personTold_12 : decode cX7_personTold 12 = .ok (.bipush 9, 2) := by decide +kernel
theorem dX7_personTold_14 : decode cX7_personTold 14 = .ok (.invokevirtual 193, 3) := by decide +kernel
theorem dX7_personTold_17 : decode cX7_personTold 17 = .ok (.ifCond .ne 5, 3) := by decide +kernel
theorem dX7_personTold_20 : decode cX7_personTold 20 = .ok (.iconst 0, 1) := by decide +kernel
theorem dX7_personTold_21 : decode cX7_personTold 21 = .ok (.ireturn, 1) := by decide +kernel
theorem dX7_personTold_22 : decode cX7_personTold 22 = .ok (.aload_n 0, 1) := by decide +kernel
theorem dX7_personTold_23 : decode cX7_personTold 23 = .ok (.aload_n 0, 1) := by decide +kernel
theorem dX7_personTold_24 : decode cX7_personTold 24 = .ok (.getfield 65, 3) := by decide +kernel
theorem dX7_personTold_27 : decode cX7_personTold 27 = .ok (.iconst 0, 1) := by decide +kernel
theorem dX7_personTold_28 : decode cX7_personTold 28 = .ok (.iaload, 1) := by decide +kernel
theorem dX7_personTold_29 : decode cX7_personTold 29 = .ok (.aload_n 0, 1) := by decide +kernel
theorem dX7_personTold_30 : decode cX7_personTold 30 = .ok (.getfield 65, 3) := by decide +kernel
theorem dX7_personTold_33 : decode cX7_personTold 33 = .ok (.iconst 1, 1) := by decide +kernel
theorem dX7_personTold_34 : decode cX7_personTold 34 = .ok (.iaload, 1) := by decide +kernel
theorem dX7_personTold_35 : decode cX7_personTold 35 = .ok (.invokevirtual 134, 3) := by decide +kernel
theorem dX7_personTold_38 : decode cX7_personTold 38 = .ok (.aload_n 0, 1) := by decide +kernel
theorem dX7_personTold_39 : decode cX7_personTold 39 = .ok (.getfield 77, 3) := by decide +kernel
theorem dX7_personTold_42 : decode cX7_personTold 42 = .ok (.iconst 1, 1) := by decide +kernel
theorem dX7_personTold_43 : decode cX7_personTold 43 = .ok (.isub, 1) := by decide +kernel
theorem dX7_personTold_44 : decode cX7_personTold 44 = .ok (.istore_n 1, 1) := by decide +kernel
theorem dX7_personTold_45 : decode cX7_personTold 45 = .ok (.aload_n 0, 1) := by decide +kernel
theorem dX7_personTold_46 : decode cX7_personTold 46 = .ok (.ldc 200, 2) := by decide +kernel
theorem dX7_personTold_48 : decode cX7_personTold 48 = .ok (.invokevirtual 202, 3) := by decide +kernel
theorem dX7_personTold_51 : decode cX7_personTold 51 = .ok (.ifCond .eq 41, 3) := by decide +kernel
theorem dX7_personTold_54 : decode cX7_personTold 54 = .ok (.aload_n 0, 1) := by decide +kernel
theorem dX7_personTold_55 : decode cX7_personTold 55 = .ok (.getfield 41, 3) := by decide +kernel
theorem dX7_personTold_58 : decode cX7_personTold 58 = .ok (.iload_n 1, 1) := by decide +kernel
theorem dX7_personTold_59 : decode cX7_personTold 59 = .ok (.iaload, 1) := by decide +kernel
theorem dX7_personTold_60 : decode cX7_personTold 60 = .ok (.iconst 4, 1) := by decide +kernel
theorem dX7_personTold_61 : decode cX7_personTold 61 = .ok (.if_icmp .eq 31, 3) := by decide +kernel
theorem dX7_personTold_64 : decode cX7_personTold 64 = .ok (.aload_n 0, 1) := by decide +kernel
theorem dX7_personTold_65 : decode cX7_personTold 65 = .ok (.iconst 0, 1) := by decide +kernel
theorem dX7_personTold_66 : decode cX7_personTold 66 = .ok (.aload_n 0, 1) := by decide +kernel
theorem dX7_personTold_67 : decode cX7_personTold 67 = .ok (.getfield 37, 3) := by decide +kernel
theorem dX7_personTold_70 : decode cX7_personTold 70 = .ok (.iconst 1, 1) := by decide +kernel
theorem dX7_personTold_71 : decode cX7_personTold 71 = .ok (.isub, 1) := by decide +kernel
theorem dX7_personTold_72 : decode cX7_personTold 72 = .ok (.invokevirtual 197, 3) := by decide +kernel
theorem dX7_personTold_75 : decode cX7_personTold 75 = .ok (.ifCond .ne 5, 3) := by decide +kernel
theorem dX7_personTold_78 : decode cX7_personTold 78 = .ok (.iconst 0, 1) := by decide +kernel
theorem dX7_personTold_79 : decode cX7_personTold 79 = .ok (.ireturn, 1) := by decide +kernel
theorem dX7_personTold_80 : decode cX7_personTold 80 = .ok (.aload_n 0, 1) := by decide +kernel
theorem dX7_personTold_81 : decode cX7_personTold 81 = .ok (.iload_n 1, 1) := by decide +kernel
theorem dX7_personTold_82 : decode cX7_personTold 82 = .ok (.aload_n 0, 1) := by decide +kernel
theorem dX7_personTold_83 : decode cX7_personTold 83 = .ok (.getfield 65, 3) := by decide +kernel
theorem dX7_personTold_86 : decode cX7_personTold 86 = .ok (.iconst 0, 1) := by decide +kernel
theorem dX7_personTold_87 : decode cX7_personTold 87 = .ok (.iaload, 1) := by decide +kernel
theorem dX7_personTold_88 : decode cX7_personTold 88 = .ok (.iconst 2, 1) := by decide +kernel
theorem dX7_personTold_89 : decode cX7_personTold 89 = .ok (.invokevirtual 143, 3) := by decide +kernel
theorem dX7_personTold_92 : decode cX7_personTold 92 = .ok (.aload_n 0, 1) := by decide +kernel
theorem dX7_personTold_93 : decode cX7_personTold 93 = .ok (.ldc 206, 2) := by decide +kernel
theorem dX7_personTold_95 : decode cX7_personTold 95 = .ok (.invokevirtual 202, 3) := by decide +kernel
theorem dX7_personTold_98 : decode cX7_personTold 98 = .ok (.ifCond .eq 36, 3) := by decide +kernel
theorem dX7_personTold_101 : decode cX7_personTold 101 = .ok (.aload_n 0, 1) := by decide +kernel
theorem dX7_personTold_102 : decode cX7_personTold 102 = .ok (.iconst 0, 1) := by decide +kernel
theorem dX7_personTold_103 : decode cX7_personTold 103 = .ok (.aload_n 0, 1) := by decide +kernel
theorem dX7_personTold_104 : decode cX7_personTold 104 = .ok (.getfield 37, 3) := by decide +kernel
theorem dX7_personTold_107 : decode cX7_personTold 107 = .ok (.iconst 1, 1) := by decide +kernel
theorem dX7_personTold_108 : decode cX7_personTold 108 = .ok (.isub, 1) := by decide +kernel
theorem dX7_personTold_109 : decode cX7_personTold 109 = .ok (.invokevirtual 197, 3) := by decide +kernel
theorem dX7_personTold_112 : decode cX7_personTold 112 = .ok (.ifCond .ne 5, 3) := by decide +kernel
theorem dX7_personTold_115 : decode cX7_personTold 115 = .ok (.iconst 0, 1) := by decide +kernel
theorem dX7_personTold_116 : decode cX7_personTold 116 = .ok (.ireturn, 1) := by decide +kernel
theorem dX7_personTold_117 : decode cX7_personTold 117 = .ok (.aload_n 0, 1) := by decide +kernel
theorem dX7_personTold_118 : decode cX7_personTold 118 = .ok (.getfield 53, 3) := by decide +kernel
theorem dX7_personTold_121 : decode cX7_personTold 121 = .ok (.iload_n 1, 1) := by decide +kernel
theorem dX7_personTold_122 : decode cX7_personTold 122 = .ok (.dup2, 1) := by decide +kernel
theorem dX7_personTold_123 : decode cX7_personTold 123 = .ok (.iaload, 1) := by decide +kernel
theorem dX7_personTold_124 : decode cX7_personTold 124 = .ok (.iconst 1, 1) := by decide +kernel
theorem dX7_personTold_125 : decode cX7_personTold 125 = .ok (.aload_n 0, 1) := by decide +kernel
theorem dX7_personTold_126 : decode cX7_personTold 126 = .ok (.getfield 65, 3) := by decide +kernel
theorem dX7_personTold_129 : decode cX7_personTold 129 = .ok (.iconst 0, 1) := by decide +kernel
theorem dX7_personTold_130 : decode cX7_personTold 130 = .ok (.iaload, 1) := by decide +kernel
theorem dX7_personTold_131 : decode cX7_personTold 131 = .ok (.ishl, 1) := by decide +kernel
theorem dX7_personTold_132 : decode cX7_personTold 132 = .ok (.ior, 1) := by decide +kernel
theorem dX7_personTold_133 : decode cX7_personTold 133 = .ok (.iastore, 1) := by decide +kernel
theorem dX7_personTold_134 : decode cX7_personTold 134 = .ok (.iconst 1, 1) := by decide +kernel
theorem dX7_personTold_135 : decode cX7_personTold 135 = .ok (.ireturn, 1) := by decide +kernel
set_option maxRecDepth 20000 in
theorem ggX7_seenTold_X7_look : GoodIn wsX7_seenTold wsX7_look := goodIn_r _ [11, 12, 13, 14, 15, 2, 1, 16, 17, 18, 10, 19, 20, 21, 22, 41, 42, 43, 44, 45, 46, 47, 48, 49, 50, 51, 52, 53, 54, 55, 56, 57, 58, 59, 60, 61, 62, 63, 64, 65, 66, 67, 68, 69, 70, 71, 72, 73] (by decide +kernel) (by decide +kernel)
set_option maxRecDepth 20000 in
theorem gX7_seenTold_X7_look : GoodIn wsX7_seenTold (wsV RX7 190 RX7 yX7_look wsX7_look) := goodIn_app (goodIn_of _ (by decide +kernel)) ggX7_seenTold_X7_look
set_option maxRecDepth 20000 in
theorem ggX7_seenTold_X7_wrong : GoodIn wsX7_seenTold wsX7_wrong := goodIn_r _ [26, 15, 27, 41, 42, 43, 44, 45, 46, 47, 48, 49, 50, 51, 52, 53, 54, 55, 56, 57, 58, 59, 60, 61, 62, 63, 64, 65, 66, 67, 68, 69, 70, 71, 72, 73] (by decide +kernel) (by decide +kernel)
set_option maxRecDepth 20000 in
theorem gX7_seenTold_X7_wrong : GoodIn wsX7_seenTold (wsV RX7 186 RX7 yX7_wrong wsX7_wrong) := goodIn_app (goodIn_of _ (by decide +kernel)) ggX7_seenTold_X7_wrong
set_option maxRecDepth 20000 in
theorem ggX7_seenTold_X7_number : GoodIn wsX7_seenTold wsX7_number := goodIn_r _ [31, 1, 2, 6, 32, 33, 10, 34, 23, 24, 25, 26, 15, 27, 7, 8, 9, 11, 12, 13, 14, 16, 17, 18, 19, 20, 21, 22, 41, 42, 43, 44, 45, 46, 47, 48, 49, 50, 51, 52, 53, 54, 55, 56, 57, 58, 59, 60, 61, 62, 63, 64, 65, 66, 67, 68, 69, 70, 71, 72, 73] (by decide +kernel) (by decide +kernel)
set_option maxRecDepth 20000 in
theorem gX7_seenTold_X7_number : GoodIn wsX7_seenTold (wsV RX7 193 RX7 yX7_number wsX7_number) := goodIn_app (goodIn_of _ (by decide +kernel)) ggX7_seenTold_X7_number
set_option maxRecDepth 20000 in
theorem ggX7_seenTold_X7_sees : GoodIn wsX7_seenTold wsX7_sees := goodIn_r _ [38, 39, 40, 41, 42, 43, 44, 45, 46, 47, 48, 49, 50, 51, 52, 53, 54, 55, 56, 57, 58, 59, 60, 61, 62, 63, 64, 65, 66, 67, 68, 69, 70, 71, 72, 73] (by decide +kernel) (by decide +kernel)
set_option maxRecDepth 20000 in
theorem gX7_seenTold_X7_sees : GoodIn wsX7_seenTold (wsV RX7 143 RX7 yX7_sees wsX7_sees) := goodIn_app (goodIn_of _ (by decide +kernel)) ggX7_seenTold_X7_sees
theorem dX7_seenTold_0 : decode cX7_seenTold 0 = .ok (.aload_n 0, 1) := by decide +kernel
theorem dX7_seenTold_1 : decode cX7_seenTold 1 = .ok (.invokevirtual 190, 3) := by decide +kernel
theorem dX7_seenTold_4 : decode cX7_seenTold 4 = .ok (.aload_n 0, 1) := by decide +kernel
theorem dX7_seenTold_5 : decode cX7_seenTold 5 = .ok (.getfield 164, 3) := by decide +kernel
theorem dX7_seenTold_8 : decode cX7_seenTold 8 = .ok (.iconst 2, 1) := by decide +kernel
theorem dX7_seenTold_9 : decode cX7_seenTold 9 = .ok (.if_icmp .ne 32, 3) := by decide +kernel
theorem dX7_seenTold_12 : decode cX7_seenTold 12 = .ok (.aload_n 0, 1) := by decide +kernel
theorem dX7_seenTold_13 : decode cX7_seenTold 13 = .ok (.getfield 161, 3) := by decide +kernel
theorem dX7_seenTold_16 : decode cX7_seenTold 16 = .ok (.aload_n 0, 1) := by decide +kernel
theorem dX7_seenTold_17 : decode cX7_seenTold 17 = .ok (.getfield 77, 3) := by decide +kernel
theorem dX7_seenTold_20 : decode cX7_seenTold 20 = .ok (.if_icmp .ge 21, 3) := by decide +kernel
theorem dX7_seenTold_23 : decode cX7_seenTold 23 = .ok (.aload_n 0, 1) := by decide +kernel
theorem dX7_seenTold_24 : decode cX7_seenTold 24 = .ok (.getfield 41, 3) := by decide +kernel
theorem dX7_seenTold_27 : decode cX7_seenTold 27 = .ok (.aload_n 0, 1) := by decide +kernel
theorem dX7_seenTold_28 : decode cX7_seenTold 28 = .ok (.getfield 161, 3) := by decide +kernel
theorem dX7_seenTold_31 : decode cX7_seenTold 31 = .ok (.iaload, 1) := by decide +kernel
theorem dX7_seenTold_32 : decode cX7_seenTold 32 = .ok (.iconst 4, 1) := by decide +kernel
theorem dX7_seenTold_33 : decode cX7_seenTold 33 = .ok (.if_icmp .ne 8, 3) := by decide +kernel
theorem dX7_seenTold_36 : decode cX7_seenTold 36 = .ok (.aload_n 0, 1) := by decide +kernel
theorem dX7_seenTold_37 : decode cX7_seenTold 37 = .ok (.invokevirtual 186, 3) := by decide +kernel
theorem dX7_seenTold_40 : decode cX7_seenTold 40 = .ok (.ireturn, 1) := by decide +kernel
theorem dX7_seenTold_41 : decode cX7_seenTold 41 = .ok (.aload_n 0, 1) := by decide +kernel
theorem dX7_seenTold_42 : decode cX7_seenTold 42 = .ok (.iconst 0, 1) := by decide +kernel
theorem dX7_seenTold_43 : decode cX7_seenTold 43 = .ok (.iconst 0, 1) := by decide +kernel
theorem dX7_seenTold_44 : decode cX7_seenTold 44 = .ok (.aload_n 0, 1) := by decide +kernel
theorem dX7_seenTold_45 : decode cX7_seenTold 45 = .ok (.getfield 77, 3) := by decide +kernel
theorem dX7_seenTold_48 : decode cX7_seenTold 48 = .ok (.iconst 1, 1) := by decide +kernel
theorem dX7_seenTold_49 : decode cX7_seenTold 49 = .ok (.isub, 1) := by decide +kernel
theorem dX7_seenTold_50 : decode cX7_seenTold 50 = .ok (.invokevirtual 193, 3) := by decide +kernel
theorem dX7_seenTold_53 : decode cX7_seenTold 53 = .ok (.ifCond .eq 18, 3) := by decide +kernel
theorem dX7_seenTold_56 : decode cX7_seenTold 56 = .ok (.aload_n 0, 1) := by decide +kernel
