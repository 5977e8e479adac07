theorem dX5_tells_56 : decode cX5_tells 56 = .ok (.iconst 1, 1) := by decide +kernel
theorem dX5_tells_57 : decode cX5_tells 57 = .ok (.goto 4, 3) := by decide +kernel
theorem dX5_tells_60 : decode cX5_tells 60 = .ok (.iconst 0, 1) := by decide +kernel
theorem dX5_tells_61 : decode cX5_tells 61 = .ok (.istore 5, 2) := by decide +kernel
theorem dX5_tells_63 : decode cX5_tells 63 = .ok (.iload 5, 2) := by decide +kernel
theorem dX5_tells_65 : decode cX5_tells 65 = .ok (.ifCond .eq 22, 3) := by decide +kernel
theorem dX5_tells_68 : decode cX5_tells 68 = .ok (.iload_n 1, 1) := by decide +kernel
theorem dX5_tells_69 : decode cX5_tells 69 = .ok (.aload_n 0, 1) := by decide +kernel
theorem dX5_tells_70 : decode cX5_tells 70 = .ok (.getfield 52, 3) := by decide +kernel
theorem dX5_tells_73 : decode cX5_tells 73 = .ok (.iload 4, 2) := by decide +kernel
theorem dX5_tells_75 : decode cX5_tells 75 = .ok (.invokevirtual 206, 3) := by decide +kernel
theorem dX5_tells_78 : decode cX5_tells 78 = .ok (.iconst (-1), 1) := by decide +kernel
theorem dX5_tells_79 : decode cX5_tells 79 = .ok (.ixor, 1) := by decide +kernel
theorem dX5_tells_80 : decode cX5_tells 80 = .ok (.iand, 1) := by decide +kernel
theorem dX5_tells_81 : decode cX5_tells 81 = .ok (.ifCond .ne 6, 3) := by decide +kernel
theorem dX5_tells_84 : decode cX5_tells 84 = .ok (.iload 4, 2) := by decide +kernel
theorem dX5_tells_86 : decode cX5_tells 86 = .ok (.istore_n 3, 1) := by decide +kernel
theorem dX5_tells_87 : decode cX5_tells 87 = .ok (.iinc 4 1, 3) := by decide +kernel
theorem dX5_tells_90 : decode cX5_tells 90 = .ok (.goto (-64), 3) := by decide +kernel
theorem dX5_tells_93 : decode cX5_tells 93 = .ok (.iload_n 3, 1) := by decide +kernel
theorem dX5_tells_94 : decode cX5_tells 94 = .ok (.bipush (-9), 2) := by decide +kernel
theorem dX5_tells_96 : decode cX5_tells 96 = .ok (.if_icmp .ne 6, 3) := by decide +kernel
theorem dX5_tells_99 : decode cX5_tells 99 = .ok (.bipush (-9), 2) := by decide +kernel
theorem dX5_tells_101 : decode cX5_tells 101 = .ok (.ireturn, 1) := by decide +kernel
theorem dX5_tells_102 : decode cX5_tells 102 = .ok (.iload_n 2, 1) := by decide +kernel
theorem dX5_tells_103 : decode cX5_tells 103 = .ok (.ifCond .ne 10, 3) := by decide +kernel
theorem dX5_tells_106 : decode cX5_tells 106 = .ok (.iload_n 3, 1) := by decide +kernel
theorem dX5_tells_107 : decode cX5_tells 107 = .ok (.invokestatic 201, 3) := by decide +kernel
theorem dX5_tells_110 : decode cX5_tells 110 = .ok (.goto 4, 3) := by decide +kernel
theorem dX5_tells_113 : decode cX5_tells 113 = .ok (.iload_n 3, 1) := by decide +kernel
theorem dX5_tells_114 : decode cX5_tells 114 = .ok (.ireturn, 1) := by decide +kernel
set_option maxRecDepth 20000 in
theorem ggX5_judge_X5_fillDoings : GoodIn wsX5_judge wsX5_fillDoings := goodIn_r _ [8, 3, 9, 140, 141, 142, 143, 144, 145, 146, 147, 148, 149, 150, 151, 152, 153, 154] (by decide +kernel) (by decide +kernel)
set_option maxRecDepth 20000 in
theorem gX5_judge_X5_fillDoings : GoodIn wsX5_judge (wsV RX5 209 RX5 yX5_fillDoings wsX5_fillDoings) := goodIn_app (goodIn_of _ (by decide +kernel)) ggX5_judge_X5_fillDoings
set_option maxRecDepth 20000 in
theorem ggX5_judge_X4_take : GoodIn wsX5_judge wsX4_take := goodIn_r _ [14, 15, 16, 17, 18, 19, 20, 21, 22, 23, 155, 156, 157, 158, 159, 160] (by decide +kernel) (by decide +kernel)
set_option maxRecDepth 20000 in
theorem gX5_judge_X4_take : GoodIn wsX5_judge (wsV RX5 173 RX4 yX4_take wsX4_take) := goodIn_app (goodIn_of _ (by decide +kernel)) ggX5_judge_X4_take
set_option maxRecDepth 20000 in
theorem ggX5_judge_X5_comesAbout : GoodIn wsX5_judge wsX5_comesAbout := goodIn_r _ [27, 1, 28, 29, 30, 31, 32, 13, 33, 34, 23, 35, 36, 37, 38, 39, 40, 41, 42, 43, 44, 45, 46, 47, 48, 49, 50, 22, 51, 52, 53, 54, 55, 56, 57, 58, 59, 60, 61, 62, 63, 64, 65, 66, 67, 68, 69, 21, 70, 71, 72, 15, 73, 74, 75, 76, 77, 78, 79, 80, 81, 82, 83, 20, 84, 85, 86, 87, 88, 89, 90, 91, 92, 93, 94, 95, 96, 97, 98, 99, 100, 101, 102, 103, 104, 105, 106, 107, 108, 109, 110, 111, 112, 113, 114, 115, 116, 117, 118, 119, 120, 121, 122, 123, 124, 125, 126, 127, 128, 129, 130, 131, 132, 133, 134, 7, 135, 136, 137, 138, 139, 140, 141, 142, 143, 144, 145, 146, 147, 148, 149, 150, 151, 152, 153, 154, 155, 156, 157, 158, 159, 160, 161, 162, 163, 164, 165, 166, 167, 168, 169] (by decide +kernel) (by decide +kernel)
set_option maxRecDepth 20000 in
theorem gX5_judge_X5_comesAbout : GoodIn wsX5_judge (wsV RX5 213 RX5 yX5_comesAbout wsX5_comesAbout) := goodIn_app (goodIn_of _ (by decide +kernel)) ggX5_judge_X5_comesAbout
theorem dX5_judge_0 : decode cX5_judge 0 = .ok (.iload_n 1, 1) := by decide +kernel
theorem dX5_judge_1 : decode cX5_judge 1 = .ok (.iconst 1, 1) := by decide +kernel
theorem dX5_judge_2 : decode cX5_judge 2 = .ok (.if_icmp .lt 23, 3) := by decide +kernel
theorem dX5_judge_5 : decode cX5_judge 5 = .ok (.iload_n 1, 1) := by decide +kernel
theorem dX5_judge_6 : decode cX5_judge 6 = .ok (.iconst 4, 1) := by decide +kernel
theorem dX5_judge_7 : decode cX5_judge 7 = .ok (.if_icmp .gt 18, 3) := by decide +kernel
theorem dX5_judge_10 : decode cX5_judge 10 = .ok (.lload_n 2, 1) := by decide +kernel
theorem dX5_judge_11 : decode cX5_judge 11 = .ok (.lconst 0, 1) := by decide +kernel
theorem dX5_judge_12 : decode cX5_judge 12 = .ok (.lcmp, 1) := by decide +kernel
theorem dX5_judge_13 : decode cX5_judge 13 = .ok (.ifCond .lt 12, 3) := by decide +kernel
theorem dX5_judge_16 : decode cX5_judge 16 = .ok (.aload_n 0, 1) := by decide +kernel
theorem dX5_judge_17 : decode cX5_judge 17 = .ok (.iload_n 1, 1) := by decide +kernel
theorem dX5_judge_18 : decode cX5_judge 18 = .ok (.lload_n 2, 1) := by decide +kernel
theorem dX5_judge_19 : decode cX5_judge 19 = .ok (.invokevirtual 209, 3) := by decide +kernel
theorem dX5_judge_22 : decode cX5_judge 22 = .ok (.ifCond .ne 6, 3) := by decide +kernel
theorem dX5_judge_25 : decode cX5_judge 25 = .ok (.bipush (-2), 2) := by decide +kernel
theorem dX5_judge_27 : decode cX5_judge 27 = .ok (.ireturn, 1) := by decide +kernel
theorem dX5_judge_28 : decode cX5_judge 28 = .ok (.aload_n 0, 1) := by decide +kernel
theorem dX5_judge_29 : decode cX5_judge 29 = .ok (.getfield 56, 3) := by decide +kernel
theorem dX5_judge_32 : decode cX5_judge 32 = .ok (.aload_n 0, 1) := by decide +kernel
theorem dX5_judge_33 : decode cX5_judge 33 = .ok (.getfield 52, 3) := by decide +kernel
theorem dX5_judge_36 : decode cX5_judge 36 = .ok (.invokevirtual 173, 3) := by decide +kernel
theorem dX5_judge_39 : decode cX5_judge 39 = .ok (.iconst 0, 1) := by decide +kernel
theorem dX5_judge_40 : decode cX5_judge 40 = .ok (.istore 4, 2) := by decide +kernel
theorem dX5_judge_42 : decode cX5_judge 42 = .ok (.iload 4, 2) := by decide +kernel
theorem dX5_judge_44 : decode cX5_judge 44 = .ok (.iload_n 1, 1) := by decide +kernel
theorem dX5_judge_45 : decode cX5_judge 45 = .ok (.if_icmp .ge 50, 3) := by decide +kernel
theorem dX5_judge_48 : decode cX5_judge 48 = .ok (.iconst 3, 1) := by decide +kernel
theorem dX5_judge_49 : decode cX5_judge 49 = .ok (.iload 4, 2) := by decide +kernel
theorem dX5_judge_51 : decode cX5_judge 51 = .ok (.imul, 1) := by decide +kernel
theorem dX5_judge_52 : decode cX5_judge 52 = .ok (.istore 5, 2) := by decide +kernel
theorem dX5_judge_54 : decode cX5_judge 54 = .ok (.aload_n 0, 1) := by decide +kernel
theorem dX5_judge_55 : decode cX5_judge 55 = .ok (.aload_n 0, 1) := by decide +kernel
theorem dX5_judge_56 : decode cX5_judge 56 = .ok (.getfield 23, 3) := by decide +kernel
theorem dX5_judge_59 : decode cX5_judge 59 = .ok (.iload 5, 2) := by decide +kernel
theorem dX5_judge_61 : decode cX5_judge 61 = .ok (.iaload, 1) := by decide +kernel
theorem dX5_judge_62 : decode cX5_judge 62 = .ok (.aload_n 0, 1) := by decide +kernel
theorem dX5_judge_63 : decode cX5_judge 63 = .ok (.getfield 23, 3) := by decide +kernel
theorem dX5_judge_66 : decode cX5_judge 66 = .ok (.iload 5, 2) := by decide +kernel
theorem dX5_judge_68 : decode cX5_judge 68 = .ok (.iconst 1, 1) := by decide +kernel
theorem dX5_judge_69 : decode cX5_judge 69 = .ok (.iadd, 1) := by decide +kernel
theorem dX5_judge_70 : decode cX5_judge 70 = .ok (.iaload, 1) := by decide +kernel
theorem dX5_judge_71 : decode cX5_judge 71 = .ok (.aload_n 0, 1) := by decide +kernel
theorem dX5_judge_72 : decode cX5_judge 72 = .ok (.getfield 23, 3) := by decide +kernel
theorem dX5_judge_75 : decode cX5_judge 75 = .ok (.iload 5, 2) := by decide +kernel
theorem dX5_judge_77 : decode cX5_judge 77 = .ok (.iconst 2, 1) := by decide +kernel
theorem dX5_judge_78 : decode cX5_judge 78 = .ok (.iadd, 1) := by decide +kernel
theorem dX5_judge_79 : decode cX5_judge 79 = .ok (.iaload, 1) := by decide +kernel
theorem dX5_judge_80 : decode cX5_judge 80 = .ok (.invokevirtual 213, 3) := by decide +kernel
theorem dX5_judge_83 : decode cX5_judge 83 = .ok (.ifCond .ne 6, 3) := by decide +kernel
theorem dX5_judge_86 : decode cX5_judge 86 = .ok (.iload 4, 2) := by decide +kernel
theorem dX5_judge_88 : decode cX5_judge 88 = .ok (.ireturn, 1) := by decide +kernel
theorem dX5_judge_89 : decode cX5_judge 89 = .ok (.iinc 4 1, 3) := by decide +kernel
theorem dX5_judge_92 : decode cX5_judge 92 = .ok (.goto (-50), 3) := by decide +kernel
theorem dX5_judge_95 : decode cX5_judge 95 = .ok (.bipush (-9), 2) := by decide +kernel
theorem dX5_judge_97 : decode cX5_judge 97 = .ok (.ireturn, 1) := by decide +kernel
set_option maxRecDepth 20000 in
theorem ggX5_hear_X5_isFigure : GoodIn wsX5_hear wsX5_isFigure := goodIn_r _ [6] (by decide +kernel) (by decide +kernel)
set_option maxRecDepth 20000 in
theorem gX5_hear_X5_isFigure : GoodIn wsX5_hear (va_wsS RX5 216 yX5_isFigure wsX5_isFigure) := goodIn_app (goodIn_of _ (by decide +kernel)) ggX5_hear_X5_isFigure
set_option maxRecDepth 20000 in
theorem ggX5_hear_X5_isZeroOrOne : GoodIn wsX5_hear wsX5_isZeroOrOne := goodIn_r _ [9] (by decide +kernel) (by decide +kernel)
set_option maxRecDepth 20000 in
theorem gX5_hear_X5_isZeroOrOne : GoodIn wsX5_hear (va_wsS RX5 185 yX5_isZeroOrOne wsX5_isZeroOrOne) := goodIn_app (goodIn_of _ (by decide +kernel)) ggX5_hear_X5_isZeroOrOne
set_option maxRecDepth 20000 in
theorem ggX5_hear_X1_add : GoodIn wsX5_hear wsX1_add := goodIn_r _ [14, 15, 16, 17, 18, 34, 35, 36, 37] (by decide +kernel) (by decide +kernel)
set_option maxRecDepth 20000 in
theorem gX5_hear_X1_add : GoodIn wsX5_hear (wsV RX5 220 RX1 yX1_add wsX1_add) := goodIn_app (goodIn_of _ (by decide +kernel)) ggX5_hear_X1_add
theorem dX5_hear_0 : decode cX5_hear 0 = .ok (.iload_n 1, 1) := by decide +kernel
theorem dX5_hear_1 : decode cX5_hear 1 = .ok (.invokestatic 216, 3) := by decide +kernel
theorem dX5_hear_4 : decode cX5_hear 4 = .ok (.ifCond .eq 17, 3) := by decide +kernel
theorem dX5_hear_7 : decode cX5_hear 7 = .ok (.iload_n 2, 1) := by decide +kernel
theorem dX5_hear_8 : decode cX5_hear 8 = .ok (.invokestatic 216, 3) := by decide +kernel
theorem dX5_hear_11 : decode cX5_hear 11 = .ok (.ifCond .eq 10, 3) := by decide +kernel
theorem dX5_hear_14 : decode cX5_hear 14 = .ok (.iload_n 3, 1) := by decide +kernel
theorem dX5_hear_15 : decode cX5_hear 15 = .ok (.invokestatic 185, 3) := by decide +kernel
theorem dX5_hear_18 : decode cX5_hear 18 = .ok (.ifCond .ne 6, 3) := by decide +kernel
theorem dX5_hear_21 : decode cX5_hear 21 = .ok (.bipush (-2), 2) := by decide +kernel
theorem dX5_hear_23 : decode cX5_hear 23 = .ok (.ireturn, 1) := by decide +kernel
theorem dX5_hear_24 : decode cX5_hear 24 = .ok (.aload_n 0, 1) := by decide +kernel
theorem dX5_hear_25 : decode cX5_hear 25 = .ok (.getfield 69, 3) := by decide +kernel
theorem dX5_hear_28 : decode cX5_hear 28 = .ok (.getfield 219, 3) := by decide +kernel
theorem dX5_hear_31 : decode cX5_hear 31 = .ok (.bipush 6, 2) := by decide +kernel
theorem dX5_hear_33 : decode cX5_hear 33 = .ok (.if_icmp .lt 6, 3) := by decide +kernel
theorem dX5_hear_36 : decode cX5_hear 36 = .ok (.bipush (-4), 2) := by decide +kernel
theorem dX5_hear_38 : decode cX5_hear 38 = .ok (.ireturn, 1) := by decide +kernel
theorem dX5_hear_39 : decode cX5_hear 39 = .ok (.aload_n 0, 1) := by decide +kernel
theorem dX5_hear_40 : decode cX5_hear 40 = .ok (.getfield 69, 3) := by decide +kernel
theorem dX5_hear_43 : decode cX5_hear 43 = .ok (.iload_n 1, 1) := by decide +kernel
theorem dX5_hear_44 : decode cX5_hear 44 = .ok (.iload_n 2, 1) := by decide +kernel
theorem dX5_hear_45 : decode cX5_hear 45 = .ok (.iload_n 3, 1) := by decide +kernel
theorem dX5_hear_46 : decode cX5_hear 46 = .ok (.iconst 1, 1) := by decide +kernel
theorem dX5_hear_47 : decode cX5_hear 47 = .ok (.if_icmp .ne 7, 3) := by decide +kernel
theorem dX5_hear_50 : decode cX5_hear 50 = .ok (.iconst 1, 1) := by decide +kernel
theorem dX5_hear_51 : decode cX5_hear 51 = .ok (.goto 4, 3) := by decide +kernel
theorem dX5_hear_54 : decode cX5_hear 54 = .ok (.iconst 0, 1) := by decide +kernel
theorem dX5_hear_55 : decode cX5_hear 55 = .ok (.invokevirtual 220, 3) := by decide +kernel
theorem dX5_hear_58 : decode cX5_hear 58 = .ok (.aload_n 0, 1) := by decide +kernel
theorem dX5_hear_59 : decode cX5_hear 59 = .ok (.getfield 69, 3) := by decide +kernel
theorem dX5_hear_62 : decode cX5_hear 62 = .ok (.getfield 219, 3) := by decide +kernel
theorem dX5_hear_65 : decode cX5_hear 65 = .ok (.ireturn, 1) := by decide +kernel
theorem dX5_unhear_0 : decode cX5_unhear 0 = .ok (.aload_n 0, 1) := by decide +kernel
theorem dX5_unhear_1 : decode cX5_unhear 1 = .ok (.getfield 69, 3) := by decide +kernel
theorem dX5_unhear_4 : decode cX5_unhear 4 = .ok (.getfield 219, 3) := by decide +kernel
theorem dX5_unhear_7 : decode cX5_unhear 7 = .ok (.istore_n 1, 1) := by decide +kernel
theorem dX5_unhear_8 : decode cX5_unhear 8 = .ok (.aload_n 0, 1) := by decide +kernel
theorem dX5_unhear_9 : decode cX5_unhear 9 = .ok (.getfield 69, 3) := by decide +kernel
theorem dX5_unhear_12 : decode cX5_unhear 12 = .ok (.iconst 0, 1) := by decide +kernel
theorem dX5_unhear_13 : decode cX5_unhear 13 = .ok (.putfield 219, 3) := by decide +kernel
theorem dX5_unhear_16 : decode cX5_unhear 16 = .ok (.iload_n 1, 1) := by decide +kernel
theorem dX5_unhear_17 : decode cX5_unhear 17 = .ok (.ireturn, 1) := by decide +kernel
set_option maxRecDepth 20000 in
theorem ggX5_ears_X5_isZeroOrOne : GoodIn wsX5_ears wsX5_isZeroOrOne := goodIn_r _ [5] (by decide +kernel) (by decide +kernel)
set_option maxRecDepth 20000 in
theorem gX5_ears_X5_isZeroOrOne : GoodIn wsX5_ears (va_wsS RX5 185 yX5_isZeroOrOne wsX5_isZeroOrOne) := goodIn_app (goodIn_of _ (by decide +kernel)) ggX5_ears_X5_isZeroOrOne
set_option maxRecDepth 20000 in
theorem ggX5_ears_X1_fits : GoodIn wsX5_ears wsX1_fits := goodIn_r _ [10, 11, 12, 13, 14, 30, 31, 32, 33] (by decide +kernel) (by decide +kernel)
set_option maxRecDepth 20000 in
theorem gX5_ears_X1_fits : GoodIn wsX5_ears (wsV RX5 224 RX1 yX1_fits wsX1_fits) := goodIn_app (goodIn_of _ (by decide +kernel)) ggX5_ears_X1_fits
theorem dX5_ears_0 : decode cX5_ears 0 = .ok (.iload_n 1, 1) := by decide +kernel
theorem dX5_ears_1 : decode cX5_ears 1 = .ok (.invokestatic 185, 3) := by decide +kernel
theorem dX5_ears_4 : decode cX5_ears 4 = .ok (.ifCond .ne 6, 3) := by decide +kernel
theorem dX5_ears_7 : decode cX5_ears 7 = .ok (.bipush (-2), 2) := by decide +kernel
theorem dX5_ears_9 : decode cX5_ears 9 = .ok (.ireturn, 1) := by decide +kernel
theorem dX5_ears_10 : decode cX5_ears 10 = .ok (.iconst 0, 1) := by decide +kernel
theorem dX5_ears_11 : decode cX5_ears 11 = .ok (.istore_n 2, 1) := by decide +kernel
theorem dX5_ears_12 : decode cX5_ears 12 = .ok (.bipush (-9), 2) := by decide +kernel
theorem dX5_ears_14 : decode cX5_ears 14 = .ok (.istore_n 3, 1) := by decide +kernel
theorem dX5_ears_15 : decode cX5_ears 15 = .ok (.iconst 0, 1) := by decide +kernel
theorem dX5_ears_16 : decode cX5_ears 16 = .ok (.istore 4, 2) := by decide +kernel
theorem dX5_ears_18 : decode cX5_ears 18 = .ok (.iload 4, 2) := by decide +kernel
theorem dX5_ears_20 : decode cX5_ears 20 = .ok (.iconst 3, 1) := by decide +kernel
theorem dX5_ears_21 : decode cX5_ears 21 = .ok (.if_icmp .ge 59, 3) := by decide +kernel
theorem dX5_ears_24 : decode cX5_ears 24 = .ok (.iconst 0, 1) := by decide +kernel
theorem dX5_ears_25 : decode cX5_ears 25 = .ok (.istore 5, 2) := by decide +kernel
theorem dX5_ears_27 : decode cX5_ears 27 = .ok (.iload 5, 2) := by decide +kernel
theorem dX5_ears_29 : decode cX5_ears 29 = .ok (.bipush 10, 2) := by decide +kernel
theorem dX5_ears_31 : decode cX5_ears 31 = .ok (.if_icmp .ge 43, 3) := by decide +kernel
theorem dX5_ears_34 : decode cX5_ears 34 = .ok (.aload_n 0, 1) := by decide +kernel
theorem dX5_ears_35 : decode cX5_ears 35 = .ok (.getfield 69, 3) := by decide +kernel
theorem dX5_ears_38 : decode cX5_ears 38 = .ok (.iload 4, 2) := by decide +kernel
theorem dX5_ears_40 : decode cX5_ears 40 = .ok (.iload 5, 2) := by decide +kernel
theorem dX5_ears_42 : decode cX5_ears 42 = .ok (.invokevirtual 224, 3) := by decide +kernel
theorem dX5_ears_45 : decode cX5_ears 45 = .ok (.ifCond .eq 23, 3) := by decide +kernel
theorem dX5_ears_48 : decode cX5_ears 48 = .ok (.iload_n 2, 1) := by decide +kernel
theorem dX5_ears_49 : decode cX5_ears 49 = .ok (.ifCond .ne 14, 3) := by decide +kernel
theorem dX5_ears_52 : decode cX5_ears 52 = .ok (.bipush 10, 2) := by decide +kernel
theorem dX5_ears_54 : decode cX5_ears 54 = .ok (.iload 4, 2) := by decide +kernel
theorem dX5_ears_56 : decode cX5_ears 56 = .ok (.imul, 1) := by decide +kernel
theorem dX5_ears_57 : decode cX5_ears 57 = .ok (.iload 5, 2) := by decide +kernel
theorem dX5_ears_59 : decode cX5_ears 59 = .ok (.iadd, 1) := by decide +kernel
theorem dX5_ears_60 : decode cX5_ears 60 = .ok (.goto 4, 3) := by decide +kernel
theorem dX5_ears_63 : decode cX5_ears 63 = .ok (.iload_n 3, 1) := by decide +kernel
theorem dX5_ears_64 : decode cX5_ears 64 = .ok (.istore_n 3, 1) := by decide +kernel
theorem dX5_ears_65 : decode cX5_ears 65 = .ok (.iinc 2 1, 3) := by decide +kernel
theorem dX5_ears_68 : decode cX5_ears 68 = .ok (.iinc 5 1, 3) := by decide +kernel
theorem dX5_ears_71 : decode cX5_ears 71 = .ok (.goto (-44), 3) := by decide +kernel
theorem dX5_ears_74 : decode cX5_ears 74 = .ok (.iinc 4 1, 3) := by decide +kernel
theorem dX5_ears_77 : decode cX5_ears 77 = .ok (.goto (-59), 3) := by decide +kernel
theorem dX5_ears_80 : decode cX5_ears 80 = .ok (.iload_n 1, 1) := by decide +kernel
theorem dX5_ears_81 : decode cX5_ears 81 = .ok (.ifCond .ne 7, 3) := by decide +kernel
theorem dX5_ears_84 : decode cX5_ears 84 = .ok (.iload_n 2, 1) := by decide +kernel
theorem dX5_ears_85 : decode cX5_ears 85 = .ok (.goto 4, 3) := by decide +kernel
theorem dX5_ears_88 : decode cX5_ears 88 = .ok (.iload_n 3, 1) := by decide +kernel
theorem dX5_ears_89 : decode cX5_ears 89 = .ok (.ireturn, 1) := by decide +kernel
set_option maxRecDepth 20000 in
theorem ggX5_share_X2_hasHouse : GoodIn wsX5_share wsX2_hasHouse := goodIn_r _ [7, 8, 43, 44, 45, 46, 47, 48, 49, 50, 51] (by decide +kernel) (by decide +kernel)
set_option maxRecDepth 20000 in
theorem gX5_share_X2_hasHouse : GoodIn wsX5_share (wsV RX5 102 RX2 yX2_hasHouse wsX2_hasHouse) := goodIn_app (goodIn_of _ (by decide +kernel)) ggX5_share_X2_hasHouse
set_option maxRecDepth 20000 in
theorem ggX5_share_X4_knowsThing : GoodIn wsX5_share wsX4_knowsThing := goodIn_r _ [13, 14, 52, 53, 54, 55, 56, 57] (by decide +kernel) (by decide +kernel)
set_option maxRecDepth 20000 in
theorem gX5_share_X4_knowsThing : GoodIn wsX5_share (wsV RX5 182 RX4 yX4_knowsThing wsX4_knowsThing) := goodIn_app (goodIn_of _ (by decide +kernel)) ggX5_share_X4_knowsThing
set_option maxRecDepth 20000 in
theorem ggX5_share_X4_knowersOf : GoodIn wsX5_share wsX4_knowersOf := goodIn_r _ [18, 19, 20, 14, 52, 53, 54, 55, 56, 57, 43, 44, 45, 46, 47, 48, 49, 50, 51] (by decide +kernel) (by decide +kernel)
set_option maxRecDepth 20000 in
theorem gX5_share_X4_knowersOf : GoodIn wsX5_share (wsV RX5 227 RX4 yX4_knowersOf wsX4_knowersOf) := goodIn_app (goodIn_of _ (by decide +kernel)) ggX5_share_X4_knowersOf
set_option maxRecDepth 20000 in
theorem ggX5_share_X5_fraction : GoodIn wsX5_share wsX5_fraction := goodIn_r _ [24, 25, 26, 23, 27] (by decide +kernel) (by decide +kernel)
set_option maxRecDepth 20000 in
theorem gX5_share_X5_fraction : GoodIn wsX5_share (va_wsS RX5 230 yX5_fraction wsX5_fraction) := goodIn_app (goodIn_of _ (by decide +kernel)) ggX5_share_X5_fraction
theorem dX5_share_0 : decode cX5_share 0 = .ok (.aload_n 0, 1) := by decide +kernel
theorem dX5_share_1 : decode cX5_share 1 = .ok (.getfield 38, 3) := by decide +kernel
theorem dX5_share_4 : decode cX5_share 4 = .ok (.iload_n 1, 1) := by decide +kernel
theorem dX5_share_5 : decode cX5_share 5 = .ok (.invokevirtual 102, 3) := by decide +kernel
theorem dX5_share_8 : decode cX5_share 8 = .ok (.ifCond .ne 5, 3) := by decide +kernel
theorem dX5_share_11 : decode cX5_share 11 = .ok (.iconst (-1), 1) := by decide +kernel
theorem dX5_share_12 : decode cX5_share 12 = .ok (.ireturn, 1) := by decide +kernel
theorem dX5_share_13 : decode cX5_share 13 = .ok (.iconst 0, 1) := by decide +kernel
theorem dX5_share_14 : decode cX5_share 14 = .ok (.istore_n 3, 1) := by decide +kernel
theorem dX5_share_15 : decode cX5_share 15 = .ok (.iconst 0, 1) := by decide +kernel
theorem dX5_share_16 : decode cX5_share 16 = .ok (.istore 4, 2) := by decide +kernel
theorem dX5_share_18 : decode cX5_share 18 = .ok (.iload 4, 2) := by decide +kernel
theorem dX5_share_20 : decode cX5_share 20 = .ok (.bipush 6, 2) := by decide +kernel
theorem dX5_share_22 : decode cX5_share 22 = .ok (.if_icmp .ge 50, 3) := by decide +kernel
theorem dX5_share_25 : decode cX5_share 25 = .ok (.aload_n 0, 1) := by decide +kernel
theorem dX5_share_26 : decode cX5_share 26 = .ok (.getfield 52, 3) := by decide +kernel
theorem dX5_share_29 : decode cX5_share 29 = .ok (.iload_n 1, 1) := by decide +kernel
theorem dX5_share_30 : decode cX5_share 30 = .ok (.iload 4, 2) := by decide +kernel
theorem dX5_share_32 : decode cX5_share 32 = .ok (.invokevirtual 182, 3) := by decide +kernel
theorem dX5_share_35 : decode cX5_share 35 = .ok (.ifCond .eq 31, 3) := by decide +kernel
theorem dX5_share_38 : decode cX5_share 38 = .ok (.aload_n 0, 1) := by decide +kernel
theorem dX5_share_39 : decode cX5_share 39 = .ok (.getfield 52, 3) := by decide +kernel
theorem dX5_share_42 : decode cX5_share 42 = .ok (.iload 4, 2) := by decide +kernel
theorem dX5_share_44 : decode cX5_share 44 = .ok (.invokevirtual 227, 3) := by decide +kernel
theorem dX5_share_47 : decode cX5_share 47 = .ok (.istore 5, 2) := by decide +kernel
theorem dX5_share_49 : decode cX5_share 49 = .ok (.iload_n 3, 1) := by decide +kernel
theorem dX5_share_50 : decode cX5_share 50 = .ok (.iload 5, 2) := by decide +kernel
theorem dX5_share_52 : decode cX5_share 52 = .ok (.ifCond .le 11, 3) := by decide +kernel
theorem dX5_share_55 : decode cX5_share 55 = .ok (.bipush 60, 2) := by decide +kernel
theorem dX5_share_57 : decode cX5_share 57 = .ok (.iload 5, 2) := by decide +kernel
theorem dX5_share_59 : decode cX5_share 59 = .ok (.idiv, 1) := by decide +kernel
theorem dX5_share_60 : decode cX5_share 60 = .ok (.goto 4, 3) := by decide +kernel
theorem dX5_share_63 : decode cX5_share 63 = .ok (.iconst 0, 1) := by decide +kernel
theorem dX5_share_64 : decode cX5_share 64 = .ok (.iadd, 1) := by decide +kernel
theorem dX5_share_65 : decode cX5_share 65 = .ok (.istore_n 3, 1) := by decide +kernel
theorem dX5_share_66 : decode cX5_share 66 = .ok (.iinc 4 1, 3) := by decide +kernel
theorem dX5_share_69 : decode cX5_share 69 = .ok (.goto (-51), 3) := by decide +kernel
theorem dX5_share_72 : decode cX5_share 72 = .ok (.iload_n 3, 1) := by decide +kernel
theorem dX5_share_73 : decode cX5_share 73 = .ok (.bipush 60, 2) := by decide +kernel
theorem dX5_share_75 : decode cX5_share 75 = .ok (.iload_n 2, 1) := by decide +kernel
theorem dX5_share_76 : decode cX5_share 76 = .ok (.invokestatic 230, 3) := by decide +kernel
theorem dX5_share_79 : decode cX5_share 79 = .ok (.ireturn, 1) := by decide +kernel
set_option maxRecDepth 20000 in
theorem ggX5_rests_X2_hasHouse : GoodIn wsX5_rests wsX2_hasHouse := goodIn_r _ [8, 9, 128, 129, 130, 131, 132, 133, 134, 135, 136] (by decide +kernel) (by decide +kernel)
set_option maxRecDepth 20000 in
theorem gX5_rests_X2_hasHouse : GoodIn wsX5_rests (wsV RX5 102 RX2 yX2_hasHouse wsX2_hasHouse) := goodIn_app (goodIn_of _ (by decide +kernel)) ggX5_rests_X2_hasHouse
set_option maxRecDepth 20000 in
theorem ggX5_rests_X5_isZeroOrOne : GoodIn wsX5_rests wsX5_isZeroOrOne := goodIn_r _ [13] (by decide +kernel) (by decide +kernel)
set_option maxRecDepth 20000 in
theorem gX5_rests_X5_isZeroOrOne : GoodIn wsX5_rests (va_wsS RX5 185 yX5_isZeroOrOne wsX5_isZeroOrOne) := goodIn_app (goodIn_of _ (by decide +kernel)) ggX5_rests_X5_isZeroOrOne
set_option maxRecDepth 20000 in
theorem ggX5_rests_X5_fillChoices : GoodIn wsX5_rests wsX5_fillChoices := goodIn_r _ [17, 18, 19, 2, 20, 3, 21, 22, 23, 24, 25, 26, 27, 28, 29, 30, 31, 32, 33, 34, 35, 36, 37, 38, 39, 40, 41, 42, 43, 44, 5, 6, 7, 8, 9, 45, 46, 47, 48, 49, 50, 51, 52, 53, 54, 55, 56, 57, 58, 59, 60, 61, 62, 63, 64, 65, 66, 67, 68, 69, 70, 71, 72, 73, 74, 75, 76, 77, 78, 79, 80, 81, 82, 83, 84, 85, 86, 87, 88, 89, 90, 91, 92, 93, 94, 95, 96, 97, 98, 99, 100, 101, 102, 103, 104, 105, 106, 107, 108, 109, 110, 111, 112, 113, 114, 115, 116, 117, 118, 119, 120, 121, 122, 123, 124, 125, 126, 127, 137, 138, 139, 140, 141, 142, 128, 129, 130, 131, 132, 133, 134, 135, 136] (by decide +kernel) (by decide +kernel)
set_option maxRecDepth 20000 in
theorem gX5_rests_X5_fillChoices : GoodIn wsX5_rests (wsV RX5 234 RX5 yX5_fillChoices wsX5_fillChoices) := goodIn_app (goodIn_of _ (by decide +kernel)) ggX5_rests_X5_fillChoices
theorem dX5_rests_0 : decode cX5_rests 0 = .ok (.aload_n 0, 1) := by decide +kernel
theorem dX5_rests_1 : decode cX5_rests 1 = .ok (.getfield 38, 3) := by decide +kernel
theorem dX5_rests_4 : decode cX5_rests 4 = .ok (.iload_n 1, 1) := by decide +kernel
theorem dX5_rests_5 : decode cX5_rests 5 = .ok (.invokevirtual 102, 3) := by decide +kernel
theorem dX5_rests_8 : decode cX5_rests 8 = .ok (.ifCond .eq 14, 3) := by decide +kernel
theorem dX5_rests_11 : decode cX5_rests 11 = .ok (.aload_n 0, 1) := by decide +kernel
theorem dX5_rests_12 : decode cX5_rests 12 = .ok (.getfield 38, 3) := by decide +kernel
theorem dX5_rests_15 : decode cX5_rests 15 = .ok (.iload_n 2, 1) := by decide +kernel
theorem dX5_rests_16 : decode cX5_rests 16 = .ok (.invokevirtual 102, 3) := by decide +kernel
theorem dX5_rests_19 : decode cX5_rests 19 = .ok (.ifCond .ne 5, 3) := by decide +kernel
theorem dX5_rests_22 : decode cX5_rests 22 = .ok (.iconst (-1), 1) := by decide +kernel
theorem dX5_rests_23 : decode cX5_rests 23 = .ok (.ireturn, 1) := by decide +kernel
theorem dX5_rests_24 : decode cX5_rests 24 = .ok (.iload_n 1, 1) := by decide +kernel
theorem dX5_rests_25 : decode cX5_rests 25 = .ok (.iload_n 2, 1) := by decide +kernel
theorem dX5_rests_26 : decode cX5_rests 26 = .ok (.if_icmp .eq 10, 3) := by decide +kernel
theorem dX5_rests_29 : decode cX5_rests 29 = .ok (.iload_n 3, 1) := by decide +kernel
theorem dX5_rests_30 : decode cX5_rests 30 = .ok (.invokestatic 185, 3) := by decide +kernel
theorem dX5_rests_33 : decode cX5_rests 33 = .ok (.ifCond .ne 6, 3) := by decide +kernel
theorem dX5_rests_36 : decode cX5_rests 36 = .ok (.bipush (-2), 2) := by decide +kernel
theorem dX5_rests_38 : decode cX5_rests 38 = .ok (.ireturn, 1) := by decide +kernel
theorem dX5_rests_39 : decode cX5_rests 39 = .ok (.aload_n 0, 1) := by decide +kernel
theorem dX5_rests_40 : decode cX5_rests 40 = .ok (.iload_n 1, 1) := by decide +kernel
theorem dX5_rests_41 : decode cX5_rests 41 = .ok (.iload_n 2, 1) := by decide +kernel
theorem dX5_rests_42 : decode cX5_rests 42 = .ok (.invokevirtual 234, 3) := by decide +kernel
theorem dX5_rests_45 : decode cX5_rests 45 = .ok (.iconst 0, 1) := by decide +kernel
theorem dX5_rests_46 : decode cX5_rests 46 = .ok (.istore 4, 2) := by decide +kernel
theorem dX5_rests_48 : decode cX5_rests 48 = .ok (.bipush (-9), 2) := by decide +kernel
theorem dX5_rests_50 : decode cX5_rests 50 = .ok (.istore 5, 2) := by decide +kernel
theorem dX5_rests_52 : decode cX5_rests 52 = .ok (.iconst 0, 1) := by decide +kernel
theorem dX5_rests_53 : decode cX5_rests 53 = .ok (.istore 6, 2) := by decide +kernel
theorem dX5_rests_55 : decode cX5_rests 55 = .ok (.iload 6, 2) := by decide +kernel
theorem dX5_rests_57 : decode cX5_rests 57 = .ok (.iconst 4, 1) := by decide +kernel
theorem dX5_rests_58 : decode cX5_rests 58 = .ok (.if_icmp .ge 74, 3) := by decide +kernel
theorem dX5_rests_61 : decode cX5_rests 61 = .ok (.aload_n 0, 1) := by decide +kernel
theorem dX5_rests_62 : decode cX5_rests 62 = .ok (.getfield 29, 3) := by decide +kernel
theorem dX5_rests_65 : decode cX5_rests 65 = .ok (.iload 6, 2) := by decide +kernel
theorem dX5_rests_67 : decode cX5_rests 67 = .ok (.iaload, 1) := by decide +kernel
theorem dX5_rests_68 : decode cX5_rests 68 = .ok (.aload_n 0, 1) := by decide +kernel
theorem dX5_rests_69 : decode cX5_rests 69 = .ok (.getfield 29, 3) := by decide +kernel
theorem dX5_rests_72 : decode cX5_rests 72 = .ok (.iload 6, 2) := by decide +kernel
theorem dX5_rests_74 : decode cX5_rests 74 = .ok (.iconst 2, 1) := by decide +kernel
theorem dX5_rests_75 : decode cX5_rests 75 = .ok (.ixor, 1) := by decide +kernel
theorem dX5_rests_76 : decode cX5_rests 76 = .ok (.iaload, 1) := by decide +kernel
theorem dX5_rests_77 : decode cX5_rests 77 = .ok (.if_icmp .lt 49, 3) := by decide +kernel
theorem dX5_rests_80 : decode cX5_rests 80 = .ok (.aload_n 0, 1) := by decide +kernel
theorem dX5_rests_81 : decode cX5_rests 81 = .ok (.getfield 32, 3) := by decide +kernel
theorem dX5_rests_84 : decode cX5_rests 84 = .ok (.iload 6, 2) := by decide +kernel
theorem dX5_rests_86 : decode cX5_rests 86 = .ok (.iaload, 1) := by decide +kernel
theorem dX5_rests_87 : decode cX5_rests 87 = .ok (.aload_n 0, 1) := by decide +kernel
theorem dX5_rests_88 : decode cX5_rests 88 = .ok (.getfield 32, 3) := by decide +kernel
theorem dX5_rests_91 : decode cX5_rests 91 = .ok (.iload 6, 2) := by decide +kernel
theorem dX5_rests_93 : decode cX5_rests 93 = .ok (.iconst 1, 1) := by decide +kernel
theorem dX5_rests_94 : decode cX5_rests 94 = .ok (.ixor, 1) := by decide +kernel
theorem dX5_rests_95 : decode cX5_rests 95 = .ok (.iaload, 1) := by decide +kernel
theorem dX5_rests_96 : decode cX5_rests 96 = .ok (.if_icmp .lt 30, 3) := by decide +kernel
theorem dX5_rests_99 : decode cX5_rests 99 = .ok (.iload 4, 2) := by decide +kernel
theorem dX5_rests_101 : decode cX5_rests 101 = .ok (.ifCond .ne 18, 3) := by decide +kernel
theorem dX5_rests_104 : decode cX5_rests 104 = .ok (.bipush 10, 2) := by decide +kernel
theorem dX5_rests_106 : decode cX5_rests 106 = .ok (.iload 6, 2) := by decide +kernel
theorem dX5_rests_108 : decode cX5_rests 108 = .ok (.iconst 1, 1) := by decide +kernel
theorem dX5_rests_109 : decode cX5_rests 109 = .ok (.ishr, 1) := by decide +kernel
theorem dX5_rests_110 : decode cX5_rests 110 = .ok (.imul, 1) := by decide +kernel
theorem dX5_rests_111 : decode cX5_rests 111 = .ok (.iload 6, 2) := by decide +kernel
theorem dX5_rests_113 : decode cX5_rests 113 = .ok (.iconst 1, 1) := by decide +kernel
theorem dX5_rests_114 : decode cX5_rests 114 = .ok (.iand, 1) := by decide +kernel
theorem dX5_rests_115 : decode cX5_rests 115 = .ok (.iadd, 1) := by decide +kernel
theorem dX5_rests_116 : decode cX5_rests 116 = .ok (.goto 5, 3) := by decide +kernel
theorem dX5_rests_119 : decode cX5_rests 119 = .ok (.iload 5, 2) := by decide +kernel
theorem dX5_rests_121 : decode cX5_rests 121 = .ok (.istore 5, 2) := by decide +kernel
theorem dX5_rests_123 : decode cX5_rests 123 = .ok (.iinc 4 1, 3) := by decide +kernel
theorem dX5_rests_126 : decode cX5_rests 126 = .ok (.iinc 6 1, 3) := by decide +kernel
theorem dX5_rests_129 : decode cX5_rests 129 = .ok (.goto (-74), 3) := by decide +kernel
theorem dX5_rests_132 : decode cX5_rests 132 = .ok (.iload_n 3, 1) := by decide +kernel
theorem dX5_rests_133 : decode cX5_rests 133 = .ok (.ifCond .ne 8, 3) := by decide +kernel
theorem dX5_rests_136 : decode cX5_rests 136 = .ok (.iload 4, 2) := by decide +kernel
theorem dX5_rests_138 : decode cX5_rests 138 = .ok (.goto 5, 3) := by decide +kernel
theorem dX5_rests_141 : decode cX5_rests 141 = .ok (.iload 5, 2) := by decide +kernel
theorem dX5_rests_143 : decode cX5_rests 143 = .ok (.ireturn, 1) := by decide +kernel
set_option maxRecDepth 20000 in
theorem ggX5_dries_X2_hasHouse : GoodIn wsX5_dries wsX2_hasHouse := goodIn_r _ [6, 7, 128, 129, 130, 131, 132, 133, 134, 135, 136] (by decide +kernel) (by decide +kernel)
set_option maxRecDepth 20000 in
theorem gX5_dries_X2_hasHouse : GoodIn wsX5_dries (wsV RX5 102 RX2 yX2_hasHouse wsX2_hasHouse) := goodIn_app (goodIn_of _ (by decide +kernel)) ggX5_dries_X2_hasHouse
set_option maxRecDepth 20000 in
theorem ggX5_dries_X5_isThing : GoodIn wsX5_dries wsX5_isThing := goodIn_r _ [11] (by decide +kernel) (by decide +kernel)
set_option maxRecDepth 20000 in
theorem gX5_dries_X5_isThing : GoodIn wsX5_dries (va_wsS RX5 179 yX5_isThing wsX5_isThing) := goodIn_app (goodIn_of _ (by decide +kernel)) ggX5_dries_X5_isThing
set_option maxRecDepth 20000 in
theorem ggX5_dries_X5_weightOf : GoodIn wsX5_dries wsX5_weightOf := goodIn_r _ [14] (by decide +kernel) (by decide +kernel)
set_option maxRecDepth 20000 in
theorem gX5_dries_X5_weightOf : GoodIn wsX5_dries (va_wsS RX5 238 yX5_weightOf wsX5_weightOf) := goodIn_app (goodIn_of _ (by decide +kernel)) ggX5_dries_X5_weightOf
set_option maxRecDepth 20000 in
theorem ggX5_dries_X5_knowsBehind : GoodIn wsX5_dries wsX5_knowsBehind := goodIn_r _ [18, 19, 20, 1, 21, 22, 23, 24, 25, 26, 27, 28, 29, 30, 31, 32, 33, 34, 35, 36, 37, 38, 5, 39, 40, 41, 42, 43, 44, 45, 46, 47, 48, 49, 50, 51, 52, 53, 54, 55, 56, 57, 58, 59, 60, 61, 62, 63, 64, 65, 66, 67, 68, 69, 70, 71, 72, 73, 74, 75, 76, 77, 78, 79, 80, 81, 82, 83, 84, 85, 86, 87, 88, 7, 89, 90, 91, 92, 93, 94, 95, 96, 97, 98, 99, 100, 101, 102, 103, 113, 114, 115, 116, 117, 118, 119, 120, 121, 122, 123, 124, 125, 126, 127, 137, 138, 139, 140, 141, 142, 128, 129, 130, 131, 132, 133, 134, 135, 136] (by decide +kernel) (by decide +kernel)
set_option maxRecDepth 20000 in
theorem gX5_dries_X5_knowsBehind : GoodIn wsX5_dries (wsV RX5 242 RX5 yX5_knowsBehind wsX5_knowsBehind) := goodIn_app (goodIn_of _ (by decide +kernel)) ggX5_dries_X5_knowsBehind
set_option maxRecDepth 20000 in
theorem ggX5_dries_X5_tenToThe : GoodIn wsX5_dries wsX5_tenToThe := goodIn_r _ [106] (by decide +kernel) (by decide +kernel)
set_option maxRecDepth 20000 in
theorem gX5_dries_X5_tenToThe : GoodIn wsX5_dries (va_wsS RX5 246 yX5_tenToThe wsX5_tenToThe) := goodIn_app (goodIn_of _ (by decide +kernel)) ggX5_dries_X5_tenToThe
set_option maxRecDepth 20000 in
theorem ggX5_dries_X5_fraction : GoodIn wsX5_dries wsX5_fraction := goodIn_r _ [109, 110, 111, 10, 112] (by decide +kernel) (by decide +kernel)
set_option maxRecDepth 20000 in
theorem gX5_dries_X5_fraction : GoodIn wsX5_dries (va_wsS RX5 230 yX5_fraction wsX5_fraction) := goodIn_app (goodIn_of _ (by decide +kernel)) ggX5_dries_X5_fraction
theorem dX5_dries_0 : decode cX5_dries 0 = .ok (.aload_n 0, 1) := by decide +kernel
theorem dX5_dries_1 : decode cX5_dries 1 = .ok (.getfield 38, 3) := by decide +kernel
theorem dX5_dries_4 : decode cX5_dries 4 = .ok (.iload_n 1, 1) := by decide +kernel
theorem dX5_dries_5 : decode cX5_dries 5 = .ok (.invokevirtual 102, 3) := by decide +kernel
theorem dX5_dries_8 : decode cX5_dries 8 = .ok (.ifCond .eq 10, 3) := by decide +kernel
theorem dX5_dries_11 : decode cX5_dries 11 = .ok (.iload_n 2, 1) := by decide +kernel
theorem dX5_dries_12 : decode cX5_dries 12 = .ok (.invokestatic 179, 3) := by decide +kernel
theorem dX5_dries_15 : decode cX5_dries 15 = .ok (.ifCond .ne 5, 3) := by decide +kernel
theorem dX5_dries_18 : decode cX5_dries 18 = .ok (.iconst (-1), 1) := by decide +kernel
theorem dX5_dries_19 : decode cX5_dries 19 = .ok (.ireturn, 1) := by decide +kernel
theorem dX5_dries_20 : decode cX5_dries 20 = .ok (.iload_n 3, 1) := by decide +kernel
theorem dX5_dries_21 : decode cX5_dries 21 = .ok (.iconst 1, 1) := by decide +kernel
theorem dX5_dries_22 : decode cX5_dries 22 = .ok (.if_icmp .lt 21, 3) := by decide +kernel
theorem dX5_dries_25 : decode cX5_dries 25 = .ok (.iload_n 3, 1) := by decide +kernel
theorem dX5_dries_26 : decode cX5_dries 26 = .ok (.bipush 6, 2) := by decide +kernel
theorem dX5_dries_28 : decode cX5_dries 28 = .ok (.if_icmp .gt 15, 3) := by decide +kernel
theorem dX5_dries_31 : decode cX5_dries 31 = .ok (.iload 4, 2) := by decide +kernel
theorem dX5_dries_33 : decode cX5_dries 33 = .ok (.ifCond .lt 10, 3) := by decide +kernel
theorem dX5_dries_36 : decode cX5_dries 36 = .ok (.iload 4, 2) := by decide +kernel
theorem dX5_dries_38 : decode cX5_dries 38 = .ok (.bipush 10, 2) := by decide +kernel
theorem dX5_dries_40 : decode cX5_dries 40 = .ok (.if_icmp .le 6, 3) := by decide +kernel
theorem dX5_dries_43 : decode cX5_dries 43 = .ok (.bipush (-2), 2) := by decide +kernel
theorem dX5_dries_45 : decode cX5_dries 45 = .ok (.ireturn, 1) := by decide +kernel
theorem dX5_dries_46 : decode cX5_dries 46 = .ok (.iconst 0, 1) := by decide +kernel
theorem dX5_dries_47 : decode cX5_dries 47 = .ok (.istore 6, 2) := by decide +kernel
theorem dX5_dries_49 : decode cX5_dries 49 = .ok (.iconst 0, 1) := by decide +kernel
theorem dX5_dries_50 : decode cX5_dries 50 = .ok (.istore 7, 2) := by decide +kernel
theorem dX5_dries_52 : decode cX5_dries 52 = .ok (.iload 7, 2) := by decide +kernel
theorem dX5_dries_54 : decode cX5_dries 54 = .ok (.iconst 1, 1) := by decide +kernel
theorem dX5_dries_55 : decode cX5_dries 55 = .ok (.iload_n 3, 1) := by decide +kernel
theorem dX5_dries_56 : decode cX5_dries 56 = .ok (.ishl, 1) := by decide +kernel
theorem dX5_dries_57 : decode cX5_dries 57 = .ok (.if_icmp .ge 43, 3) := by decide +kernel
theorem dX5_dries_60 : decode cX5_dries 60 = .ok (.iload 7, 2) := by decide +kernel
theorem dX5_dries_62 : decode cX5_dries 62 = .ok (.iload_n 3, 1) := by decide +kernel
theorem dX5_dries_63 : decode cX5_dries 63 = .ok (.iload 4, 2) := by decide +kernel
theorem dX5_dries_65 : decode cX5_dries 65 = .ok (.invokestatic 238, 3) := by decide +kernel
theorem dX5_dries_68 : decode cX5_dries 68 = .ok (.istore 8, 2) := by decide +kernel
theorem dX5_dries_70 : decode cX5_dries 70 = .ok (.iload 8, 2) := by decide +kernel
theorem dX5_dries_72 : decode cX5_dries 72 = .ok (.ifCond .le 22, 3) := by decide +kernel
theorem dX5_dries_75 : decode cX5_dries 75 = .ok (.aload_n 0, 1) := by decide +kernel
theorem dX5_dries_76 : decode cX5_dries 76 = .ok (.iload 7, 2) := by decide +kernel
theorem dX5_dries_78 : decode cX5_dries 78 = .ok (.iload_n 3, 1) := by decide +kernel
theorem dX5_dries_79 : decode cX5_dries 79 = .ok (.iload_n 1, 1) := by decide +kernel
theorem dX5_dries_80 : decode cX5_dries 80 = .ok (.iload_n 2, 1) := by decide +kernel
theorem dX5_dries_81 : decode cX5_dries 81 = .ok (.invokevirtual 242, 3) := by decide +kernel
theorem dX5_dries_84 : decode cX5_dries 84 = .ok (.ifCond .eq 10, 3) := by decide +kernel
theorem dX5_dries_87 : decode cX5_dries 87 = .ok (.iload 6, 2) := by decide +kernel
theorem dX5_dries_89 : decode cX5_dries 89 = .ok (.iload 8, 2) := by decide +kernel
theorem dX5_dries_91 : decode cX5_dries 91 = .ok (.iadd, 1) := by decide +kernel
theorem dX5_dries_92 : decode cX5_dries 92 = .ok (.istore 6, 2) := by decide +kernel
theorem dX5_dries_94 : decode cX5_dries 94 = .ok (.iinc 7 1, 3) := by decide +kernel
theorem dX5_dries_97 : decode cX5_dries 97 = .ok (.goto (-45), 3) := by decide +kernel
theorem dX5_dries_100 : decode cX5_dries 100 = .ok (.iload 6, 2) := by decide +kernel
theorem dX5_dries_102 : decode cX5_dries 102 = .ok (.iload_n 3, 1) := by decide +kernel
theorem dX5_dries_103 : decode cX5_dries 103 = .ok (.invokestatic 246, 3) := by decide +kernel
theorem dX5_dries_106 : decode cX5_dries 106 = .ok (.iload 5, 2) := by decide +kernel
theorem dX5_dries_108 : decode cX5_dries 108 = .ok (.invokestatic 230, 3) := by decide +kernel
theorem dX5_dries_111 : decode cX5_dries 111 = .ok (.ireturn, 1) := by decide +kernel
theorem dX5_seed_0 : decode cX5_seed 0 = .ok (.aload_n 0, 1) := by decide +kernel
theorem dX5_seed_1 : decode cX5_seed 1 = .ok (.getfield 249, 3) := by decide +kernel
theorem dX5_seed_4 : decode cX5_seed 4 = .ok (.lstore_n 3, 1) := by decide +kernel
theorem dX5_seed_5 : decode cX5_seed 5 = .ok (.aload_n 0, 1) := by decide +kernel
theorem dX5_seed_6 : decode cX5_seed 6 = .ok (.lload_n 1, 1) := by decide +kernel
theorem dX5_seed_7 : decode cX5_seed 7 = .ok (.putfield 249, 3) := by decide +kernel
theorem dX5_seed_10 : decode cX5_seed 10 = .ok (.lload_n 3, 1) := by decide +kernel
theorem dX5_seed_11 : decode cX5_seed 11 = .ok (.lreturn, 1) := by decide +kernel
set_option maxRecDepth 20000 in
theorem ggX5_years_X4_take : GoodIn wsX5_years wsX4_take := goodIn_r _ [11, 12, 13, 14, 15, 16, 17, 18, 19, 20, 147, 148, 149, 150, 151, 152] (by decide +kernel) (by decide +kernel)
set_option maxRecDepth 20000 in
theorem gX5_years_X4_take : GoodIn wsX5_years (wsV RX5 173 RX4 yX4_take wsX4_take) := goodIn_app (goodIn_of _ (by decide +kernel)) ggX5_years_X4_take
set_option maxRecDepth 20000 in
theorem ggX5_years_X5_doByLot : GoodIn wsX5_years wsX5_doByLot := goodIn_r _ [25, 1, 26, 27, 28, 10, 29, 18, 30, 31, 32, 33, 34, 35, 36, 37, 38, 39, 40, 41, 42, 43, 44, 45, 46, 47, 48, 49, 50, 51, 52, 12, 17, 53, 54, 55, 56, 57, 58, 59, 60, 61, 62, 63, 64, 20, 65, 66, 67, 68, 69, 70, 71, 72, 73, 74, 75, 76, 77, 78, 79, 19, 80, 81, 82, 83, 84, 85, 86, 87, 88, 89, 90, 91, 92, 93, 94, 95, 96, 97, 98, 99, 100, 101, 102, 103, 104, 105, 106, 107, 108, 109, 110, 111, 112, 113, 114, 115, 116, 117, 118, 119, 120, 121, 122, 123, 124, 125, 126, 127, 132, 133, 134, 135, 136, 137, 138, 139, 140, 141, 142, 143, 144, 145, 146, 147, 148, 149, 150, 151, 152, 153, 154, 155, 156, 157, 158, 159, 160, 161] (by decide +kernel) (by decide +kernel)
set_option maxRecDepth 20000 in
theorem gX5_years_X5_doByLot : GoodIn wsX5_years (wsV RX5 259 RX5 yX5_doByLot wsX5_doByLot) := goodIn_app (goodIn_of _ (by decide +kernel)) ggX5_years_X5_doByLot
set_option maxRecDepth 20000 in
theorem ggX5_years_X4_allKnown : GoodIn wsX5_years wsX4_allKnown := goodIn_r _ [131, 34, 100, 17, 121, 122, 123, 124, 125, 126, 127, 147, 148, 149, 150, 151, 152, 153, 154, 155, 156, 157, 158, 159, 160, 161] (by decide +kernel) (by decide +kernel)
set_option maxRecDepth 20000 in
theorem gX5_years_X4_allKnown : GoodIn wsX5_years (wsV RX5 262 RX4 yX4_allKnown wsX4_allKnown) := goodIn_app (goodIn_of _ (by decide +kernel)) ggX5_years_X4_allKnown
theorem dX5_years_0 : decode cX5_years 0 = .ok (.iload_n 1, 1) := by decide +kernel
theorem dX5_years_1 : decode cX5_years 1 = .ok (.iconst 1, 1) := by decide +kernel
theorem dX5_years_2 : decode cX5_years 2 = .ok (.if_icmp .lt 9, 3) := by decide +kernel
theorem dX5_years_5 : decode cX5_years 5 = .ok (.iload_n 1, 1) := by decide +kernel
theorem dX5_years_6 : decode cX5_years 6 = .ok (.bipush 30, 2) := by decide +kernel
theorem dX5_years_8 : decode cX5_years 8 = .ok (.if_icmp .le 6, 3) := by decide +kernel
theorem dX5_years_11 : decode cX5_years 11 = .ok (.bipush (-2), 2) := by decide +kernel
theorem dX5_years_13 : decode cX5_years 13 = .ok (.ireturn, 1) := by decide +kernel
theorem dX5_years_14 : decode cX5_years 14 = .ok (.aload_n 0, 1) := by decide +kernel
theorem dX5_years_15 : decode cX5_years 15 = .ok (.getfield 56, 3) := by decide +kernel
theorem dX5_years_18 : decode cX5_years 18 = .ok (.aload_n 0, 1) := by decide +kernel
theorem dX5_years_19 : decode cX5_years 19 = .ok (.getfield 52, 3) := by decide +kernel
theorem dX5_years_22 : decode cX5_years 22 = .ok (.invokevirtual 173, 3) := by decide +kernel
theorem dX5_years_25 : decode cX5_years 25 = .ok (.iconst 0, 1) := by decide +kernel
theorem dX5_years_26 : decode cX5_years 26 = .ok (.istore_n 2, 1) := by decide +kernel
theorem dX5_years_27 : decode cX5_years 27 = .ok (.iconst 0, 1) := by decide +kernel
theorem dX5_years_28 : decode cX5_years 28 = .ok (.istore_n 3, 1) := by decide +kernel
theorem dX5_years_29 : decode cX5_years 29 = .ok (.iload_n 3, 1) := by decide +kernel
theorem dX5_years_30 : decode cX5_years 30 = .ok (.iload_n 1, 1) := by decide +kernel
theorem dX5_years_31 : decode cX5_years 31 = .ok (.if_icmp .ge 51, 3) := by decide +kernel
theorem dX5_years_34 : decode cX5_years 34 = .ok (.aload_n 0, 1) := by decide +kernel
theorem dX5_years_35 : decode cX5_years 35 = .ok (.aload_n 0, 1) := by decide +kernel
theorem dX5_years_36 : decode cX5_years 36 = .ok (.getfield 249, 3) := by decide +kernel
theorem dX5_years_39 : decode cX5_years 39 = .ok (.ldc2_w 253, 3) := by decide +kernel
theorem dX5_years_42 : decode cX5_years 42 = .ok (.lmul, 1) := by decide +kernel
theorem dX5_years_43 : decode cX5_years 43 = .ok (.ldc2_w 255, 3) := by decide +kernel
theorem dX5_years_46 : decode cX5_years 46 = .ok (.ladd, 1) := by decide +kernel
theorem dX5_years_47 : decode cX5_years 47 = .ok (.putfield 249, 3) := by decide +kernel
theorem dX5_years_50 : decode cX5_years 50 = .ok (.aload_n 0, 1) := by decide +kernel
theorem dX5_years_51 : decode cX5_years 51 = .ok (.aload_n 0, 1) := by decide +kernel
theorem dX5_years_52 : decode cX5_years 52 = .ok (.getfield 249, 3) := by decide +kernel
theorem dX5_years_55 : decode cX5_years 55 = .ok (.bipush 33, 2) := by decide +kernel
theorem dX5_years_57 : decode cX5_years 57 = .ok (.lushr, 1) := by decide +kernel
theorem dX5_years_58 : decode cX5_years 58 = .ok (.ldc2_w 257, 3) := by decide +kernel
theorem dX5_years_61 : decode cX5_years 61 = .ok (.land, 1) := by decide +kernel
theorem dX5_years_62 : decode cX5_years 62 = .ok (.l2i, 1) := by decide +kernel
theorem dX5_years_63 : decode cX5_years 63 = .ok (.invokevirtual 259, 3) := by decide +kernel
theorem dX5_years_66 : decode cX5_years 66 = .ok (.iload_n 2, 1) := by decide +kernel
theorem dX5_years_67 : decode cX5_years 67 = .ok (.aload_n 0, 1) := by decide +kernel
theorem dX5_years_68 : decode cX5_years 68 = .ok (.getfield 56, 3) := by decide +kernel
theorem dX5_years_71 : decode cX5_years 71 = .ok (.invokevirtual 262, 3) := by decide +kernel
theorem dX5_years_74 : decode cX5_years 74 = .ok (.iadd, 1) := by decide +kernel
theorem dX5_years_75 : decode cX5_years 75 = .ok (.istore_n 2, 1) := by decide +kernel
theorem dX5_years_76 : decode cX5_years 76 = .ok (.iinc 3 1, 3) := by decide +kernel
theorem dX5_years_79 : decode cX5_years 79 = .ok (.goto (-50), 3) := by decide +kernel
theorem dX5_years_82 : decode cX5_years 82 = .ok (.iload_n 2, 1) := by decide +kernel
theorem dX5_years_83 : decode cX5_years 83 = .ok (.ireturn, 1) := by decide +kernel
set_option maxRecDepth 20000 in
theorem ggX5_keep_X4_take : GoodIn wsX5_keep wsX4_take := goodIn_r _ [9, 10, 11, 12, 13, 14, 15, 16, 17, 18, 34, 35, 36, 37, 38, 39] (by decide +kernel) (by decide +kernel)
set_option maxRecDepth 20000 in
theorem gX5_keep_X4_take : GoodIn wsX5_keep (wsV RX5 173 RX4 yX4_take wsX4_take) := goodIn_app (goodIn_of _ (by decide +kernel)) ggX5_keep_X4_take
theorem dX5_keep_0 : decode cX5_keep 0 = .ok (.iload_n 1, 1) := by decide +kernel
theorem dX5_keep_1 : decode cX5_keep 1 = .ok (.ifCond .lt 8, 3) := by decide +kernel
theorem dX5_keep_4 : decode cX5_keep 4 = .ok (.iload_n 1, 1) := by decide +kernel
theorem dX5_keep_5 : decode cX5_keep 5 = .ok (.iconst 2, 1) := by decide +kernel
theorem dX5_keep_6 : decode cX5_keep 6 = .ok (.if_icmp .lt 5, 3) := by decide +kernel
theorem dX5_keep_9 : decode cX5_keep 9 = .ok (.iconst (-1), 1) := by decide +kernel
theorem dX5_keep_10 : decode cX5_keep 10 = .ok (.ireturn, 1) := by decide +kernel
theorem dX5_keep_11 : decode cX5_keep 11 = .ok (.aload_n 0, 1) := by decide +kernel
theorem dX5_keep_12 : decode cX5_keep 12 = .ok (.getfield 15, 3) := by decide +kernel
theorem dX5_keep_15 : decode cX5_keep 15 = .ok (.iload_n 1, 1) := by decide +kernel
theorem dX5_keep_16 : decode cX5_keep 16 = .ok (.aaload, 1) := by decide +kernel
theorem dX5_keep_17 : decode cX5_keep 17 = .ok (.aload_n 0, 1) := by decide +kernel
theorem dX5_keep_18 : decode cX5_keep 18 = .ok (.getfield 52, 3) := by decide +kernel
theorem dX5_keep_21 : decode cX5_keep 21 = .ok (.invokevirtual 173, 3) := by decide +kernel
theorem dX5_keep_24 : decode cX5_keep 24 = .ok (.aload_n 0, 1) := by decide +kernel
theorem dX5_keep_25 : decode cX5_keep 25 = .ok (.getfield 19, 3) := by decide +kernel
theorem dX5_keep_28 : decode cX5_keep 28 = .ok (.iload_n 1, 1) := by decide +kernel
theorem dX5_keep_29 : decode cX5_keep 29 = .ok (.iconst 1, 1) := by decide +kernel
theorem dX5_keep_30 : decode cX5_keep 30 = .ok (.bastore, 1) := by decide +kernel
theorem dX5_keep_31 : decode cX5_keep 31 = .ok (.aload_n 0, 1) := by decide +kernel
theorem dX5_keep_32 : decode cX5_keep 32 = .ok (.getfield 52, 3) := by decide +kernel
theorem dX5_keep_35 : decode cX5_keep 35 = .ok (.getfield 265, 3) := by decide +kernel
theorem dX5_keep_38 : decode cX5_keep 38 = .ok (.ireturn, 1) := by decide +kernel
set_option maxRecDepth 20000 in
theorem ggX5_again_X4_take : GoodIn wsX5_again wsX4_take := goodIn_r _ [10, 11, 12, 13, 14, 15, 16, 17, 18, 19, 42, 43, 44, 45, 46, 47] (by decide +kernel) (by decide +kernel)
set_option maxRecDepth 20000 in
theorem gX5_again_X4_take : GoodIn wsX5_again (wsV RX5 173 RX4 yX4_take wsX4_take) := goodIn_app (goodIn_of _ (by decide +kernel)) ggX5_again_X4_take
set_option maxRecDepth 20000 in
theorem ggX5_again_X0_forget : GoodIn wsX5_again wsX0_forget := goodIn_r _ [24, 25, 26, 48, 49, 50] (by decide +kernel) (by decide +kernel)
set_option maxRecDepth 20000 in
theorem gX5_again_X0_forget : GoodIn wsX5_again (wsV RX5 90 RX0 yX0_forget wsX0_forget) := goodIn_app (goodIn_of _ (by decide +kernel)) ggX5_again_X0_forget
theorem dX5_again_0 : decode cX5_again 0 = .ok (.iload_n 1, 1) := by decide +kernel
theorem dX5_again_1 : decode cX5_again 1 = .ok (.ifCond .lt 8, 3) := by decide +kernel
theorem dX5_again_4 : decode cX5_again 4 = .ok (.iload_n 1, 1) := by decide +kernel
theorem dX5_again_5 : decode cX5_again 5 = .ok (.iconst 2, 1) := by decide +kernel
theorem dX5_again_6 : decode cX5_again 6 = .ok (.if_icmp .lt 5, 3) := by decide +kernel
theorem dX5_again_9 : decode cX5_again 9 = .ok (.iconst (-1), 1) := by decide +kernel
theorem dX5_again_10 : decode cX5_again 10 = .ok (.ireturn, 1) := by decide +kernel
theorem dX5_again_11 : decode cX5_again 11 = .ok (.aload_n 0, 1) := by decide +kernel
theorem dX5_again_12 : decode cX5_again 12 = .ok (.getfield 19, 3) := by decide +kernel
theorem dX5_again_15 : decode cX5_again 15 = .ok (.iload_n 1, 1) := by decide +kernel
theorem dX5_again_16 : decode cX5_again 16 = .ok (.baload, 1) := by decide +kernel
theorem dX5_again_17 : decode cX5_again 17 = .ok (.ifCond .ne 6, 3) := by decide +kernel
theorem dX5_again_20 : decode cX5_again 20 = .ok (.bipush (-3), 2) := by decide +kernel
theorem dX5_again_22 : decode cX5_again 22 = .ok (.ireturn, 1) := by decide +kernel
theorem dX5_again_23 : decode cX5_again 23 = .ok (.aload_n 0, 1) := by decide +kernel
theorem dX5_again_24 : decode cX5_again 24 = .ok (.getfield 52, 3) := by decide +kernel
theorem dX5_again_27 : decode cX5_again 27 = .ok (.aload_n 0, 1) := by decide +kernel
theorem dX5_again_28 : decode cX5_again 28 = .ok (.getfield 15, 3) := by decide +kernel
theorem dX5_again_31 : decode cX5_again 31 = .ok (.iload_n 1, 1) := by decide +kernel
theorem dX5_again_32 : decode cX5_again 32 = .ok (.aaload, 1) := by decide +kernel
theorem dX5_again_33 : decode cX5_again 33 = .ok (.invokevirtual 173, 3) := by decide +kernel
theorem dX5_again_36 : decode cX5_again 36 = .ok (.aload_n 0, 1) := by decide +kernel
theorem dX5_again_37 : decode cX5_again 37 = .ok (.getfield 62, 3) := by decide +kernel
theorem dX5_again_40 : decode cX5_again 40 = .ok (.invokevirtual 90, 3) := by decide +kernel
theorem dX5_again_43 : decode cX5_again 43 = .ok (.aload_n 0, 1) := by decide +kernel
theorem dX5_again_44 : decode cX5_again 44 = .ok (.getfield 52, 3) := by decide +kernel
theorem dX5_again_47 : decode cX5_again 47 = .ok (.getfield 265, 3) := by decide +kernel
theorem dX5_again_50 : decode cX5_again 50 = .ok (.ireturn, 1) := by decide +kernel
set_option maxRecDepth 20000 in
theorem ggX5_count_X2_rainAt : GoodIn wsX5_count wsX2_rainAt := goodIn_r _ [17, 18, 19, 20, 21, 22, 23, 87, 88, 89, 90, 91, 92, 93, 94, 95] (by decide +kernel) (by decide +kernel)
set_option maxRecDepth 20000 in
theorem gX5_count_X2_rainAt : GoodIn wsX5_count (wsV RX5 268 RX2 yX2_rainAt wsX2_rainAt) := goodIn_app (goodIn_of _ (by decide +kernel)) ggX5_count_X2_rainAt
set_option maxRecDepth 20000 in
theorem ggX5_count_X4_areStrayed : GoodIn wsX5_count wsX4_areStrayed := goodIn_r _ [28, 29, 96, 97, 98, 99, 100, 101] (by decide +kernel) (by decide +kernel)
set_option maxRecDepth 20000 in
theorem gX5_count_X4_areStrayed : GoodIn wsX5_count (wsV RX5 274 RX4 yX4_areStrayed wsX4_areStrayed) := goodIn_app (goodIn_of _ (by decide +kernel)) ggX5_count_X4_areStrayed
set_option maxRecDepth 20000 in
theorem ggX5_count_X2_allHouses : GoodIn wsX5_count wsX2_allHouses := goodIn_r _ [33, 34, 87, 88, 89, 90, 91, 92, 93, 94, 95] (by decide +kernel) (by decide +kernel)
set_option maxRecDepth 20000 in
theorem gX5_count_X2_allHouses : GoodIn wsX5_count (wsV RX5 198 RX2 yX2_allHouses wsX2_allHouses) := goodIn_app (goodIn_of _ (by decide +kernel)) ggX5_count_X2_allHouses
set_option maxRecDepth 20000 in
theorem ggX5_count_X4_knownBy : GoodIn wsX5_count wsX4_knownBy := goodIn_r _ [38, 39, 40, 41, 96, 97, 98, 99, 100, 101, 87, 88, 89, 90, 91, 92, 93, 94, 95] (by decide +kernel) (by decide +kernel)
set_option maxRecDepth 20000 in
theorem gX5_count_X4_knownBy : GoodIn wsX5_count (wsV RX5 206 RX4 yX4_knownBy wsX4_knownBy) := goodIn_app (goodIn_of _ (by decide +kernel)) ggX5_count_X4_knownBy
set_option maxRecDepth 20000 in
theorem ggX5_count_X4_housesThatHear : GoodIn wsX5_count wsX4_housesThatHear := goodIn_r _ [45, 39, 46, 47, 14, 15, 16, 17, 18, 19, 20, 21, 22, 23, 48, 49, 50, 27, 51, 52, 53, 54, 55, 40, 56, 57, 58, 59, 60, 61, 62, 63, 64, 65, 66, 67, 25, 26, 28, 29, 68, 69, 70, 71, 96, 97, 98, 99, 100, 101, 87, 88, 89, 90, 91, 92, 93, 94, 95] (by decide +kernel) (by decide +kernel)
set_option maxRecDepth 20000 in
theorem gX5_count_X4_housesThatHear : GoodIn wsX5_count (wsV RX5 122 RX4 yX4_housesThatHear wsX4_housesThatHear) := goodIn_app (goodIn_of _ (by decide +kernel)) ggX5_count_X4_housesThatHear
theorem dX5_count_0 : decode cX5_count 0 = .ok (.iload_n 1, 1) := by decide +kernel
theorem dX5_count_1 : decode cX5_count 1 = .ok (.tableswitch 178 0 11 #[63, 68, 76, 84, 92, 100, 115, 123, 139, 154, 162, 170], 63) := by decide +kernel
theorem dX5_count_64 : decode cX5_count 64 = .ok (.aload_n 0, 1) := by decide +kernel
theorem dX5_count_65 : decode cX5_count 65 = .ok (.getfield 73, 3) := by decide +kernel
theorem dX5_count_68 : decode cX5_count 68 = .ok (.ireturn, 1) := by decide +kernel
theorem dX5_count_69 : decode cX5_count 69 = .ok (.aload_n 0, 1) := by decide +kernel
theorem dX5_count_70 : decode cX5_count 70 = .ok (.getfield 38, 3) := by decide +kernel
theorem dX5_count_73 : decode cX5_count 73 = .ok (.getfield 93, 3) := by decide +kernel
theorem dX5_count_76 : decode cX5_count 76 = .ok (.ireturn, 1) := by decide +kernel
theorem dX5_count_77 : decode cX5_count 77 = .ok (.aload_n 0, 1) := by decide +kernel
theorem dX5_count_78 : decode cX5_count 78 = .ok (.getfield 38, 3) := by decide +kernel
theorem dX5_count_81 : decode cX5_count 81 = .ok (.getfield 96, 3) := by decide +kernel
theorem dX5_count_84 : decode cX5_count 84 = .ok (.ireturn, 1) := by decide +kernel
theorem dX5_count_85 : decode cX5_count 85 = .ok (.aload_n 0, 1) := by decide +kernel
theorem dX5_count_86 : decode cX5_count 86 = .ok (.getfield 38, 3) := by decide +kernel
theorem dX5_count_89 : decode cX5_count 89 = .ok (.getfield 99, 3) := by decide +kernel
theorem dX5_count_92 : decode cX5_count 92 = .ok (.ireturn, 1) := by decide +kernel
theorem dX5_count_93 : decode cX5_count 93 = .ok (.aload_n 0, 1) := by decide +kernel
theorem dX5_count_94 : decode cX5_count 94 = .ok (.getfield 52, 3) := by decide +kernel
theorem dX5_count_97 : decode cX5_count 97 = .ok (.getfield 265, 3) := by decide +kernel
theorem dX5_count_100 : decode cX5_count 100 = .ok (.ireturn, 1) := by decide +kernel
theorem dX5_count_101 : decode cX5_count 101 = .ok (.aload_n 0, 1) := by decide +kernel
theorem dX5_count_102 : decode cX5_count 102 = .ok (.getfield 38, 3) := by decide +kernel
theorem dX5_count_105 : decode cX5_count 105 = .ok (.aload_n 0, 1) := by decide +kernel
theorem dX5_count_106 : decode cX5_count 106 = .ok (.getfield 52, 3) := by decide +kernel
theorem dX5_count_109 : decode cX5_count 109 = .ok (.getfield 265, 3) := by decide +kernel
theorem dX5_count_112 : decode cX5_count 112 = .ok (.invokevirtual 268, 3) := by decide +kernel
theorem dX5_count_115 : decode cX5_count 115 = .ok (.ireturn, 1) := by decide +kernel
theorem dX5_count_116 : decode cX5_count 116 = .ok (.aload_n 0, 1) := by decide +kernel
theorem dX5_count_117 : decode cX5_count 117 = .ok (.getfield 52, 3) := by decide +kernel
theorem dX5_count_120 : decode cX5_count 120 = .ok (.getfield 271, 3) := by decide +kernel
theorem dX5_count_123 : decode cX5_count 123 = .ok (.ireturn, 1) := by decide +kernel
theorem dX5_count_124 : decode cX5_count 124 = .ok (.aload_n 0, 1) := by decide +kernel
theorem dX5_count_125 : decode cX5_count 125 = .ok (.getfield 52, 3) := by decide +kernel
theorem dX5_count_128 : decode cX5_count 128 = .ok (.invokevirtual 274, 3) := by decide +kernel
theorem dX5_count_131 : decode cX5_count 131 = .ok (.ifCond .eq 7, 3) := by decide +kernel
theorem dX5_count_134 : decode cX5_count 134 = .ok (.iconst 1, 1) := by decide +kernel
theorem dX5_count_135 : decode cX5_count 135 = .ok (.goto 4, 3) := by decide +kernel
theorem dX5_count_138 : decode cX5_count 138 = .ok (.iconst 0, 1) := by decide +kernel
theorem dX5_count_139 : decode cX5_count 139 = .ok (.ireturn, 1) := by decide +kernel
theorem dX5_count_140 : decode cX5_count 140 = .ok (.aload_n 0, 1) := by decide +kernel
theorem dX5_count_141 : decode cX5_count 141 = .ok (.getfield 52, 3) := by decide +kernel
theorem dX5_count_144 : decode cX5_count 144 = .ok (.aload_n 0, 1) := by decide +kernel
theorem dX5_count_145 : decode cX5_count 145 = .ok (.getfield 38, 3) := by decide +kernel
theorem dX5_count_148 : decode cX5_count 148 = .ok (.invokevirtual 198, 3) := by decide +kernel
theorem dX5_count_151 : decode cX5_count 151 = .ok (.invokevirtual 206, 3) := by decide +kernel
theorem dX5_count_154 : decode cX5_count 154 = .ok (.ireturn, 1) := by decide +kernel
theorem dX5_count_155 : decode cX5_count 155 = .ok (.aload_n 0, 1) := by decide +kernel
theorem dX5_count_156 : decode cX5_count 156 = .ok (.getfield 52, 3) := by decide +kernel
theorem dX5_count_159 : decode cX5_count 159 = .ok (.invokevirtual 122, 3) := by decide +kernel
theorem dX5_count_162 : decode cX5_count 162 = .ok (.ireturn, 1) := by decide +kernel
theorem dX5_count_163 : decode cX5_count 163 = .ok (.aload_n 0, 1) := by decide +kernel
theorem dX5_count_164 : decode cX5_count 164 = .ok (.getfield 62, 3) := by decide +kernel
theorem dX5_count_167 : decode cX5_count 167 = .ok (.getfield 167, 3) := by decide +kernel
theorem dX5_count_170 : decode cX5_count 170 = .ok (.ireturn, 1) := by decide +kernel
theorem dX5_count_171 : decode cX5_count 171 = .ok (.aload_n 0, 1) := by decide +kernel
theorem dX5_count_172 : decode cX5_count 172 = .ok (.getfield 69, 3) := by decide +kernel
theorem dX5_count_175 : decode cX5_count 175 = .ok (.getfield 219, 3) := by decide +kernel
theorem dX5_count_178 : decode cX5_count 178 = .ok (.ireturn, 1) := by decide +kernel
theorem dX5_count_179 : decode cX5_count 179 = .ok (.bipush (-2), 2) := by decide +kernel
theorem dX5_count_181 : decode cX5_count 181 = .ok (.ireturn, 1) := by decide +kernel
theorem dX5_isThing_0 : decode cX5_isThing 0 = .ok (.iload_n 0, 1) := by decide +kernel
theorem dX5_isThing_1 : decode cX5_isThing 1 = .ok (.ifCond .lt 13, 3) := by decide +kernel
theorem dX5_isThing_4 : decode cX5_isThing 4 = .ok (.iload_n 0, 1) := by decide +kernel
theorem dX5_isThing_5 : decode cX5_isThing 5 = .ok (.bipush 6, 2) := by decide +kernel
theorem dX5_isThing_7 : decode cX5_isThing 7 = .ok (.if_icmp .ge 7, 3) := by decide +kernel
theorem dX5_isThing_10 : decode cX5_isThing 10 = .ok (.iconst 1, 1) := by decide +kernel
theorem dX5_isThing_11 : decode cX5_isThing 11 = .ok (.goto 4, 3) := by decide +kernel
theorem dX5_isThing_14 : decode cX5_isThing 14 = .ok (.iconst 0, 1) := by decide +kernel
theorem dX5_isThing_15 : decode cX5_isThing 15 = .ok (.ireturn, 1) := by decide +kernel
theorem dX5_isFigure_0 : decode cX5_isFigure 0 = .ok (.iload_n 0, 1) := by decide +kernel
theorem dX5_isFigure_1 : decode cX5_isFigure 1 = .ok (.ifCond .lt 13, 3) := by decide +kernel
theorem dX5_isFigure_4 : decode cX5_isFigure 4 = .ok (.iload_n 0, 1) := by decide +kernel
theorem dX5_isFigure_5 : decode cX5_isFigure 5 = .ok (.bipush 10, 2) := by decide +kernel
theorem dX5_isFigure_7 : decode cX5_isFigure 7 = .ok (.if_icmp .ge 7, 3) := by decide +kernel
theorem dX5_isFigure_10 : decode cX5_isFigure 10 = .ok (.iconst 1, 1) := by decide +kernel
theorem dX5_isFigure_11 : decode cX5_isFigure 11 = .ok (.goto 4, 3) := by decide +kernel
theorem dX5_isFigure_14 : decode cX5_isFigure 14 = .ok (.iconst 0, 1) := by decide +kernel
theorem dX5_isFigure_15 : decode cX5_isFigure 15 = .ok (.ireturn, 1) := by decide +kernel
theorem dX5_isZeroOrOne_0 : decode cX5_isZeroOrOne 0 = .ok (.iload_n 0, 1) := by decide +kernel
theorem dX5_isZeroOrOne_1 : decode cX5_isZeroOrOne 1 = .ok (.ifCond .eq 8, 3) := by decide +kernel
theorem dX5_isZeroOrOne_4 : decode cX5_isZeroOrOne 4 = .ok (.iload_n 0, 1) := by decide +kernel
theorem dX5_isZeroOrOne_5 : decode cX5_isZeroOrOne 5 = .ok (.iconst 1, 1) := by decide +kernel
theorem dX5_isZeroOrOne_6 : decode cX5_isZeroOrOne 6 = .ok (.if_icmp .ne 7, 3) := by decide +kernel
theorem dX5_isZeroOrOne_9 : decode cX5_isZeroOrOne 9 = .ok (.iconst 1, 1) := by decide +kernel
theorem dX5_isZeroOrOne_10 : decode cX5_isZeroOrOne 10 = .ok (.goto 4, 3) := by decide +kernel
theorem dX5_isZeroOrOne_13 : decode cX5_isZeroOrOne 13 = .ok (.iconst 0, 1) := by decide +kernel
theorem dX5_isZeroOrOne_14 : decode cX5_isZeroOrOne 14 = .ok (.ireturn, 1) := by decide +kernel
set_option maxRecDepth 20000 in
theorem ggX5_fraction_X5_greatestDivisor : GoodIn wsX5_fraction wsX5_greatestDivisor := goodIn_r _ [4] (by decide +kernel) (by decide +kernel)
set_option maxRecDepth 20000 in
theorem gX5_fraction_X5_greatestDivisor : GoodIn wsX5_fraction (va_wsS RX5 278 yX5_greatestDivisor wsX5_greatestDivisor) := goodIn_app (goodIn_of _ (by decide +kernel)) ggX5_fraction_X5_greatestDivisor
theorem dX5_fraction_0 : decode cX5_fraction 0 = .ok (.iload_n 0, 1) := by decide +kernel
theorem dX5_fraction_1 : decode cX5_fraction 1 = .ok (.iload_n 1, 1) := by decide +kernel
theorem dX5_fraction_2 : decode cX5_fraction 2 = .ok (.invokestatic 278, 3) := by decide +kernel
theorem dX5_fraction_5 : decode cX5_fraction 5 = .ok (.istore_n 3, 1) := by decide +kernel
theorem dX5_fraction_6 : decode cX5_fraction 6 = .ok (.iload_n 3, 1) := by decide +kernel
theorem dX5_fraction_7 : decode cX5_fraction 7 = .ok (.ifCond .ne 13, 3) := by decide +kernel
theorem dX5_fraction_10 : decode cX5_fraction 10 = .ok (.iload_n 2, 1) := by decide +kernel
theorem dX5_fraction_11 : decode cX5_fraction 11 = .ok (.ifCond .eq 7, 3) := by decide +kernel
theorem dX5_fraction_14 : decode cX5_fraction 14 = .ok (.iload_n 0, 1) := by decide +kernel
theorem dX5_fraction_15 : decode cX5_fraction 15 = .ok (.goto 4, 3) := by decide +kernel
theorem dX5_fraction_18 : decode cX5_fraction 18 = .ok (.iload_n 1, 1) := by decide +kernel
theorem dX5_fraction_19 : decode cX5_fraction 19 = .ok (.ireturn, 1) := by decide +kernel
theorem dX5_fraction_20 : decode cX5_fraction 20 = .ok (.iload_n 2, 1) := by decide +kernel
theorem dX5_fraction_21 : decode cX5_fraction 21 = .ok (.ifCond .eq 9, 3) := by decide +kernel
theorem dX5_fraction_24 : decode cX5_fraction 24 = .ok (.iload_n 0, 1) := by decide +kernel
theorem dX5_fraction_25 : decode cX5_fraction 25 = .ok (.iload_n 3, 1) := by decide +kernel
theorem dX5_fraction_26 : decode cX5_fraction 26 = .ok (.idiv, 1) := by decide +kernel
theorem dX5_fraction_27 : decode cX5_fraction 27 = .ok (.goto 6, 3) := by decide +kernel
theorem dX5_fraction_30 : decode cX5_fraction 30 = .ok (.iload_n 1, 1) := by decide +kernel
theorem dX5_fraction_31 : decode cX5_fraction 31 = .ok (.iload_n 3, 1) := by decide +kernel
theorem dX5_fraction_32 : decode cX5_fraction 32 = .ok (.idiv, 1) := by decide +kernel
theorem dX5_fraction_33 : decode cX5_fraction 33 = .ok (.ireturn, 1) := by decide +kernel
theorem dX5_greatestDivisor_0 : decode cX5_greatestDivisor 0 = .ok (.iload_n 0, 1) := by decide +kernel
theorem dX5_greatestDivisor_1 : decode cX5_greatestDivisor 1 = .ok (.istore_n 2, 1) := by decide +kernel
theorem dX5_greatestDivisor_2 : decode cX5_greatestDivisor 2 = .ok (.iload_n 1, 1) := by decide +kernel
theorem dX5_greatestDivisor_3 : decode cX5_greatestDivisor 3 = .ok (.istore_n 3, 1) := by decide +kernel
theorem dX5_greatestDivisor_4 : decode cX5_greatestDivisor 4 = .ok (.iconst 0, 1) := by decide +kernel
theorem dX5_greatestDivisor_5 : decode cX5_greatestDivisor 5 = .ok (.istore 4, 2) := by decide +kernel
theorem dX5_greatestDivisor_7 : decode cX5_greatestDivisor 7 = .ok (.iload 4, 2) := by decide +kernel
theorem dX5_greatestDivisor_9 : decode cX5_greatestDivisor 9 = .ok (.bipush 64, 2) := by decide +kernel
theorem dX5_greatestDivisor_11 : decode cX5_greatestDivisor 11 = .ok (.if_icmp .ge 23, 3) := by decide +kernel
theorem dX5_greatestDivisor_14 : decode cX5_greatestDivisor 14 = .ok (.iload_n 3, 1) := by decide +kernel
theorem dX5_greatestDivisor_15 : decode cX5_greatestDivisor 15 = .ok (.ifCond .eq 19, 3) := by decide +kernel
theorem dX5_greatestDivisor_18 : decode cX5_greatestDivisor 18 = .ok (.iload_n 2, 1) := by decide +kernel
theorem dX5_greatestDivisor_19 : decode cX5_greatestDivisor 19 = .ok (.iload_n 3, 1) := by decide +kernel
theorem dX5_greatestDivisor_20 : decode cX5_greatestDivisor 20 = .ok (.irem, 1) := by decide +kernel
theorem dX5_greatestDivisor_21 : decode cX5_greatestDivisor 21 = .ok (.istore 5, 2) := by decide +kernel
theorem dX5_greatestDivisor_23 : decode cX5_greatestDivisor 23 = .ok (.iload_n 3, 1) := by decide +kernel
theorem dX5_greatestDivisor_24 : decode cX5_greatestDivisor 24 = .ok (.istore_n 2, 1) := by decide +kernel
theorem dX5_greatestDivisor_25 : decode cX5_greatestDivisor 25 = .ok (.iload 5, 2) := by decide +kernel
theorem dX5_greatestDivisor_27 : decode cX5_greatestDivisor 27 = .ok (.istore_n 3, 1) := by decide +kernel
theorem dX5_greatestDivisor_28 : decode cX5_greatestDivisor 28 = .ok (.iinc 4 1, 3) := by decide +kernel
theorem dX5_greatestDivisor_31 : decode cX5_greatestDivisor 31 = .ok (.goto (-24), 3) := by decide +kernel
theorem dX5_greatestDivisor_34 : decode cX5_greatestDivisor 34 = .ok (.iload_n 2, 1) := by decide +kernel
theorem dX5_greatestDivisor_35 : decode cX5_greatestDivisor 35 = .ok (.ireturn, 1) := by decide +kernel
theorem dX5_tenToThe_0 : decode cX5_tenToThe 0 = .ok (.iconst 1, 1) := by decide +kernel
theorem dX5_tenToThe_1 : decode cX5_tenToThe 1 = .ok (.istore_n 1, 1) := by decide +kernel
theorem dX5_tenToThe_2 : decode cX5_tenToThe 2 = .ok (.iconst 0, 1) := by decide +kernel
theorem dX5_tenToThe_3 : decode cX5_tenToThe 3 = .ok (.istore_n 2, 1) := by decide +kernel
theorem dX5_tenToThe_4 : decode cX5_tenToThe 4 = .ok (.iload_n 2, 1) := by decide +kernel
theorem dX5_tenToThe_5 : decode cX5_tenToThe 5 = .ok (.iload_n 0, 1) := by decide +kernel
theorem dX5_tenToThe_6 : decode cX5_tenToThe 6 = .ok (.if_icmp .ge 14, 3) := by decide +kernel
theorem dX5_tenToThe_9 : decode cX5_tenToThe 9 = .ok (.iload_n 1, 1) := by decide +kernel
theorem dX5_tenToThe_10 : decode cX5_tenToThe 10 = .ok (.bipush 10, 2) := by decide +kernel
theorem dX5_tenToThe_12 : decode cX5_tenToThe 12 = .ok (.imul, 1) := by decide +kernel
theorem dX5_tenToThe_13 : decode cX5_tenToThe 13 = .ok (.istore_n 1, 1) := by decide +kernel
theorem dX5_tenToThe_14 : decode cX5_tenToThe 14 = .ok (.iinc 2 1, 3) := by decide +kernel
theorem dX5_tenToThe_17 : decode cX5_tenToThe 17 = .ok (.goto (-13), 3) := by decide +kernel
theorem dX5_tenToThe_20 : decode cX5_tenToThe 20 = .ok (.iload_n 1, 1) := by decide +kernel
theorem dX5_tenToThe_21 : decode cX5_tenToThe 21 = .ok (.ireturn, 1) := by decide +kernel
theorem dX5_sumOfLowerings_0 : decode cX5_sumOfLowerings 0 = .ok (.iconst 0, 1) := by decide +kernel
theorem dX5_sumOfLowerings_1 : decode cX5_sumOfLowerings 1 = .ok (.istore_n 1, 1) := by decide +kernel
theorem dX5_sumOfLowerings_2 : decode cX5_sumOfLowerings 2 = .ok (.iconst 0, 1) := by decide +kernel
theorem dX5_sumOfLowerings_3 : decode cX5_sumOfLowerings 3 = .ok (.istore_n 2, 1) := by decide +kernel
theorem dX5_sumOfLowerings_4 : decode cX5_sumOfLowerings 4 = .ok (.iload_n 2, 1) := by decide +kernel
theorem dX5_sumOfLowerings_5 : decode cX5_sumOfLowerings 5 = .ok (.aload_n 0, 1) := by decide +kernel
theorem dX5_sumOfLowerings_6 : decode cX5_sumOfLowerings 6 = .ok (.getfield 38, 3) := by decide +kernel
theorem dX5_sumOfLowerings_9 : decode cX5_sumOfLowerings 9 = .ok (.getfield 93, 3) := by decide +kernel
theorem dX5_sumOfLowerings_12 : decode cX5_sumOfLowerings 12 = .ok (.if_icmp .ge 18, 3) := by decide +kernel
theorem dX5_sumOfLowerings_15 : decode cX5_sumOfLowerings 15 = .ok (.iload_n 1, 1) := by decide +kernel
theorem dX5_sumOfLowerings_16 : decode cX5_sumOfLowerings 16 = .ok (.aload_n 0, 1) := by decide +kernel
theorem dX5_sumOfLowerings_17 : decode cX5_sumOfLowerings 17 = .ok (.getfield 26, 3) := by decide +kernel
theorem dX5_sumOfLowerings_20 : decode cX5_sumOfLowerings 20 = .ok (.iload_n 2, 1) := by decide +kernel
theorem dX5_sumOfLowerings_21 : decode cX5_sumOfLowerings 21 = .ok (.iaload, 1) := by decide +kernel
theorem dX5_sumOfLowerings_22 : decode cX5_sumOfLowerings 22 = .ok (.iadd, 1) := by decide +kernel
theorem dX5_sumOfLowerings_23 : decode cX5_sumOfLowerings 23 = .ok (.istore_n 1, 1) := by decide +kernel
theorem dX5_sumOfLowerings_24 : decode cX5_sumOfLowerings 24 = .ok (.iinc 2 1, 3) := by decide +kernel
theorem dX5_sumOfLowerings_27 : decode cX5_sumOfLowerings 27 = .ok (.goto (-23), 3) := by decide +kernel
theorem dX5_sumOfLowerings_30 : decode cX5_sumOfLowerings 30 = .ok (.iload_n 1, 1) := by decide +kernel
theorem dX5_sumOfLowerings_31 : decode cX5_sumOfLowerings 31 = .ok (.ireturn, 1) := by decide +kernel
theorem dX5_figuresOfLowerings_0 : decode cX5_figuresOfLowerings 0 = .ok (.iconst 0, 1) := by decide +kernel
theorem dX5_figuresOfLowerings_1 : decode cX5_figuresOfLowerings 1 = .ok (.istore_n 1, 1) := by decide +kernel
theorem dX5_figuresOfLowerings_2 : decode cX5_figuresOfLowerings 2 = .ok (.iconst 0, 1) := by decide +kernel
theorem dX5_figuresOfLowerings_3 : decode cX5_figuresOfLowerings 3 = .ok (.istore_n 2, 1) := by decide +kernel
theorem dX5_figuresOfLowerings_4 : decode cX5_figuresOfLowerings 4 = .ok (.iload_n 2, 1) := by decide +kernel
theorem dX5_figuresOfLowerings_5 : decode cX5_figuresOfLowerings 5 = .ok (.aload_n 0, 1) := by decide +kernel
theorem dX5_figuresOfLowerings_6 : decode cX5_figuresOfLowerings 6 = .ok (.getfield 38, 3) := by decide +kernel
theorem dX5_figuresOfLowerings_9 : decode cX5_figuresOfLowerings 9 = .ok (.getfield 93, 3) := by decide +kernel
theorem dX5_figuresOfLowerings_12 : decode cX5_figuresOfLowerings 12 = .ok (.if_icmp .ge 21, 3) := by decide +kernel
theorem dX5_figuresOfLowerings_15 : decode cX5_figuresOfLowerings 15 = .ok (.bipush 10, 2) := by decide +kernel
theorem dX5_figuresOfLowerings_17 : decode cX5_figuresOfLowerings 17 = .ok (.iload_n 1, 1) := by decide +kernel
theorem dX5_figuresOfLowerings_18 : decode cX5_figuresOfLowerings 18 = .ok (.imul, 1) := by decide +kernel
theorem dX5_figuresOfLowerings_19 : decode cX5_figuresOfLowerings 19 = .ok (.aload_n 0, 1) := by decide +kernel
theorem dX5_figuresOfLowerings_20 : decode cX5_figuresOfLowerings 20 = .ok (.getfield 26, 3) := by decide +kernel
theorem dX5_figuresOfLowerings_23 : decode cX5_figuresOfLowerings 23 = .ok (.iload_n 2, 1) := by decide +kernel
theorem dX5_figuresOfLowerings_24 : decode cX5_figuresOfLowerings 24 = .ok (.iaload, 1) := by decide +kernel
theorem dX5_figuresOfLowerings_25 : decode cX5_figuresOfLowerings 25 = .ok (.iadd, 1) := by decide +kernel
theorem dX5_figuresOfLowerings_26 : decode cX5_figuresOfLowerings 26 = .ok (.istore_n 1, 1) := by decide +kernel
theorem dX5_figuresOfLowerings_27 : decode cX5_figuresOfLowerings 27 = .ok (.iinc 2 1, 3) := by decide +kernel
theorem dX5_figuresOfLowerings_30 : decode cX5_figuresOfLowerings 30 = .ok (.goto (-26), 3) := by decide +kernel
theorem dX5_figuresOfLowerings_33 : decode cX5_figuresOfLowerings 33 = .ok (.iload_n 1, 1) := by decide +kernel
theorem dX5_figuresOfLowerings_34 : decode cX5_figuresOfLowerings 34 = .ok (.ireturn, 1) := by decide +kernel
set_option maxRecDepth 20000 in
theorem ggX5_fillFewestLowerings_X5_isKeptFrom : GoodIn wsX5_fillFewestLowerings wsX5_isKeptFrom := goodIn_r _ [14, 15, 4, 1, 2, 5, 3, 16, 17, 18, 19, 20, 21, 22, 23, 24, 25, 26, 27, 28, 29, 30, 31, 32, 33, 34, 35, 36, 37, 38, 39, 40, 41, 42, 43, 44, 45, 46, 47, 48, 49, 50, 51, 7, 8, 9, 52, 53, 54, 55, 56, 57, 58, 59, 60, 61, 62, 63, 64, 65, 66, 67, 68, 69, 70, 71, 72, 73, 74, 75, 76, 77, 78, 79, 80, 81, 82, 83, 84, 85, 86, 87, 88, 89, 90, 91, 92, 93, 94, 95, 96, 97, 98, 99, 100, 101, 102, 103, 104, 105, 106, 107, 108, 109, 110, 111, 112, 113, 114, 115, 116, 117, 118, 119, 120, 121, 122, 123, 124, 125, 126, 127, 128, 129, 130] (by decide +kernel) (by decide +kernel)
set_option maxRecDepth 20000 in
theorem gX5_fillFewestLowerings_X5_isKeptFrom : GoodIn wsX5_fillFewestLowerings (wsV RX5 287 RX5 yX5_isKeptFrom wsX5_isKeptFrom) := goodIn_app (goodIn_of _ (by decide +kernel)) ggX5_fillFewestLowerings_X5_isKeptFrom
theorem dX5_fillFewestLowerings_0 : decode cX5_fillFewestLowerings 0 = .ok (.iconst 0, 1) := by decide +kernel
theorem dX5_fillFewestLowerings_1 : decode cX5_fillFewestLowerings 1 = .ok (.istore 4, 2) := by decide +kernel
theorem dX5_fillFewestLowerings_3 : decode cX5_fillFewestLowerings 3 = .ok (.iload 4, 2) := by decide +kernel
theorem dX5_fillFewestLowerings_5 : decode cX5_fillFewestLowerings 5 = .ok (.aload_n 0, 1) := by decide +kernel
theorem dX5_fillFewestLowerings_6 : decode cX5_fillFewestLowerings 6 = .ok (.getfield 38, 3) := by decide +kernel
theorem dX5_fillFewestLowerings_9 : decode cX5_fillFewestLowerings 9 = .ok (.getfield 93, 3) := by decide +kernel
theorem dX5_fillFewestLowerings_12 : decode cX5_fillFewestLowerings 12 = .ok (.if_icmp .ge 33, 3) := by decide +kernel
theorem dX5_fillFewestLowerings_15 : decode cX5_fillFewestLowerings 15 = .ok (.aload_n 0, 1) := by decide +kernel
theorem dX5_fillFewestLowerings_16 : decode cX5_fillFewestLowerings 16 = .ok (.getfield 26, 3) := by decide +kernel
theorem dX5_fillFewestLowerings_19 : decode cX5_fillFewestLowerings 19 = .ok (.iload 4, 2) := by decide +kernel
theorem dX5_fillFewestLowerings_21 : decode cX5_fillFewestLowerings 21 = .ok (.iconst 3, 1) := by decide +kernel
theorem dX5_fillFewestLowerings_22 : decode cX5_fillFewestLowerings 22 = .ok (.aload_n 0, 1) := by decide +kernel
theorem dX5_fillFewestLowerings_23 : decode cX5_fillFewestLowerings 23 = .ok (.getfield 52, 3) := by decide +kernel
theorem dX5_fillFewestLowerings_26 : decode cX5_fillFewestLowerings 26 = .ok (.getfield 109, 3) := by decide +kernel
theorem dX5_fillFewestLowerings_29 : decode cX5_fillFewestLowerings 29 = .ok (.iload 4, 2) := by decide +kernel
theorem dX5_fillFewestLowerings_31 : decode cX5_fillFewestLowerings 31 = .ok (.iaload, 1) := by decide +kernel
theorem dX5_fillFewestLowerings_32 : decode cX5_fillFewestLowerings 32 = .ok (.bipush (-3), 2) := by decide +kernel
theorem dX5_fillFewestLowerings_34 : decode cX5_fillFewestLowerings 34 = .ok (.isub, 1) := by decide +kernel
theorem dX5_fillFewestLowerings_35 : decode cX5_fillFewestLowerings 35 = .ok (.invokestatic 282, 3) := by decide +kernel
theorem dX5_fillFewestLowerings_38 : decode cX5_fillFewestLowerings 38 = .ok (.iastore, 1) := by decide +kernel
theorem dX5_fillFewestLowerings_39 : decode cX5_fillFewestLowerings 39 = .ok (.iinc 4 1, 3) := by decide +kernel
theorem dX5_fillFewestLowerings_42 : decode cX5_fillFewestLowerings 42 = .ok (.goto (-39), 3) := by decide +kernel
theorem dX5_fillFewestLowerings_45 : decode cX5_fillFewestLowerings 45 = .ok (.aload_n 0, 1) := by decide +kernel
theorem dX5_fillFewestLowerings_46 : decode cX5_fillFewestLowerings 46 = .ok (.iload_n 1, 1) := by decide +kernel
theorem dX5_fillFewestLowerings_47 : decode cX5_fillFewestLowerings 47 = .ok (.iload_n 2, 1) := by decide +kernel
theorem dX5_fillFewestLowerings_48 : decode cX5_fillFewestLowerings 48 = .ok (.iload_n 3, 1) := by decide +kernel
theorem dX5_fillFewestLowerings_49 : decode cX5_fillFewestLowerings 49 = .ok (.invokevirtual 287, 3) := by decide +kernel
theorem dX5_fillFewestLowerings_52 : decode cX5_fillFewestLowerings 52 = .ok (.ifCond .ne 5, 3) := by decide +kernel
theorem dX5_fillFewestLowerings_55 : decode cX5_fillFewestLowerings 55 = .ok (.iconst 0, 1) := by decide +kernel
theorem dX5_fillFewestLowerings_56 : decode cX5_fillFewestLowerings 56 = .ok (.ireturn, 1) := by decide +kernel
theorem dX5_fillFewestLowerings_57 : decode cX5_fillFewestLowerings 57 = .ok (.iconst 0, 1) := by decide +kernel
theorem dX5_fillFewestLowerings_58 : decode cX5_fillFewestLowerings 58 = .ok (.istore 4, 2) := by decide +kernel
theorem dX5_fillFewestLowerings_60 : decode cX5_fillFewestLowerings 60 = .ok (.iload 4, 2) := by decide +kernel
theorem dX5_fillFewestLowerings_62 : decode cX5_fillFewestLowerings 62 = .ok (.aload_n 0, 1) := by decide +kernel
theorem dX5_fillFewestLowerings_63 : decode cX5_fillFewestLowerings 63 = .ok (.getfield 38, 3) := by decide +kernel
theorem dX5_fillFewestLowerings_66 : decode cX5_fillFewestLowerings 66 = .ok (.getfield 93, 3) := by decide +kernel
theorem dX5_fillFewestLowerings_69 : decode cX5_fillFewestLowerings 69 = .ok (.if_icmp .ge 60, 3) := by decide +kernel
theorem dX5_fillFewestLowerings_72 : decode cX5_fillFewestLowerings 72 = .ok (.aload_n 0, 1) := by decide +kernel
theorem dX5_fillFewestLowerings_73 : decode cX5_fillFewestLowerings 73 = .ok (.getfield 26, 3) := by decide +kernel
theorem dX5_fillFewestLowerings_76 : decode cX5_fillFewestLowerings 76 = .ok (.iload 4, 2) := by decide +kernel
theorem dX5_fillFewestLowerings_78 : decode cX5_fillFewestLowerings 78 = .ok (.iaload, 1) := by decide +kernel
theorem dX5_fillFewestLowerings_79 : decode cX5_fillFewestLowerings 79 = .ok (.istore 5, 2) := by decide +kernel
theorem dX5_fillFewestLowerings_81 : decode cX5_fillFewestLowerings 81 = .ok (.iconst 0, 1) := by decide +kernel
theorem dX5_fillFewestLowerings_82 : decode cX5_fillFewestLowerings 82 = .ok (.istore 6, 2) := by decide +kernel
theorem dX5_fillFewestLowerings_84 : decode cX5_fillFewestLowerings 84 = .ok (.iconst 0, 1) := by decide +kernel
theorem dX5_fillFewestLowerings_85 : decode cX5_fillFewestLowerings 85 = .ok (.istore 7, 2) := by decide +kernel
theorem dX5_fillFewestLowerings_87 : decode cX5_fillFewestLowerings 87 = .ok (.iload 7, 2) := by decide +kernel
theorem dX5_fillFewestLowerings_89 : decode cX5_fillFewestLowerings 89 = .ok (.iload 5, 2) := by decide +kernel
theorem dX5_fillFewestLowerings_91 : decode cX5_fillFewestLowerings 91 = .ok (.if_icmp .gt 32, 3) := by decide +kernel
theorem dX5_fillFewestLowerings_94 : decode cX5_fillFewestLowerings 94 = .ok (.iload 6, 2) := by decide +kernel
theorem dX5_fillFewestLowerings_96 : decode cX5_fillFewestLowerings 96 = .ok (.ifCond .ne 27, 3) := by decide +kernel
theorem dX5_fillFewestLowerings_99 : decode cX5_fillFewestLowerings 99 = .ok (.aload_n 0, 1) := by decide +kernel
theorem dX5_fillFewestLowerings_100 : decode cX5_fillFewestLowerings 100 = .ok (.getfield 26, 3) := by decide +kernel
theorem dX5_fillFewestLowerings_103 : decode cX5_fillFewestLowerings 103 = .ok (.iload 4, 2) := by decide +kernel
theorem dX5_fillFewestLowerings_105 : decode cX5_fillFewestLowerings 105 = .ok (.iload 7, 2) := by decide +kernel
theorem dX5_fillFewestLowerings_107 : decode cX5_fillFewestLowerings 107 = .ok (.iastore, 1) := by decide +kernel
theorem dX5_fillFewestLowerings_108 : decode cX5_fillFewestLowerings 108 = .ok (.aload_n 0, 1) := by decide +kernel
theorem dX5_fillFewestLowerings_109 : decode cX5_fillFewestLowerings 109 = .ok (.iload_n 1, 1) := by decide +kernel
theorem dX5_fillFewestLowerings_110 : decode cX5_fillFewestLowerings 110 = .ok (.iload_n 2, 1) := by decide +kernel
theorem dX5_fillFewestLowerings_111 : decode cX5_fillFewestLowerings 111 = .ok (.iload_n 3, 1) := by decide +kernel
theorem dX5_fillFewestLowerings_112 : decode cX5_fillFewestLowerings 112 = .ok (.invokevirtual 287, 3) := by decide +kernel
theorem dX5_fillFewestLowerings_115 : decode cX5_fillFewestLowerings 115 = .ok (.istore 6, 2) := by decide +kernel
theorem dX5_fillFewestLowerings_117 : decode cX5_fillFewestLowerings 117 = .ok (.iinc 7 1, 3) := by decide +kernel
theorem dX5_fillFewestLowerings_120 : decode cX5_fillFewestLowerings 120 = .ok (.goto (-33), 3) := by decide +kernel
theorem dX5_fillFewestLowerings_123 : decode cX5_fillFewestLowerings 123 = .ok (.iinc 4 1, 3) := by decide +kernel
theorem dX5_fillFewestLowerings_126 : decode cX5_fillFewestLowerings 126 = .ok (.goto (-66), 3) := by decide +kernel
theorem dX5_fillFewestLowerings_129 : decode cX5_fillFewestLowerings 129 = .ok (.iconst 1, 1) := by decide +kernel
theorem dX5_fillFewestLowerings_130 : decode cX5_fillFewestLowerings 130 = .ok (.ireturn, 1) := by decide +kernel
set_option maxRecDepth 20000 in
theorem ggX5_isKeptFrom_X4_take : GoodIn wsX5_isKeptFrom wsX4_take := goodIn_r _ [11, 12, 13, 14, 15, 16, 17, 18, 19, 20, 119, 120, 121, 122, 123, 124] (by decide +kernel) (by decide +kernel)
set_option maxRecDepth 20000 in
theorem gX5_isKeptFrom_X4_take : GoodIn wsX5_isKeptFrom (wsV RX5 173 RX4 yX4_take wsX4_take) := goodIn_app (goodIn_of _ (by decide +kernel)) ggX5_isKeptFrom_X4_take
set_option maxRecDepth 20000 in
theorem ggX5_isKeptFrom_X4_passHours : GoodIn wsX5_isKeptFrom wsX4_passHours := goodIn_r _ [24, 25, 20, 26, 27, 28, 29, 30, 31, 32, 33, 34, 35, 36, 37, 38, 39, 10, 40, 41, 19, 42, 43, 44, 45, 46, 47, 48, 49, 50, 51, 52, 53, 54, 55, 56, 57, 58, 59, 60, 18, 61, 62, 63, 12, 64, 65, 66, 67, 68, 69, 70, 71, 72, 73, 74, 17, 75, 76, 77, 78, 79, 80, 81, 82, 83, 84, 85, 86, 87, 88, 89, 90, 119, 120, 121, 122, 123, 124, 110, 111, 112, 113, 114, 115, 116, 117, 118] (by decide +kernel) (by decide +kernel)
set_option maxRecDepth 20000 in
theorem gX5_isKeptFrom_X4_passHours : GoodIn wsX5_isKeptFrom (wsV RX5 175 RX4 yX4_passHours wsX4_passHours) := goodIn_app (goodIn_of _ (by decide +kernel)) ggX5_isKeptFrom_X4_passHours
set_option maxRecDepth 20000 in
theorem ggX5_isKeptFrom_X4_knowsThing : GoodIn wsX5_isKeptFrom wsX4_knowsThing := goodIn_r _ [94, 17, 119, 120, 121, 122, 123, 124] (by decide +kernel) (by decide +kernel)
set_option maxRecDepth 20000 in
theorem gX5_isKeptFrom_X4_knowsThing : GoodIn wsX5_isKeptFrom (wsV RX5 182 RX4 yX4_knowsThing wsX4_knowsThing) := goodIn_app (goodIn_of _ (by decide +kernel)) ggX5_isKeptFrom_X4_knowsThing
theorem dX5_isKeptFrom_0 : decode cX5_isKeptFrom 0 = .ok (.aload_n 0, 1) := by decide +kernel
theorem dX5_isKeptFrom_1 : decode cX5_isKeptFrom 1 = .ok (.getfield 56, 3) := by decide +kernel
theorem dX5_isKeptFrom_4 : decode cX5_isKeptFrom 4 = .ok (.aload_n 0, 1) := by decide +kernel
theorem dX5_isKeptFrom_5 : decode cX5_isKeptFrom 5 = .ok (.getfield 52, 3) := by decide +kernel
theorem dX5_isKeptFrom_8 : decode cX5_isKeptFrom 8 = .ok (.invokevirtual 173, 3) := by decide +kernel
theorem dX5_isKeptFrom_11 : decode cX5_isKeptFrom 11 = .ok (.iconst 0, 1) := by decide +kernel
theorem dX5_isKeptFrom_12 : decode cX5_isKeptFrom 12 = .ok (.istore 4, 2) := by decide +kernel
theorem dX5_isKeptFrom_14 : decode cX5_isKeptFrom 14 = .ok (.iload 4, 2) := by decide +kernel
theorem dX5_isKeptFrom_16 : decode cX5_isKeptFrom 16 = .ok (.aload_n 0, 1) := by decide +kernel
theorem dX5_isKeptFrom_17 : decode cX5_isKeptFrom 17 = .ok (.getfield 38, 3) := by decide +kernel
theorem dX5_isKeptFrom_20 : decode cX5_isKeptFrom 20 = .ok (.getfield 93, 3) := by decide +kernel
theorem dX5_isKeptFrom_23 : decode cX5_isKeptFrom 23 = .ok (.if_icmp .ge 29, 3) := by decide +kernel
theorem dX5_isKeptFrom_26 : decode cX5_isKeptFrom 26 = .ok (.aload_n 0, 1) := by decide +kernel
theorem dX5_isKeptFrom_27 : decode cX5_isKeptFrom 27 = .ok (.getfield 56, 3) := by decide +kernel
theorem dX5_isKeptFrom_30 : decode cX5_isKeptFrom 30 = .ok (.getfield 109, 3) := by decide +kernel
theorem dX5_isKeptFrom_33 : decode cX5_isKeptFrom 33 = .ok (.iload 4, 2) := by decide +kernel
theorem dX5_isKeptFrom_35 : decode cX5_isKeptFrom 35 = .ok (.dup2, 1) := by decide +kernel
theorem dX5_isKeptFrom_36 : decode cX5_isKeptFrom 36 = .ok (.iaload, 1) := by decide +kernel
theorem dX5_isKeptFrom_37 : decode cX5_isKeptFrom 37 = .ok (.aload_n 0, 1) := by decide +kernel
theorem dX5_isKeptFrom_38 : decode cX5_isKeptFrom 38 = .ok (.getfield 26, 3) := by decide +kernel
theorem dX5_isKeptFrom_41 : decode cX5_isKeptFrom 41 = .ok (.iload 4, 2) := by decide +kernel
theorem dX5_isKeptFrom_43 : decode cX5_isKeptFrom 43 = .ok (.iaload, 1) := by decide +kernel
theorem dX5_isKeptFrom_44 : decode cX5_isKeptFrom 44 = .ok (.isub, 1) := by decide +kernel
theorem dX5_isKeptFrom_45 : decode cX5_isKeptFrom 45 = .ok (.iastore, 1) := by decide +kernel
theorem dX5_isKeptFrom_46 : decode cX5_isKeptFrom 46 = .ok (.iinc 4 1, 3) := by decide +kernel
theorem dX5_isKeptFrom_49 : decode cX5_isKeptFrom 49 = .ok (.goto (-35), 3) := by decide +kernel
theorem dX5_isKeptFrom_52 : decode cX5_isKeptFrom 52 = .ok (.aload_n 0, 1) := by decide +kernel
theorem dX5_isKeptFrom_53 : decode cX5_isKeptFrom 53 = .ok (.getfield 56, 3) := by decide +kernel
theorem dX5_isKeptFrom_56 : decode cX5_isKeptFrom 56 = .ok (.iload_n 3, 1) := by decide +kernel
theorem dX5_isKeptFrom_57 : decode cX5_isKeptFrom 57 = .ok (.invokevirtual 175, 3) := by decide +kernel
theorem dX5_isKeptFrom_60 : decode cX5_isKeptFrom 60 = .ok (.aload_n 0, 1) := by decide +kernel
theorem dX5_isKeptFrom_61 : decode cX5_isKeptFrom 61 = .ok (.getfield 56, 3) := by decide +kernel
theorem dX5_isKeptFrom_64 : decode cX5_isKeptFrom 64 = .ok (.iload_n 1, 1) := by decide +kernel
theorem dX5_isKeptFrom_65 : decode cX5_isKeptFrom 65 = .ok (.iload_n 2, 1) := by decide +kernel
theorem dX5_isKeptFrom_66 : decode cX5_isKeptFrom 66 = .ok (.invokevirtual 182, 3) := by decide +kernel
theorem dX5_isKeptFrom_69 : decode cX5_isKeptFrom 69 = .ok (.ifCond .ne 7, 3) := by decide +kernel
theorem dX5_isKeptFrom_72 : decode cX5_isKeptFrom 72 = .ok (.iconst 1, 1) := by decide +kernel
theorem dX5_isKeptFrom_73 : decode cX5_isKeptFrom 73 = .ok (.goto 4, 3) := by decide +kernel
theorem dX5_isKeptFrom_76 : decode cX5_isKeptFrom 76 = .ok (.iconst 0, 1) := by decide +kernel
theorem dX5_isKeptFrom_77 : decode cX5_isKeptFrom 77 = .ok (.ireturn, 1) := by decide +kernel
theorem dX5_fillDoings_0 : decode cX5_fillDoings 0 = .ok (.lload_n 2, 1) := by decide +kernel
theorem dX5_fillDoings_1 : decode cX5_fillDoings 1 = .ok (.lstore 4, 2) := by decide +kernel
theorem dX5_fillDoings_3 : decode cX5_fillDoings 3 = .ok (.iconst 3, 1) := by decide +kernel
theorem dX5_fillDoings_4 : decode cX5_fillDoings 4 = .ok (.iload_n 1, 1) := by decide +kernel
theorem dX5_fillDoings_5 : decode cX5_fillDoings 5 = .ok (.imul, 1) := by decide +kernel
theorem dX5_fillDoings_6 : decode cX5_fillDoings 6 = .ok (.iconst 1, 1) := by decide +kernel
theorem dX5_fillDoings_7 : decode cX5_fillDoings 7 = .ok (.isub, 1) := by decide +kernel
theorem dX5_fillDoings_8 : decode cX5_fillDoings 8 = .ok (.istore 6, 2) := by decide +kernel
theorem dX5_fillDoings_10 : decode cX5_fillDoings 10 = .ok (.iload 6, 2) := by decide +kernel
theorem dX5_fillDoings_12 : decode cX5_fillDoings 12 = .ok (.ifCond .lt 31, 3) := by decide +kernel
theorem dX5_fillDoings_15 : decode cX5_fillDoings 15 = .ok (.aload_n 0, 1) := by decide +kernel
theorem dX5_fillDoings_16 : decode cX5_fillDoings 16 = .ok (.getfield 23, 3) := by decide +kernel
theorem dX5_fillDoings_19 : decode cX5_fillDoings 19 = .ok (.iload 6, 2) := by decide +kernel
theorem dX5_fillDoings_21 : decode cX5_fillDoings 21 = .ok (.lload 4, 2) := by decide +kernel
theorem dX5_fillDoings_23 : decode cX5_fillDoings 23 = .ok (.ldc2_w 290, 3) := by decide +kernel
theorem dX5_fillDoings_26 : decode cX5_fillDoings 26 = .ok (.lrem, 1) := by decide +kernel
theorem dX5_fillDoings_27 : decode cX5_fillDoings 27 = .ok (.l2i, 1) := by decide +kernel
theorem dX5_fillDoings_28 : decode cX5_fillDoings 28 = .ok (.iastore, 1) := by decide +kernel
theorem dX5_fillDoings_29 : decode cX5_fillDoings 29 = .ok (.lload 4, 2) := by decide +kernel
theorem dX5_fillDoings_31 : decode cX5_fillDoings 31 = .ok (.ldc2_w 290, 3) := by decide +kernel
theorem dX5_fillDoings_34 : decode cX5_fillDoings 34 = .ok (.ldiv, 1) := by decide +kernel
theorem dX5_fillDoings_35 : decode cX5_fillDoings 35 = .ok (.lstore 4, 2) := by decide +kernel
theorem dX5_fillDoings_37 : decode cX5_fillDoings 37 = .ok (.iinc 6 (-1), 3) := by decide +kernel
theorem dX5_fillDoings_40 : decode cX5_fillDoings 40 = .ok (.goto (-30), 3) := by decide +kernel
theorem dX5_fillDoings_43 : decode cX5_fillDoings 43 = .ok (.lload 4, 2) := by decide +kernel
theorem dX5_fillDoings_45 : decode cX5_fillDoings 45 = .ok (.lconst 0, 1) := by decide +kernel
theorem dX5_fillDoings_46 : decode cX5_fillDoings 46 = .ok (.lcmp, 1) := by decide +kernel
theorem dX5_fillDoings_47 : decode cX5_fillDoings 47 = .ok (.ifCond .ne 7, 3) := by decide +kernel
theorem dX5_fillDoings_50 : decode cX5_fillDoings 50 = .ok (.iconst 1, 1) := by decide +kernel
theorem dX5_fillDoings_51 : decode cX5_fillDoings 51 = .ok (.goto 4, 3) := by decide +kernel
theorem dX5_fillDoings_54 : decode cX5_fillDoings 54 = .ok (.iconst 0, 1) := by decide +kernel
theorem dX5_fillDoings_55 : decode cX5_fillDoings 55 = .ok (.ireturn, 1) := by decide +kernel
set_option maxRecDepth 20000 in
theorem ggX5_comesAbout_X4_passHour : GoodIn wsX5_comesAbout wsX4_passHour := goodIn_r _ [8, 9, 10, 11, 12, 13, 14, 15, 16, 17, 18, 19, 20, 21, 22, 23, 24, 7, 25, 26, 27, 28, 29, 30, 31, 32, 33, 34, 35, 36, 37, 38, 39, 40, 41, 42, 43, 44, 45, 46, 47, 48, 49, 50, 51, 52, 53, 54, 55, 56, 57, 58, 59, 60, 61, 62, 63, 64, 65, 66, 67, 68, 69, 70, 71, 72, 73, 74, 75, 76, 77, 78, 79, 136, 137, 138, 139, 140, 141, 142, 143, 144, 145, 146, 147, 148, 149, 150] (by decide +kernel) (by decide +kernel)
set_option maxRecDepth 20000 in
theorem gX5_comesAbout_X4_passHour : GoodIn wsX5_comesAbout (wsV RX5 142 RX4 yX4_passHour wsX4_passHour) := goodIn_app (goodIn_of _ (by decide +kernel)) ggX5_comesAbout_X4_passHour
set_option maxRecDepth 20000 in
theorem ggX5_comesAbout_X4_tryLowered : GoodIn wsX5_comesAbout wsX4_tryLowered := goodIn_r _ [83, 47, 84, 85, 86, 7, 87, 9, 88, 89, 90, 14, 91, 68, 136, 137, 138, 139, 140, 141, 142, 143, 144, 145, 146, 147, 148, 149, 150] (by decide +kernel) (by decide +kernel)
set_option maxRecDepth 20000 in
theorem gX5_comesAbout_X4_tryLowered : GoodIn wsX5_comesAbout (wsV RX5 148 RX4 yX4_tryLowered wsX4_tryLowered) := goodIn_app (goodIn_of _ (by decide +kernel)) ggX5_comesAbout_X4_tryLowered
set_option maxRecDepth 20000 in
theorem ggX5_comesAbout_X4_tryRaised : GoodIn wsX5_comesAbout wsX4_tryRaised := goodIn_r _ [95, 47, 96, 97, 98, 7, 99, 9, 88, 89, 90, 14, 91, 68, 136, 137, 138, 139, 140, 141, 142, 143, 144, 145, 146, 147, 148, 149, 150] (by decide +kernel) (by decide +kernel)
set_option maxRecDepth 20000 in
theorem gX5_comesAbout_X4_tryRaised : GoodIn wsX5_comesAbout (wsV RX5 154 RX4 yX4_tryRaised wsX4_tryRaised) := goodIn_app (goodIn_of _ (by decide +kernel)) ggX5_comesAbout_X4_tryRaised
set_option maxRecDepth 20000 in
theorem ggX5_comesAbout_X4_tryChanged : GoodIn wsX5_comesAbout wsX4_tryChanged := goodIn_r _ [103, 9, 51, 63, 88, 89, 90, 14, 91, 68, 136, 137, 138, 139, 140, 141, 142, 143, 144, 145, 146, 147, 148, 149, 150] (by decide +kernel) (by decide +kernel)
set_option maxRecDepth 20000 in
theorem gX5_comesAbout_X4_tryChanged : GoodIn wsX5_comesAbout (wsV RX5 157 RX4 yX4_tryChanged wsX4_tryChanged) := goodIn_app (goodIn_of _ (by decide +kernel)) ggX5_comesAbout_X4_tryChanged
set_option maxRecDepth 20000 in
theorem ggX5_comesAbout_X4_tryPlate : GoodIn wsX5_comesAbout wsX4_tryPlate := goodIn_r _ [107, 9, 63, 108, 109, 110, 14, 111, 68, 136, 137, 138, 139, 140, 141, 142, 143, 144, 145, 146, 147, 148, 149, 150] (by decide +kernel) (by decide +kernel)
set_option maxRecDepth 20000 in
theorem gX5_comesAbout_X4_tryPlate : GoodIn wsX5_comesAbout (wsV RX5 164 RX4 yX4_tryPlate wsX4_tryPlate) := goodIn_app (goodIn_of _ (by decide +kernel)) ggX5_comesAbout_X4_tryPlate
set_option maxRecDepth 20000 in
theorem ggX5_comesAbout_X2_hasHouse : GoodIn wsX5_comesAbout wsX2_hasHouse := goodIn_r _ [91, 68, 142, 143, 144, 145, 146, 147, 148, 149, 150] (by decide +kernel) (by decide +kernel)
set_option maxRecDepth 20000 in
theorem gX5_comesAbout_X2_hasHouse : GoodIn wsX5_comesAbout (wsV RX5 102 RX2 yX2_hasHouse wsX2_hasHouse) := goodIn_app (goodIn_of _ (by decide +kernel)) ggX5_comesAbout_X2_hasHouse
set_option maxRecDepth 20000 in
theorem ggX5_comesAbout_X5_isThing : GoodIn wsX5_comesAbout wsX5_isThing := goodIn_r _ [116] (by decide +kernel) (by decide +kernel)
set_option maxRecDepth 20000 in
theorem gX5_comesAbout_X5_isThing : GoodIn wsX5_comesAbout (va_wsS RX5 179 yX5_isThing wsX5_isThing) := goodIn_app (goodIn_of _ (by decide +kernel)) ggX5_comesAbout_X5_isThing
set_option maxRecDepth 20000 in
theorem ggX5_comesAbout_X4_knowsThing : GoodIn wsX5_comesAbout wsX4_knowsThing := goodIn_r _ [120, 63, 136, 137, 138, 139, 140, 141] (by decide +kernel) (by decide +kernel)
set_option maxRecDepth 20000 in
theorem gX5_comesAbout_X4_knowsThing : GoodIn wsX5_comesAbout (wsV RX5 182 RX4 yX4_knowsThing wsX4_knowsThing) := goodIn_app (goodIn_of _ (by decide +kernel)) ggX5_comesAbout_X4_knowsThing
theorem dX5_comesAbout_0 : decode cX5_comesAbout 0 = .ok (.iload_n 1, 1) := by decide +kernel
theorem dX5_comesAbout_1 : decode cX5_comesAbout 1 = .ok (.tableswitch 193 0 6 #[43, 63, 84, 105, 115, 136, 172], 43) := by decide +kernel
theorem dX5_comesAbout_44 : decode cX5_comesAbout 44 = .ok (.iload_n 2, 1) := by decide +kernel
theorem dX5_comesAbout_45 : decode cX5_comesAbout 45 = .ok (.ifCond .ne 7, 3) := by decide +kernel
theorem dX5_comesAbout_48 : decode cX5_comesAbout 48 = .ok (.iload_n 3, 1) := by decide +kernel
theorem dX5_comesAbout_49 : decode cX5_comesAbout 49 = .ok (.ifCond .eq 5, 3) := by decide +kernel
theorem dX5_comesAbout_52 : decode cX5_comesAbout 52 = .ok (.iconst 0, 1) := by decide +kernel
theorem dX5_comesAbout_53 : decode cX5_comesAbout 53 = .ok (.ireturn, 1) := by decide +kernel
theorem dX5_comesAbout_54 : decode cX5_comesAbout 54 = .ok (.aload_n 0, 1) := by decide +kernel
theorem dX5_comesAbout_55 : decode cX5_comesAbout 55 = .ok (.getfield 56, 3) := by decide +kernel
theorem dX5_comesAbout_58 : decode cX5_comesAbout 58 = .ok (.invokevirtual 142, 3) := by decide +kernel
theorem dX5_comesAbout_61 : decode cX5_comesAbout 61 = .ok (.pop, 1) := by decide +kernel
theorem dX5_comesAbout_62 : decode cX5_comesAbout 62 = .ok (.iconst 1, 1) := by decide +kernel
theorem dX5_comesAbout_63 : decode cX5_comesAbout 63 = .ok (.ireturn, 1) := by decide +kernel
theorem dX5_comesAbout_64 : decode cX5_comesAbout 64 = .ok (.iload_n 2, 1) := by decide +kernel
theorem dX5_comesAbout_65 : decode cX5_comesAbout 65 = .ok (.ifCond .ne 18, 3) := by decide +kernel
theorem dX5_comesAbout_68 : decode cX5_comesAbout 68 = .ok (.aload_n 0, 1) := by decide +kernel
theorem dX5_comesAbout_69 : decode cX5_comesAbout 69 = .ok (.getfield 56, 3) := by decide +kernel
theorem dX5_comesAbout_72 : decode cX5_comesAbout 72 = .ok (.iload_n 3, 1) := by decide +kernel
theorem dX5_comesAbout_73 : decode cX5_comesAbout 73 = .ok (.invokevirtual 148, 3) := by decide +kernel
theorem dX5_comesAbout_76 : decode cX5_comesAbout 76 = .ok (.ifCond .eq 7, 3) := by decide +kernel
theorem dX5_comesAbout_79 : decode cX5_comesAbout 79 = .ok (.iconst 1, 1) := by decide +kernel
theorem dX5_comesAbout_80 : decode cX5_comesAbout 80 = .ok (.goto 4, 3) := by decide +kernel
theorem dX5_comesAbout_83 : decode cX5_comesAbout 83 = .ok (.iconst 0, 1) := by decide +kernel
theorem dX5_comesAbout_84 : decode cX5_comesAbout 84 = .ok (.ireturn, 1) := by decide +kernel
theorem dX5_comesAbout_85 : decode cX5_comesAbout 85 = .ok (.iload_n 2, 1) := by decide +kernel
theorem dX5_comesAbout_86 : decode cX5_comesAbout 86 = .ok (.ifCond .ne 18, 3) := by decide +kernel
theorem dX5_comesAbout_89 : decode cX5_comesAbout 89 = .ok (.aload_n 0, 1) := by decide +kernel
theorem dX5_comesAbout_90 : decode cX5_comesAbout 90 = .ok (.getfield 56, 3) := by decide +kernel
theorem dX5_comesAbout_93 : decode cX5_comesAbout 93 = .ok (.iload_n 3, 1) := by decide +kernel
theorem dX5_comesAbout_94 : decode cX5_comesAbout 94 = .ok (.invokevirtual 154, 3) := by decide +kernel
theorem dX5_comesAbout_97 : decode cX5_comesAbout 97 = .ok (.ifCond .eq 7, 3) := by decide +kernel
theorem dX5_comesAbout_100 : decode cX5_comesAbout 100 = .ok (.iconst 1, 1) := by decide +kernel
theorem dX5_comesAbout_101 : decode cX5_comesAbout 101 = .ok (.goto 4, 3) := by decide +kernel
theorem dX5_comesAbout_104 : decode cX5_comesAbout 104 = .ok (.iconst 0, 1) := by decide +kernel
theorem dX5_comesAbout_105 : decode cX5_comesAbout 105 = .ok (.ireturn, 1) := by decide +kernel
theorem dX5_comesAbout_106 : decode cX5_comesAbout 106 = .ok (.aload_n 0, 1) := by decide +kernel
theorem dX5_comesAbout_107 : decode cX5_comesAbout 107 = .ok (.getfield 56, 3) := by decide +kernel
theorem dX5_comesAbout_110 : decode cX5_comesAbout 110 = .ok (.iload_n 2, 1) := by decide +kernel
theorem dX5_comesAbout_111 : decode cX5_comesAbout 111 = .ok (.iload_n 3, 1) := by decide +kernel
theorem dX5_comesAbout_112 : decode cX5_comesAbout 112 = .ok (.invokevirtual 157, 3) := by decide +kernel
theorem dX5_comesAbout_115 : decode cX5_comesAbout 115 = .ok (.ireturn, 1) := by decide +kernel
theorem dX5_comesAbout_116 : decode cX5_comesAbout 116 = .ok (.iload_n 2, 1) := by decide +kernel
theorem dX5_comesAbout_117 : decode cX5_comesAbout 117 = .ok (.ifCond .ne 18, 3) := by decide +kernel
theorem dX5_comesAbout_120 : decode cX5_comesAbout 120 = .ok (.aload_n 0, 1) := by decide +kernel
theorem dX5_comesAbout_121 : decode cX5_comesAbout 121 = .ok (.getfield 56, 3) := by decide +kernel
theorem dX5_comesAbout_124 : decode cX5_comesAbout 124 = .ok (.iload_n 3, 1) := by decide +kernel
theorem dX5_comesAbout_125 : decode cX5_comesAbout 125 = .ok (.invokevirtual 164, 3) := by decide +kernel
theorem dX5_comesAbout_128 : decode cX5_comesAbout 128 = .ok (.ifCond .eq 7, 3) := by decide +kernel
theorem dX5_comesAbout_131 : decode cX5_comesAbout 131 = .ok (.iconst 1, 1) := by decide +kernel
theorem dX5_comesAbout_132 : decode cX5_comesAbout 132 = .ok (.goto 4, 3) := by decide +kernel
theorem dX5_comesAbout_135 : decode cX5_comesAbout 135 = .ok (.iconst 0, 1) := by decide +kernel
theorem dX5_comesAbout_136 : decode cX5_comesAbout 136 = .ok (.ireturn, 1) := by decide +kernel
theorem dX5_comesAbout_137 : decode cX5_comesAbout 137 = .ok (.aload_n 0, 1) := by decide +kernel
theorem dX5_comesAbout_138 : decode cX5_comesAbout 138 = .ok (.getfield 38, 3) := by decide +kernel
theorem dX5_comesAbout_141 : decode cX5_comesAbout 141 = .ok (.iload_n 2, 1) := by decide +kernel
theorem dX5_comesAbout_142 : decode cX5_comesAbout 142 = .ok (.invokevirtual 102, 3) := by decide +kernel
theorem dX5_comesAbout_145 : decode cX5_comesAbout 145 = .ok (.ifCond .eq 26, 3) := by decide +kernel
theorem dX5_comesAbout_148 : decode cX5_comesAbout 148 = .ok (.iload_n 3, 1) := by decide +kernel
theorem dX5_comesAbout_149 : decode cX5_comesAbout 149 = .ok (.invokestatic 179, 3) := by decide +kernel
theorem dX5_comesAbout_152 : decode cX5_comesAbout 152 = .ok (.ifCond .eq 19, 3) := by decide +kernel
theorem dX5_comesAbout_155 : decode cX5_comesAbout 155 = .ok (.aload_n 0, 1) := by decide +kernel
theorem dX5_comesAbout_156 : decode cX5_comesAbout 156 = .ok (.getfield 56, 3) := by decide +kernel
theorem dX5_comesAbout_159 : decode cX5_comesAbout 159 = .ok (.iload_n 2, 1) := by decide +kernel
theorem dX5_comesAbout_160 : decode cX5_comesAbout 160 = .ok (.iload_n 3, 1) := by decide +kernel
theorem dX5_comesAbout_161 : decode cX5_comesAbout 161 = .ok (.invokevirtual 182, 3) := by decide +kernel
theorem dX5_comesAbout_164 : decode cX5_comesAbout 164 = .ok (.ifCond .eq 7, 3) := by decide +kernel
theorem dX5_comesAbout_167 : decode cX5_comesAbout 167 = .ok (.iconst 1, 1) := by decide +kernel
theorem dX5_comesAbout_168 : decode cX5_comesAbout 168 = .ok (.goto 4, 3) := by decide +kernel
theorem dX5_comesAbout_171 : decode cX5_comesAbout 171 = .ok (.iconst 0, 1) := by decide +kernel
theorem dX5_comesAbout_172 : decode cX5_comesAbout 172 = .ok (.ireturn, 1) := by decide +kernel
theorem dX5_comesAbout_173 : decode cX5_comesAbout 173 = .ok (.iload_n 2, 1) := by decide +kernel
theorem dX5_comesAbout_174 : decode cX5_comesAbout 174 = .ok (.ifCond .ne 18, 3) := by decide +kernel
theorem dX5_comesAbout_177 : decode cX5_comesAbout 177 = .ok (.aload_n 0, 1) := by decide +kernel
theorem dX5_comesAbout_178 : decode cX5_comesAbout 178 = .ok (.getfield 56, 3) := by decide +kernel
theorem dX5_comesAbout_181 : decode cX5_comesAbout 181 = .ok (.getfield 271, 3) := by decide +kernel
theorem dX5_comesAbout_184 : decode cX5_comesAbout 184 = .ok (.iload_n 3, 1) := by decide +kernel
theorem dX5_comesAbout_185 : decode cX5_comesAbout 185 = .ok (.if_icmp .lt 7, 3) := by decide +kernel
theorem dX5_comesAbout_188 : decode cX5_comesAbout 188 = .ok (.iconst 1, 1) := by decide +kernel
theorem dX5_comesAbout_189 : decode cX5_comesAbout 189 = .ok (.goto 4, 3) := by decide +kernel
theorem dX5_comesAbout_192 : decode cX5_comesAbout 192 = .ok (.iconst 0, 1) := by decide +kernel
theorem dX5_comesAbout_193 : decode cX5_comesAbout 193 = .ok (.ireturn, 1) := by decide +kernel
theorem dX5_comesAbout_194 : decode cX5_comesAbout 194 = .ok (.iconst 0, 1) := by decide +kernel
theorem dX5_comesAbout_195 : decode cX5_comesAbout 195 = .ok (.ireturn, 1) := by decide +kernel
set_option maxRecDepth 20000 in
theorem ggX5_fillChoices_X4_take : GoodIn wsX5_fillChoices wsX4_take := goodIn_r _ [10, 11, 12, 13, 14, 15, 16, 17, 18, 19, 118, 119, 120, 121, 122, 123] (by decide +kernel) (by decide +kernel)
set_option maxRecDepth 20000 in
theorem gX5_fillChoices_X4_take : GoodIn wsX5_fillChoices (wsV RX5 173 RX4 yX4_take wsX4_take) := goodIn_app (goodIn_of _ (by decide +kernel)) ggX5_fillChoices_X4_take
set_option maxRecDepth 20000 in
theorem ggX5_fillChoices_X4_tryLowered : GoodIn wsX5_fillChoices wsX4_tryLowered := goodIn_r _ [23, 17, 24, 25, 26, 9, 27, 28, 29, 30, 31, 32, 33, 34, 118, 119, 120, 121, 122, 123, 124, 125, 126, 127, 128, 129, 130, 131, 132] (by decide +kernel) (by decide +kernel)
set_option maxRecDepth 20000 in
theorem gX5_fillChoices_X4_tryLowered : GoodIn wsX5_fillChoices (wsV RX5 148 RX4 yX4_tryLowered wsX4_tryLowered) := goodIn_app (goodIn_of _ (by decide +kernel)) ggX5_fillChoices_X4_tryLowered
set_option maxRecDepth 20000 in
theorem ggX5_fillChoices_X4_passHours : GoodIn wsX5_fillChoices wsX4_passHours := goodIn_r _ [38, 28, 19, 39, 40, 41, 32, 42, 43, 44, 45, 46, 47, 48, 49, 50, 51, 9, 52, 53, 18, 54, 55, 56, 57, 58, 59, 60, 61, 62, 63, 64, 65, 66, 67, 68, 69, 70, 71, 72, 17, 73, 74, 75, 11, 76, 77, 78, 79, 80, 81, 82, 83, 84, 85, 86, 16, 87, 88, 89, 90, 34, 91, 92, 93, 94, 95, 96, 97, 98, 99, 100, 101, 118, 119, 120, 121, 122, 123, 124, 125, 126, 127, 128, 129, 130, 131, 132] (by decide +kernel) (by decide +kernel)
set_option maxRecDepth 20000 in
theorem gX5_fillChoices_X4_passHours : GoodIn wsX5_fillChoices (wsV RX5 175 RX4 yX4_passHours wsX4_passHours) := goodIn_app (goodIn_of _ (by decide +kernel)) ggX5_fillChoices_X4_passHours
set_option maxRecDepth 20000 in
theorem ggX5_fillChoices_J6_bitCount_0f7a4 : GoodIn wsX5_fillChoices wsJ6_bitCount_0f7a4 := goodIn_r _ [98, 99, 100, 101] (by decide +kernel) (by decide +kernel)
set_option maxRecDepth 20000 in
theorem gX5_fillChoices_J6_bitCount_0f7a4 : GoodIn wsX5_fillChoices (va_wsS RX5 201 yJ6_bitCount_0f7a4 wsJ6_bitCount_0f7a4) := goodIn_app (goodIn_of _ (by decide +kernel)) ggX5_fillChoices_J6_bitCount_0f7a4
theorem dX5_fillChoices_0 : decode cX5_fillChoices 0 = .ok (.iconst 0, 1) := by decide +kernel
theorem dX5_fillChoices_1 : decode cX5_fillChoices 1 = .ok (.istore_n 3, 1) := by decide +kernel
theorem dX5_fillChoices_2 : decode cX5_fillChoices 2 = .ok (.iload_n 3, 1) := by decide +kernel
theorem dX5_fillChoices_3 : decode cX5_fillChoices 3 = .ok (.iconst 4, 1) := by decide +kernel
theorem dX5_fillChoices_4 : decode cX5_fillChoices 4 = .ok (.if_icmp .ge 116, 3) := by decide +kernel
theorem dX5_fillChoices_7 : decode cX5_fillChoices 7 = .ok (.iload_n 3, 1) := by decide +kernel
theorem dX5_fillChoices_8 : decode cX5_fillChoices 8 = .ok (.iconst 1, 1) := by decide +kernel
theorem dX5_fillChoices_9 : decode cX5_fillChoices 9 = .ok (.ishr, 1) := by decide +kernel
theorem dX5_fillChoices_10 : decode cX5_fillChoices 10 = .ok (.istore 4, 2) := by decide +kernel
theorem dX5_fillChoices_12 : decode cX5_fillChoices 12 = .ok (.iload_n 3, 1) := by decide +kernel
theorem dX5_fillChoices_13 : decode cX5_fillChoices 13 = .ok (.iconst 1, 1) := by decide +kernel
theorem dX5_fillChoices_14 : decode cX5_fillChoices 14 = .ok (.iand, 1) := by decide +kernel
theorem dX5_fillChoices_15 : decode cX5_fillChoices 15 = .ok (.istore 5, 2) := by decide +kernel
theorem dX5_fillChoices_17 : decode cX5_fillChoices 17 = .ok (.aload_n 0, 1) := by decide +kernel
theorem dX5_fillChoices_18 : decode cX5_fillChoices 18 = .ok (.getfield 56, 3) := by decide +kernel
theorem dX5_fillChoices_21 : decode cX5_fillChoices 21 = .ok (.aload_n 0, 1) := by decide +kernel
theorem dX5_fillChoices_22 : decode cX5_fillChoices 22 = .ok (.getfield 52, 3) := by decide +kernel
theorem dX5_fillChoices_25 : decode cX5_fillChoices 25 = .ok (.invokevirtual 173, 3) := by decide +kernel
theorem dX5_fillChoices_28 : decode cX5_fillChoices 28 = .ok (.iload 4, 2) := by decide +kernel
theorem dX5_fillChoices_30 : decode cX5_fillChoices 30 = .ok (.iconst 1, 1) := by decide +kernel
theorem dX5_fillChoices_31 : decode cX5_fillChoices 31 = .ok (.if_icmp .ne 12, 3) := by decide +kernel
theorem dX5_fillChoices_34 : decode cX5_fillChoices 34 = .ok (.aload_n 0, 1) := by decide +kernel
theorem dX5_fillChoices_35 : decode cX5_fillChoices 35 = .ok (.getfield 56, 3) := by decide +kernel
theorem dX5_fillChoices_38 : decode cX5_fillChoices 38 = .ok (.iload_n 1, 1) := by decide +kernel
theorem dX5_fillChoices_39 : decode cX5_fillChoices 39 = .ok (.invokevirtual 148, 3) := by decide +kernel
theorem dX5_fillChoices_42 : decode cX5_fillChoices 42 = .ok (.pop, 1) := by decide +kernel
theorem dX5_fillChoices_43 : decode cX5_fillChoices 43 = .ok (.iload 5, 2) := by decide +kernel
theorem dX5_fillChoices_45 : decode cX5_fillChoices 45 = .ok (.iconst 1, 1) := by decide +kernel
theorem dX5_fillChoices_46 : decode cX5_fillChoices 46 = .ok (.if_icmp .ne 12, 3) := by decide +kernel
theorem dX5_fillChoices_49 : decode cX5_fillChoices 49 = .ok (.aload_n 0, 1) := by decide +kernel
theorem dX5_fillChoices_50 : decode cX5_fillChoices 50 = .ok (.getfield 56, 3) := by decide +kernel
theorem dX5_fillChoices_53 : decode cX5_fillChoices 53 = .ok (.iload_n 2, 1) := by decide +kernel
theorem dX5_fillChoices_54 : decode cX5_fillChoices 54 = .ok (.invokevirtual 148, 3) := by decide +kernel
theorem dX5_fillChoices_57 : decode cX5_fillChoices 57 = .ok (.pop, 1) := by decide +kernel
theorem dX5_fillChoices_58 : decode cX5_fillChoices 58 = .ok (.aload_n 0, 1) := by decide +kernel
theorem dX5_fillChoices_59 : decode cX5_fillChoices 59 = .ok (.getfield 56, 3) := by decide +kernel
theorem dX5_fillChoices_62 : decode cX5_fillChoices 62 = .ok (.iconst 4, 1) := by decide +kernel
theorem dX5_fillChoices_63 : decode cX5_fillChoices 63 = .ok (.invokevirtual 175, 3) := by decide +kernel
theorem dX5_fillChoices_66 : decode cX5_fillChoices 66 = .ok (.aload_n 0, 1) := by decide +kernel
theorem dX5_fillChoices_67 : decode cX5_fillChoices 67 = .ok (.getfield 29, 3) := by decide +kernel
theorem dX5_fillChoices_70 : decode cX5_fillChoices 70 = .ok (.iload_n 3, 1) := by decide +kernel
theorem dX5_fillChoices_71 : decode cX5_fillChoices 71 = .ok (.bipush 6, 2) := by decide +kernel
theorem dX5_fillChoices_73 : decode cX5_fillChoices 73 = .ok (.aload_n 0, 1) := by decide +kernel
theorem dX5_fillChoices_74 : decode cX5_fillChoices 74 = .ok (.getfield 56, 3) := by decide +kernel
theorem dX5_fillChoices_77 : decode cX5_fillChoices 77 = .ok (.getfield 116, 3) := by decide +kernel
theorem dX5_fillChoices_80 : decode cX5_fillChoices 80 = .ok (.iload_n 1, 1) := by decide +kernel
theorem dX5_fillChoices_81 : decode cX5_fillChoices 81 = .ok (.iaload, 1) := by decide +kernel
theorem dX5_fillChoices_82 : decode cX5_fillChoices 82 = .ok (.invokestatic 201, 3) := by decide +kernel
theorem dX5_fillChoices_85 : decode cX5_fillChoices 85 = .ok (.isub, 1) := by decide +kernel
theorem dX5_fillChoices_86 : decode cX5_fillChoices 86 = .ok (.iload 4, 2) := by decide +kernel
theorem dX5_fillChoices_88 : decode cX5_fillChoices 88 = .ok (.isub, 1) := by decide +kernel
theorem dX5_fillChoices_89 : decode cX5_fillChoices 89 = .ok (.iastore, 1) := by decide +kernel
theorem dX5_fillChoices_90 : decode cX5_fillChoices 90 = .ok (.aload_n 0, 1) := by decide +kernel
theorem dX5_fillChoices_91 : decode cX5_fillChoices 91 = .ok (.getfield 32, 3) := by decide +kernel
theorem dX5_fillChoices_94 : decode cX5_fillChoices 94 = .ok (.iload_n 3, 1) := by decide +kernel
theorem dX5_fillChoices_95 : decode cX5_fillChoices 95 = .ok (.bipush 6, 2) := by decide +kernel
theorem dX5_fillChoices_97 : decode cX5_fillChoices 97 = .ok (.aload_n 0, 1) := by decide +kernel
theorem dX5_fillChoices_98 : decode cX5_fillChoices 98 = .ok (.getfield 56, 3) := by decide +kernel
theorem dX5_fillChoices_101 : decode cX5_fillChoices 101 = .ok (.getfield 116, 3) := by decide +kernel
theorem dX5_fillChoices_104 : decode cX5_fillChoices 104 = .ok (.iload_n 2, 1) := by decide +kernel
theorem dX5_fillChoices_105 : decode cX5_fillChoices 105 = .ok (.iaload, 1) := by decide +kernel
theorem dX5_fillChoices_106 : decode cX5_fillChoices 106 = .ok (.invokestatic 201, 3) := by decide +kernel
theorem dX5_fillChoices_109 : decode cX5_fillChoices 109 = .ok (.isub, 1) := by decide +kernel
theorem dX5_fillChoices_110 : decode cX5_fillChoices 110 = .ok (.iload 5, 2) := by decide +kernel
theorem dX5_fillChoices_112 : decode cX5_fillChoices 112 = .ok (.isub, 1) := by decide +kernel
theorem dX5_fillChoices_113 : decode cX5_fillChoices 113 = .ok (.iastore, 1) := by decide +kernel
theorem dX5_fillChoices_114 : decode cX5_fillChoices 114 = .ok (.iinc 3 1, 3) := by decide +kernel
theorem dX5_fillChoices_117 : decode cX5_fillChoices 117 = .ok (.goto (-115), 3) := by decide +kernel
theorem dX5_fillChoices_120 : decode cX5_fillChoices 120 = .ok (.return_, 1) := by decide +kernel
theorem dX5_weightOf_0 : decode cX5_weightOf 0 = .ok (.iconst 1, 1) := by decide +kernel
theorem dX5_weightOf_1 : decode cX5_weightOf 1 = .ok (.istore_n 3, 1) := by decide +kernel
theorem dX5_weightOf_2 : decode cX5_weightOf 2 = .ok (.iconst 0, 1) := by decide +kernel
theorem dX5_weightOf_3 : decode cX5_weightOf 3 = .ok (.istore 4, 2) := by decide +kernel
theorem dX5_weightOf_5 : decode cX5_weightOf 5 = .ok (.iload 4, 2) := by decide +kernel
theorem dX5_weightOf_7 : decode cX5_weightOf 7 = .ok (.iload_n 1, 1) := by decide +kernel
theorem dX5_weightOf_8 : decode cX5_weightOf 8 = .ok (.if_icmp .ge 30, 3) := by decide +kernel
theorem dX5_weightOf_11 : decode cX5_weightOf 11 = .ok (.iload_n 3, 1) := by decide +kernel
theorem dX5_weightOf_12 : decode cX5_weightOf 12 = .ok (.iload_n 0, 1) := by decide +kernel
theorem dX5_weightOf_13 : decode cX5_weightOf 13 = .ok (.iload 4, 2) := by decide +kernel
theorem dX5_weightOf_15 : decode cX5_weightOf 15 = .ok (.ishr, 1) := by decide +kernel
theorem dX5_weightOf_16 : decode cX5_weightOf 16 = .ok (.iconst 1, 1) := by decide +kernel
theorem dX5_weightOf_17 : decode cX5_weightOf 17 = .ok (.iand, 1) := by decide +kernel
theorem dX5_weightOf_18 : decode cX5_weightOf 18 = .ok (.iconst 1, 1) := by decide +kernel
theorem dX5_weightOf_19 : decode cX5_weightOf 19 = .ok (.if_icmp .ne 7, 3) := by decide +kernel
theorem dX5_weightOf_22 : decode cX5_weightOf 22 = .ok (.iload_n 2, 1) := by decide +kernel
theorem dX5_weightOf_23 : decode cX5_weightOf 23 = .ok (.goto 7, 3) := by decide +kernel
theorem dX5_weightOf_26 : decode cX5_weightOf 26 = .ok (.bipush 10, 2) := by decide +kernel
theorem dX5_weightOf_28 : decode cX5_weightOf 28 = .ok (.iload_n 2, 1) := by decide +kernel
theorem dX5_weightOf_29 : decode cX5_weightOf 29 = .ok (.isub, 1) := by decide +kernel
theorem dX5_weightOf_30 : decode cX5_weightOf 30 = .ok (.imul, 1) := by decide +kernel
theorem dX5_weightOf_31 : decode cX5_weightOf 31 = .ok (.istore_n 3, 1) := by decide +kernel
theorem dX5_weightOf_32 : decode cX5_weightOf 32 = .ok (.iinc 4 1, 3) := by decide +kernel
theorem dX5_weightOf_35 : decode cX5_weightOf 35 = .ok (.goto (-30), 3) := by decide +kernel
theorem dX5_weightOf_38 : decode cX5_weightOf 38 = .ok (.iload_n 3, 1) := by decide +kernel
theorem dX5_weightOf_39 : decode cX5_weightOf 39 = .ok (.ireturn, 1) := by decide +kernel
set_option maxRecDepth 20000 in
theorem ggX5_knowsBehind_X4_take : GoodIn wsX5_knowsBehind wsX4_take := goodIn_r _ [9, 10, 11, 12, 13, 14, 15, 16, 17, 18, 104, 105, 106, 107, 108, 109] (by decide +kernel) (by decide +kernel)
set_option maxRecDepth 20000 in
theorem gX5_knowsBehind_X4_take : GoodIn wsX5_knowsBehind (wsV RX5 173 RX4 yX4_take wsX4_take) := goodIn_app (goodIn_of _ (by decide +kernel)) ggX5_knowsBehind_X4_take
set_option maxRecDepth 20000 in
theorem ggX5_knowsBehind_X2_rainAt : GoodIn wsX5_knowsBehind wsX2_rainAt := goodIn_r _ [23, 24, 25, 26, 27, 28, 29, 110, 111, 112, 113, 114, 115, 116, 117, 118] (by decide +kernel) (by decide +kernel)
set_option maxRecDepth 20000 in
theorem gX5_knowsBehind_X2_rainAt : GoodIn wsX5_knowsBehind (wsV RX5 268 RX2 yX2_rainAt wsX2_rainAt) := goodIn_app (goodIn_of _ (by decide +kernel)) ggX5_knowsBehind_X2_rainAt
set_option maxRecDepth 20000 in
theorem ggX5_knowsBehind_X4_passHourBy : GoodIn wsX5_knowsBehind wsX4_passHourBy := goodIn_r _ [33, 34, 18, 35, 17, 36, 37, 38, 39, 40, 41, 42, 22, 43, 44, 26, 27, 28, 29, 45, 46, 47, 48, 49, 50, 51, 8, 52, 53, 54, 16, 55, 56, 57, 10, 58, 59, 60, 61, 62, 63, 64, 65, 66, 67, 68, 15, 69, 70, 71, 72, 73, 74, 75, 76, 77, 78, 79, 80, 81, 82, 83, 84, 104, 105, 106, 107, 108, 109, 110, 111, 112, 113, 114, 115, 116, 117, 118] (by decide +kernel) (by decide +kernel)
set_option maxRecDepth 20000 in
theorem gX5_knowsBehind_X4_passHourBy : GoodIn wsX5_knowsBehind (wsV RX5 292 RX4 yX4_passHourBy wsX4_passHourBy) := goodIn_app (goodIn_of _ (by decide +kernel)) ggX5_knowsBehind_X4_passHourBy
set_option maxRecDepth 20000 in
theorem ggX5_knowsBehind_X4_knowsThing : GoodIn wsX5_knowsBehind wsX4_knowsThing := goodIn_r _ [88, 15, 104, 105, 106, 107, 108, 109] (by decide +kernel) (by decide +kernel)
set_option maxRecDepth 20000 in
theorem gX5_knowsBehind_X4_knowsThing : GoodIn wsX5_knowsBehind (wsV RX5 182 RX4 yX4_knowsThing wsX4_knowsThing) := goodIn_app (goodIn_of _ (by decide +kernel)) ggX5_knowsBehind_X4_knowsThing
theorem dX5_knowsBehind_0 : decode cX5_knowsBehind 0 = .ok (.aload_n 0, 1) := by decide +kernel
theorem dX5_knowsBehind_1 : decode cX5_knowsBehind 1 = .ok (.getfield 56, 3) := by decide +kernel
theorem dX5_knowsBehind_4 : decode cX5_knowsBehind 4 = .ok (.aload_n 0, 1) := by decide +kernel
theorem dX5_knowsBehind_5 : decode cX5_knowsBehind 5 = .ok (.getfield 52, 3) := by decide +kernel
theorem dX5_knowsBehind_8 : decode cX5_knowsBehind 8 = .ok (.invokevirtual 173, 3) := by decide +kernel
theorem dX5_knowsBehind_11 : decode cX5_knowsBehind 11 = .ok (.iconst 0, 1) := by decide +kernel
theorem dX5_knowsBehind_12 : decode cX5_knowsBehind 12 = .ok (.istore 5, 2) := by decide +kernel
theorem dX5_knowsBehind_14 : decode cX5_knowsBehind 14 = .ok (.iload 5, 2) := by decide +kernel
theorem dX5_knowsBehind_16 : decode cX5_knowsBehind 16 = .ok (.iload_n 2, 1) := by decide +kernel
theorem dX5_knowsBehind_17 : decode cX5_knowsBehind 17 = .ok (.if_icmp .ge 57, 3) := by decide +kernel
theorem dX5_knowsBehind_20 : decode cX5_knowsBehind 20 = .ok (.iload_n 1, 1) := by decide +kernel
theorem dX5_knowsBehind_21 : decode cX5_knowsBehind 21 = .ok (.iload 5, 2) := by decide +kernel
theorem dX5_knowsBehind_23 : decode cX5_knowsBehind 23 = .ok (.ishr, 1) := by decide +kernel
theorem dX5_knowsBehind_24 : decode cX5_knowsBehind 24 = .ok (.iconst 1, 1) := by decide +kernel
theorem dX5_knowsBehind_25 : decode cX5_knowsBehind 25 = .ok (.iand, 1) := by decide +kernel
theorem dX5_knowsBehind_26 : decode cX5_knowsBehind 26 = .ok (.iconst 1, 1) := by decide +kernel
theorem dX5_knowsBehind_27 : decode cX5_knowsBehind 27 = .ok (.if_icmp .ne 7, 3) := by decide +kernel
theorem dX5_knowsBehind_30 : decode cX5_knowsBehind 30 = .ok (.iconst 1, 1) := by decide +kernel
theorem dX5_knowsBehind_31 : decode cX5_knowsBehind 31 = .ok (.goto 4, 3) := by decide +kernel
theorem dX5_knowsBehind_34 : decode cX5_knowsBehind 34 = .ok (.iconst 0, 1) := by decide +kernel
theorem dX5_knowsBehind_35 : decode cX5_knowsBehind 35 = .ok (.istore 6, 2) := by decide +kernel
theorem dX5_knowsBehind_37 : decode cX5_knowsBehind 37 = .ok (.aload_n 0, 1) := by decide +kernel
theorem dX5_knowsBehind_38 : decode cX5_knowsBehind 38 = .ok (.getfield 56, 3) := by decide +kernel
theorem dX5_knowsBehind_41 : decode cX5_knowsBehind 41 = .ok (.iload 6, 2) := by decide +kernel
theorem dX5_knowsBehind_43 : decode cX5_knowsBehind 43 = .ok (.ifCond .eq 7, 3) := by decide +kernel
theorem dX5_knowsBehind_46 : decode cX5_knowsBehind 46 = .ok (.iconst 0, 1) := by decide +kernel
theorem dX5_knowsBehind_47 : decode cX5_knowsBehind 47 = .ok (.goto 17, 3) := by decide +kernel
theorem dX5_knowsBehind_50 : decode cX5_knowsBehind 50 = .ok (.aload_n 0, 1) := by decide +kernel
theorem dX5_knowsBehind_51 : decode cX5_knowsBehind 51 = .ok (.getfield 38, 3) := by decide +kernel
theorem dX5_knowsBehind_54 : decode cX5_knowsBehind 54 = .ok (.aload_n 0, 1) := by decide +kernel
theorem dX5_knowsBehind_55 : decode cX5_knowsBehind 55 = .ok (.getfield 56, 3) := by decide +kernel
theorem dX5_knowsBehind_58 : decode cX5_knowsBehind 58 = .ok (.getfield 265, 3) := by decide +kernel
theorem dX5_knowsBehind_61 : decode cX5_knowsBehind 61 = .ok (.invokevirtual 268, 3) := by decide +kernel
theorem dX5_knowsBehind_64 : decode cX5_knowsBehind 64 = .ok (.invokevirtual 292, 3) := by decide +kernel
theorem dX5_knowsBehind_67 : decode cX5_knowsBehind 67 = .ok (.pop, 1) := by decide +kernel
theorem dX5_knowsBehind_68 : decode cX5_knowsBehind 68 = .ok (.iinc 5 1, 3) := by decide +kernel
theorem dX5_knowsBehind_71 : decode cX5_knowsBehind 71 = .ok (.goto (-57), 3) := by decide +kernel
theorem dX5_knowsBehind_74 : decode cX5_knowsBehind 74 = .ok (.aload_n 0, 1) := by decide +kernel
theorem dX5_knowsBehind_75 : decode cX5_knowsBehind 75 = .ok (.getfield 56, 3) := by decide +kernel
theorem dX5_knowsBehind_78 : decode cX5_knowsBehind 78 = .ok (.iload_n 3, 1) := by decide +kernel
theorem dX5_knowsBehind_79 : decode cX5_knowsBehind 79 = .ok (.iload 4, 2) := by decide +kernel
theorem dX5_knowsBehind_81 : decode cX5_knowsBehind 81 = .ok (.invokevirtual 182, 3) := by decide +kernel
theorem dX5_knowsBehind_84 : decode cX5_knowsBehind 84 = .ok (.ireturn, 1) := by decide +kernel
set_option maxRecDepth 20000 in
theorem ggX5_doByLot_X4_tryLowered : GoodIn wsX5_doByLot wsX4_tryLowered := goodIn_r _ [6, 7, 8, 9, 10, 5, 11, 12, 13, 14, 15, 16, 17, 18, 125, 126, 127, 128, 129, 130, 131, 132, 133, 134, 135, 136, 137, 138, 139] (by decide +kernel) (by decide +kernel)
set_option maxRecDepth 20000 in
theorem gX5_doByLot_X4_tryLowered : GoodIn wsX5_doByLot (wsV RX5 148 RX4 yX4_tryLowered wsX4_tryLowered) := goodIn_app (goodIn_of _ (by decide +kernel)) ggX5_doByLot_X4_tryLowered
set_option maxRecDepth 20000 in
theorem ggX5_doByLot_X4_tryRaised : GoodIn wsX5_doByLot wsX4_tryRaised := goodIn_r _ [22, 7, 23, 24, 25, 5, 26, 12, 13, 14, 15, 16, 17, 18, 125, 126, 127, 128, 129, 130, 131, 132, 133, 134, 135, 136, 137, 138, 139] (by decide +kernel) (by decide +kernel)
set_option maxRecDepth 20000 in
theorem gX5_doByLot_X4_tryRaised : GoodIn wsX5_doByLot (wsV RX5 154 RX4 yX4_tryRaised wsX4_tryRaised) := goodIn_app (goodIn_of _ (by decide +kernel)) ggX5_doByLot_X4_tryRaised
set_option maxRecDepth 20000 in
theorem ggX5_doByLot_X4_tryChanged : GoodIn wsX5_doByLot wsX4_tryChanged := goodIn_r _ [30, 12, 31, 32, 13, 14, 15, 16, 17, 18, 125, 126, 127, 128, 129, 130, 131, 132, 133, 134, 135, 136, 137, 138, 139] (by decide +kernel) (by decide +kernel)
set_option maxRecDepth 20000 in
theorem gX5_doByLot_X4_tryChanged : GoodIn wsX5_doByLot (wsV RX5 157 RX4 yX4_tryChanged wsX4_tryChanged) := goodIn_app (goodIn_of _ (by decide +kernel)) ggX5_doByLot_X4_tryChanged
set_option maxRecDepth 20000 in
theorem ggX5_doByLot_X4_tryPlate : GoodIn wsX5_doByLot wsX4_tryPlate := goodIn_r _ [36, 12, 32, 37, 38, 39, 16, 40, 18, 125, 126, 127, 128, 129, 130, 131, 132, 133, 134, 135, 136, 137, 138, 139] (by decide +kernel) (by decide +kernel)
set_option maxRecDepth 20000 in
theorem gX5_doByLot_X4_tryPlate : GoodIn wsX5_doByLot (wsV RX5 164 RX4 yX4_tryPlate wsX4_tryPlate) := goodIn_app (goodIn_of _ (by decide +kernel)) ggX5_doByLot_X4_tryPlate
set_option maxRecDepth 20000 in
theorem ggX5_doByLot_X4_passHour : GoodIn wsX5_doByLot wsX4_passHour := goodIn_r _ [44, 12, 45, 46, 47, 48, 16, 49, 50, 51, 52, 53, 54, 55, 56, 57, 58, 5, 59, 60, 61, 62, 63, 64, 65, 66, 67, 68, 69, 70, 71, 72, 73, 74, 75, 76, 77, 78, 79, 80, 7, 81, 82, 83, 31, 84, 85, 86, 87, 88, 89, 90, 91, 92, 93, 94, 32, 95, 96, 97, 98, 18, 99, 100, 101, 102, 103, 104, 105, 106, 107, 108, 109, 125, 126, 127, 128, 129, 130, 131, 132, 133, 134, 135, 136, 137, 138, 139] (by decide +kernel) (by decide +kernel)
set_option maxRecDepth 20000 in
theorem gX5_doByLot_X4_passHour : GoodIn wsX5_doByLot (wsV RX5 142 RX4 yX4_passHour wsX4_passHour) := goodIn_app (goodIn_of _ (by decide +kernel)) ggX5_doByLot_X4_passHour
theorem dX5_doByLot_0 : decode cX5_doByLot 0 = .ok (.iload_n 1, 1) := by decide +kernel
theorem dX5_doByLot_1 : decode cX5_doByLot 1 = .ok (.iconst 5, 1) := by decide +kernel
theorem dX5_doByLot_2 : decode cX5_doByLot 2 = .ok (.if_icmp .ge 15, 3) := by decide +kernel
theorem dX5_doByLot_5 : decode cX5_doByLot 5 = .ok (.aload_n 0, 1) := by decide +kernel
theorem dX5_doByLot_6 : decode cX5_doByLot 6 = .ok (.getfield 56, 3) := by decide +kernel
theorem dX5_doByLot_9 : decode cX5_doByLot 9 = .ok (.iload_n 1, 1) := by decide +kernel
theorem dX5_doByLot_10 : decode cX5_doByLot 10 = .ok (.invokevirtual 148, 3) := by decide +kernel
theorem dX5_doByLot_13 : decode cX5_doByLot 13 = .ok (.pop, 1) := by decide +kernel
theorem dX5_doByLot_14 : decode cX5_doByLot 14 = .ok (.goto 77, 3) := by decide +kernel
theorem dX5_doByLot_17 : decode cX5_doByLot 17 = .ok (.iload_n 1, 1) := by decide +kernel
theorem dX5_doByLot_18 : decode cX5_doByLot 18 = .ok (.bipush 10, 2) := by decide +kernel
theorem dX5_doByLot_20 : decode cX5_doByLot 20 = .ok (.if_icmp .ge 17, 3) := by decide +kernel
theorem dX5_doByLot_23 : decode cX5_doByLot 23 = .ok (.aload_n 0, 1) := by decide +kernel
theorem dX5_doByLot_24 : decode cX5_doByLot 24 = .ok (.getfield 56, 3) := by decide +kernel
theorem dX5_doByLot_27 : decode cX5_doByLot 27 = .ok (.iload_n 1, 1) := by decide +kernel
theorem dX5_doByLot_28 : decode cX5_doByLot 28 = .ok (.iconst 5, 1) := by decide +kernel
theorem dX5_doByLot_29 : decode cX5_doByLot 29 = .ok (.isub, 1) := by decide +kernel
theorem dX5_doByLot_30 : decode cX5_doByLot 30 = .ok (.invokevirtual 154, 3) := by decide +kernel
theorem dX5_doByLot_33 : decode cX5_doByLot 33 = .ok (.pop, 1) := by decide +kernel
theorem dX5_doByLot_34 : decode cX5_doByLot 34 = .ok (.goto 57, 3) := by decide +kernel
theorem dX5_doByLot_37 : decode cX5_doByLot 37 = .ok (.iload_n 1, 1) := by decide +kernel
theorem dX5_doByLot_38 : decode cX5_doByLot 38 = .ok (.bipush 14, 2) := by decide +kernel
theorem dX5_doByLot_40 : decode cX5_doByLot 40 = .ok (.if_icmp .ge 22, 3) := by decide +kernel
theorem dX5_doByLot_43 : decode cX5_doByLot 43 = .ok (.aload_n 0, 1) := by decide +kernel
theorem dX5_doByLot_44 : decode cX5_doByLot 44 = .ok (.getfield 56, 3) := by decide +kernel
theorem dX5_doByLot_47 : decode cX5_doByLot 47 = .ok (.iload_n 1, 1) := by decide +kernel
theorem dX5_doByLot_48 : decode cX5_doByLot 48 = .ok (.bipush 10, 2) := by decide +kernel
theorem dX5_doByLot_50 : decode cX5_doByLot 50 = .ok (.isub, 1) := by decide +kernel
theorem dX5_doByLot_51 : decode cX5_doByLot 51 = .ok (.iload_n 1, 1) := by decide +kernel
theorem dX5_doByLot_52 : decode cX5_doByLot 52 = .ok (.bipush 9, 2) := by decide +kernel
theorem dX5_doByLot_54 : decode cX5_doByLot 54 = .ok (.isub, 1) := by decide +kernel
theorem dX5_doByLot_55 : decode cX5_doByLot 55 = .ok (.invokevirtual 157, 3) := by decide +kernel
theorem dX5_doByLot_58 : decode cX5_doByLot 58 = .ok (.pop, 1) := by decide +kernel
theorem dX5_doByLot_59 : decode cX5_doByLot 59 = .ok (.goto 32, 3) := by decide +kernel
theorem dX5_doByLot_62 : decode cX5_doByLot 62 = .ok (.iload_n 1, 1) := by decide +kernel
theorem dX5_doByLot_63 : decode cX5_doByLot 63 = .ok (.bipush 18, 2) := by decide +kernel
theorem dX5_doByLot_65 : decode cX5_doByLot 65 = .ok (.if_icmp .ge 18, 3) := by decide +kernel
theorem dX5_doByLot_68 : decode cX5_doByLot 68 = .ok (.aload_n 0, 1) := by decide +kernel
theorem dX5_doByLot_69 : decode cX5_doByLot 69 = .ok (.getfield 56, 3) := by decide +kernel
theorem dX5_doByLot_72 : decode cX5_doByLot 72 = .ok (.iload_n 1, 1) := by decide +kernel
theorem dX5_doByLot_73 : decode cX5_doByLot 73 = .ok (.bipush 14, 2) := by decide +kernel
theorem dX5_doByLot_75 : decode cX5_doByLot 75 = .ok (.isub, 1) := by decide +kernel
theorem dX5_doByLot_76 : decode cX5_doByLot 76 = .ok (.invokevirtual 164, 3) := by decide +kernel
theorem dX5_doByLot_79 : decode cX5_doByLot 79 = .ok (.pop, 1) := by decide +kernel
theorem dX5_doByLot_80 : decode cX5_doByLot 80 = .ok (.goto 11, 3) := by decide +kernel
theorem dX5_doByLot_83 : decode cX5_doByLot 83 = .ok (.aload_n 0, 1) := by decide +kernel
theorem dX5_doByLot_84 : decode cX5_doByLot 84 = .ok (.getfield 56, 3) := by decide +kernel
theorem dX5_doByLot_87 : decode cX5_doByLot 87 = .ok (.invokevirtual 142, 3) := by decide +kernel
theorem dX5_doByLot_90 : decode cX5_doByLot 90 = .ok (.pop, 1) := by decide +kernel
theorem dX5_doByLot_91 : decode cX5_doByLot 91 = .ok (.return_, 1) := by decide +kernel
theorem dX6_init_0 : decode cX6_init 0 = .ok (.aload_n 0, 1) := by decide +kernel
theorem dX6_init_1 : decode cX6_init 1 = .ok (.invokespecial 1, 3) := by decide +kernel
theorem dX6_init_4 : decode cX6_init 4 = .ok (.aload_n 0, 1) := by decide +kernel
theorem dX6_init_5 : decode cX6_init 5 = .ok (.iconst 5, 1) := by decide +kernel
theorem dX6_init_6 : decode cX6_init 6 = .ok (.newarray .int, 2) := by decide +kernel
theorem dX6_init_8 : decode cX6_init 8 = .ok (.putfield 7, 3) := by decide +kernel
theorem dX6_init_11 : decode cX6_init 11 = .ok (.aload_n 0, 1) := by decide +kernel
theorem dX6_init_12 : decode cX6_init 12 = .ok (.iconst 5, 1) := by decide +kernel
theorem dX6_init_13 : decode cX6_init 13 = .ok (.newarray .int, 2) := by decide +kernel
theorem dX6_init_15 : decode cX6_init 15 = .ok (.putfield 13, 3) := by decide +kernel
theorem dX6_init_18 : decode cX6_init 18 = .ok (.aload_n 0, 1) := by decide +kernel
theorem dX6_init_19 : decode cX6_init 19 = .ok (.bipush 24, 2) := by decide +kernel
theorem dX6_init_21 : decode cX6_init 21 = .ok (.newarray .int, 2) := by decide +kernel
theorem dX6_init_23 : decode cX6_init 23 = .ok (.putfield 16, 3) := by decide +kernel
theorem dX6_init_26 : decode cX6_init 26 = .ok (.aload_n 0, 1) := by decide +kernel
theorem dX6_init_27 : decode cX6_init 27 = .ok (.iconst 4, 1) := by decide +kernel
theorem dX6_init_28 : decode cX6_init 28 = .ok (.newarray .int, 2) := by decide +kernel
theorem dX6_init_30 : decode cX6_init 30 = .ok (.putfield 19, 3) := by decide +kernel
theorem dX6_init_33 : decode cX6_init 33 = .ok (.aload_n 0, 1) := by decide +kernel
theorem dX6_init_34 : decode cX6_init 34 = .ok (.bipush 34, 2) := by decide +kernel
theorem dX6_init_36 : decode cX6_init 36 = .ok (.newarray .int, 2) := by decide +kernel
theorem dX6_init_38 : decode cX6_init 38 = .ok (.putfield 22, 3) := by decide +kernel
theorem dX6_init_41 : decode cX6_init 41 = .ok (.aload_n 0, 1) := by decide +kernel
theorem dX6_init_42 : decode cX6_init 42 = .ok (.bipush 10, 2) := by decide +kernel
theorem dX6_init_44 : decode cX6_init 44 = .ok (.newarray .int, 2) := by decide +kernel
theorem dX6_init_46 : decode cX6_init 46 = .ok (.putfield 25, 3) := by decide +kernel
theorem dX6_init_49 : decode cX6_init 49 = .ok (.aload_n 0, 1) := by decide +kernel
theorem dX6_init_50 : decode cX6_init 50 = .ok (.bipush 24, 2) := by decide +kernel
theorem dX6_init_52 : decode cX6_init 52 = .ok (.newarray .int, 2) := by decide +kernel
theorem dX6_init_54 : decode cX6_init 54 = .ok (.putfield 28, 3) := by decide +kernel
theorem dX6_init_57 : decode cX6_init 57 = .ok (.aload_n 0, 1) := by decide +kernel
theorem dX6_init_58 : decode cX6_init 58 = .ok (.iconst 4, 1) := by decide +kernel
theorem dX6_init_59 : decode cX6_init 59 = .ok (.newarray .int, 2) := by decide +kernel
theorem dX6_init_61 : decode cX6_init 61 = .ok (.putfield 31, 3) := by decide +kernel
theorem dX6_init_64 : decode cX6_init 64 = .ok (.aload_n 0, 1) := by decide +kernel
theorem dX6_init_65 : decode cX6_init 65 = .ok (.bipush 64, 2) := by decide +kernel
theorem dX6_init_67 : decode cX6_init 67 = .ok (.newarray .int, 2) := by decide +kernel
theorem dX6_init_69 : decode cX6_init 69 = .ok (.putfield 34, 3) := by decide +kernel
theorem dX6_init_72 : decode cX6_init 72 = .ok (.aload_n 0, 1) := by decide +kernel
theorem dX6_init_73 : decode cX6_init 73 = .ok (.sipush 238, 3) := by decide +kernel
theorem dX6_init_76 : decode cX6_init 76 = .ok (.newarray .int, 2) := by decide +kernel
theorem dX6_init_78 : decode cX6_init 78 = .ok (.putfield 37, 3) := by decide +kernel
theorem dX6_init_81 : decode cX6_init 81 = .ok (.aload_n 0, 1) := by decide +kernel
theorem dX6_init_82 : decode cX6_init 82 = .ok (.bipush 6, 2) := by decide +kernel
theorem dX6_init_84 : decode cX6_init 84 = .ok (.newarray .int, 2) := by decide +kernel
theorem dX6_init_86 : decode cX6_init 86 = .ok (.putfield 40, 3) := by decide +kernel
theorem dX6_init_89 : decode cX6_init 89 = .ok (.aload_n 0, 1) := by decide +kernel
theorem dX6_init_90 : decode cX6_init 90 = .ok (.bipush 6, 2) := by decide +kernel
theorem dX6_init_92 : decode cX6_init 92 = .ok (.newarray .int, 2) := by decide +kernel
theorem dX6_init_94 : decode cX6_init 94 = .ok (.putfield 43, 3) := by decide +kernel
theorem dX6_init_97 : decode cX6_init 97 = .ok (.aload_n 0, 1) := by decide +kernel
theorem dX6_init_98 : decode cX6_init 98 = .ok (.bipush 6, 2) := by decide +kernel
theorem dX6_init_100 : decode cX6_init 100 = .ok (.newarray .int, 2) := by decide +kernel
theorem dX6_init_102 : decode cX6_init 102 = .ok (.putfield 46, 3) := by decide +kernel
theorem dX6_init_105 : decode cX6_init 105 = .ok (.aload_n 0, 1) := by decide +kernel
theorem dX6_init_106 : decode cX6_init 106 = .ok (.iconst 2, 1) := by decide +kernel
theorem dX6_init_107 : decode cX6_init 107 = .ok (.newarray .boolean, 2) := by decide +kernel
theorem dX6_init_109 : decode cX6_init 109 = .ok (.putfield 49, 3) := by decide +kernel
theorem dX6_init_112 : decode cX6_init 112 = .ok (.aload_n 0, 1) := by decide +kernel
theorem dX6_init_113 : decode cX6_init 113 = .ok (.bipush 34, 2) := by decide +kernel
theorem dX6_init_115 : decode cX6_init 115 = .ok (.newarray .int, 2) := by decide +kernel
theorem dX6_init_117 : decode cX6_init 117 = .ok (.putfield 53, 3) := by decide +kernel
theorem dX6_init_120 : decode cX6_init 120 = .ok (.return_, 1) := by decide +kernel
theorem dX6_in_0 : decode cX6_in 0 = .ok (.lload_n 0, 1) := by decide +kernel
theorem dX6_in_1 : decode cX6_in 1 = .ok (.lload_n 2, 1) := by decide +kernel
theorem dX6_in_2 : decode cX6_in 2 = .ok (.lcmp, 1) := by decide +kernel
theorem dX6_in_3 : decode cX6_in 3 = .ok (.ifCond .lt 14, 3) := by decide +kernel
theorem dX6_in_6 : decode cX6_in 6 = .ok (.lload_n 0, 1) := by decide +kernel
theorem dX6_in_7 : decode cX6_in 7 = .ok (.lload 4, 2) := by decide +kernel
theorem dX6_in_9 : decode cX6_in 9 = .ok (.lcmp, 1) := by decide +kernel
theorem dX6_in_10 : decode cX6_in 10 = .ok (.ifCond .gt 7, 3) := by decide +kernel
theorem dX6_in_13 : decode cX6_in 13 = .ok (.iconst 1, 1) := by decide +kernel
theorem dX6_in_14 : decode cX6_in 14 = .ok (.goto 4, 3) := by decide +kernel
theorem dX6_in_17 : decode cX6_in 17 = .ok (.iconst 0, 1) := by decide +kernel
theorem dX6_in_18 : decode cX6_in 18 = .ok (.ireturn, 1) := by decide +kernel
theorem dX6_has_0 : decode cX6_has 0 = .ok (.iload_n 0, 1) := by decide +kernel
theorem dX6_has_1 : decode cX6_has 1 = .ok (.iload_n 1, 1) := by decide +kernel
theorem dX6_has_2 : decode cX6_has 2 = .ok (.ishr, 1) := by decide +kernel
theorem dX6_has_3 : decode cX6_has 3 = .ok (.iconst 1, 1) := by decide +kernel
theorem dX6_has_4 : decode cX6_has 4 = .ok (.iand, 1) := by decide +kernel
theorem dX6_has_5 : decode cX6_has 5 = .ok (.iconst 1, 1) := by decide +kernel
theorem dX6_has_6 : decode cX6_has 6 = .ok (.if_icmp .ne 7, 3) := by decide +kernel
theorem dX6_has_9 : decode cX6_has 9 = .ok (.iconst 1, 1) := by decide +kernel
theorem dX6_has_10 : decode cX6_has 10 = .ok (.goto 4, 3) := by decide +kernel
theorem dX6_has_13 : decode cX6_has 13 = .ok (.iconst 0, 1) := by decide +kernel
theorem dX6_has_14 : decode cX6_has 14 = .ok (.ireturn, 1) := by decide +kernel
theorem dX6_ones_0 : decode cX6_ones 0 = .ok (.iconst 0, 1) := by decide +kernel
theorem dX6_ones_1 : decode cX6_ones 1 = .ok (.istore_n 1, 1) := by decide +kernel
theorem dX6_ones_2 : decode cX6_ones 2 = .ok (.iconst 0, 1) := by decide +kernel
theorem dX6_ones_3 : decode cX6_ones 3 = .ok (.istore_n 2, 1) := by decide +kernel
theorem dX6_ones_4 : decode cX6_ones 4 = .ok (.iload_n 2, 1) := by decide +kernel
theorem dX6_ones_5 : decode cX6_ones 5 = .ok (.bipush 8, 2) := by decide +kernel
theorem dX6_ones_7 : decode cX6_ones 7 = .ok (.if_icmp .ge 17, 3) := by decide +kernel
theorem dX6_ones_10 : decode cX6_ones 10 = .ok (.iload_n 1, 1) := by decide +kernel
theorem dX6_ones_11 : decode cX6_ones 11 = .ok (.iload_n 0, 1) := by decide +kernel
theorem dX6_ones_12 : decode cX6_ones 12 = .ok (.iload_n 2, 1) := by decide +kernel
theorem dX6_ones_13 : decode cX6_ones 13 = .ok (.ishr, 1) := by decide +kernel
theorem dX6_ones_14 : decode cX6_ones 14 = .ok (.iconst 1, 1) := by decide +kernel
theorem dX6_ones_15 : decode cX6_ones 15 = .ok (.iand, 1) := by decide +kernel
theorem dX6_ones_16 : decode cX6_ones 16 = .ok (.iadd, 1) := by decide +kernel
theorem dX6_ones_17 : decode cX6_ones 17 = .ok (.istore_n 1, 1) := by decide +kernel
theorem dX6_ones_18 : decode cX6_ones 18 = .ok (.iinc 2 1, 3) := by decide +kernel
theorem dX6_ones_21 : decode cX6_ones 21 = .ok (.goto (-17), 3) := by decide +kernel
theorem dX6_ones_24 : decode cX6_ones 24 = .ok (.iload_n 1, 1) := by decide +kernel
theorem dX6_ones_25 : decode cX6_ones 25 = .ok (.ireturn, 1) := by decide +kernel
set_option maxRecDepth 20000 in
theorem ggX6_write_X6_in : GoodIn wsX6_write wsX6_in := goodIn_r _ [7] (by decide +kernel) (by decide +kernel)
set_option maxRecDepth 20000 in
theorem gX6_write_X6_in : GoodIn wsX6_write (va_wsS RX6 58 yX6_in wsX6_in) := goodIn_app (goodIn_of _ (by decide +kernel)) ggX6_write_X6_in
theorem dX6_write_0 : decode cX6_write 0 = .ok (.iload_n 1, 1) := by decide +kernel
theorem dX6_write_1 : decode cX6_write 1 = .ok (.i2l, 1) := by decide +kernel
theorem dX6_write_2 : decode cX6_write 2 = .ok (.lconst 0, 1) := by decide +kernel
theorem dX6_write_3 : decode cX6_write 3 = .ok (.ldc2_w 56, 3) := by decide +kernel
theorem dX6_write_6 : decode cX6_write 6 = .ok (.invokestatic 58, 3) := by decide +kernel
theorem dX6_write_9 : decode cX6_write 9 = .ok (.ifCond .ne 6, 3) := by decide +kernel
theorem dX6_write_12 : decode cX6_write 12 = .ok (.bipush (-2), 2) := by decide +kernel
theorem dX6_write_14 : decode cX6_write 14 = .ok (.ireturn, 1) := by decide +kernel
theorem dX6_write_15 : decode cX6_write 15 = .ok (.aload_n 0, 1) := by decide +kernel
theorem dX6_write_16 : decode cX6_write 16 = .ok (.getfield 62, 3) := by decide +kernel
theorem dX6_write_19 : decode cX6_write 19 = .ok (.bipush 64, 2) := by decide +kernel
theorem dX6_write_21 : decode cX6_write 21 = .ok (.if_icmp .ne 6, 3) := by decide +kernel
theorem dX6_write_24 : decode cX6_write 24 = .ok (.bipush (-4), 2) := by decide +kernel
theorem dX6_write_26 : decode cX6_write 26 = .ok (.ireturn, 1) := by decide +kernel
theorem dX6_write_27 : decode cX6_write 27 = .ok (.aload_n 0, 1) := by decide +kernel
theorem dX6_write_28 : decode cX6_write 28 = .ok (.getfield 34, 3) := by decide +kernel
theorem dX6_write_31 : decode cX6_write 31 = .ok (.aload_n 0, 1) := by decide +kernel
theorem dX6_write_32 : decode cX6_write 32 = .ok (.getfield 62, 3) := by decide +kernel
theorem dX6_write_35 : decode cX6_write 35 = .ok (.iload_n 1, 1) := by decide +kernel
theorem dX6_write_36 : decode cX6_write 36 = .ok (.iastore, 1) := by decide +kernel
theorem dX6_write_37 : decode cX6_write 37 = .ok (.aload_n 0, 1) := by decide +kernel
theorem dX6_write_38 : decode cX6_write 38 = .ok (.dup, 1) := by decide +kernel
theorem dX6_write_39 : decode cX6_write 39 = .ok (.getfield 62, 3) := by decide +kernel
theorem dX6_write_42 : decode cX6_write 42 = .ok (.iconst 1, 1) := by decide +kernel
theorem dX6_write_43 : decode cX6_write 43 = .ok (.iadd, 1) := by decide +kernel
theorem dX6_write_44 : decode cX6_write 44 = .ok (.putfield 62, 3) := by decide +kernel
theorem dX6_write_47 : decode cX6_write 47 = .ok (.aload_n 0, 1) := by decide +kernel
theorem dX6_write_48 : decode cX6_write 48 = .ok (.getfield 62, 3) := by decide +kernel
theorem dX6_write_51 : decode cX6_write 51 = .ok (.ireturn, 1) := by decide +kernel
theorem dX6_wipe_0 : decode cX6_wipe 0 = .ok (.aload_n 0, 1) := by decide +kernel
theorem dX6_wipe_1 : decode cX6_wipe 1 = .ok (.getfield 62, 3) := by decide +kernel
theorem dX6_wipe_4 : decode cX6_wipe 4 = .ok (.istore_n 1, 1) := by decide +kernel
theorem dX6_wipe_5 : decode cX6_wipe 5 = .ok (.aload_n 0, 1) := by decide +kernel
theorem dX6_wipe_6 : decode cX6_wipe 6 = .ok (.iconst 0, 1) := by decide +kernel
theorem dX6_wipe_7 : decode cX6_wipe 7 = .ok (.putfield 62, 3) := by decide +kernel
theorem dX6_wipe_10 : decode cX6_wipe 10 = .ok (.iload_n 1, 1) := by decide +kernel
theorem dX6_wipe_11 : decode cX6_wipe 11 = .ok (.ireturn, 1) := by decide +kernel
set_option maxRecDepth 20000 in
theorem ggX6_figureUpTo_X6_in : GoodIn wsX6_figureUpTo wsX6_in := goodIn_r _ [8] (by decide +kernel) (by decide +kernel)
set_option maxRecDepth 20000 in
theorem gX6_figureUpTo_X6_in : GoodIn wsX6_figureUpTo (va_wsS RX6 58 yX6_in wsX6_in) := goodIn_app (goodIn_of _ (by decide +kernel)) ggX6_figureUpTo_X6_in
theorem dX6_figureUpTo_0 : decode cX6_figureUpTo 0 = .ok (.aload_n 0, 1) := by decide +kernel
theorem dX6_figureUpTo_1 : decode cX6_figureUpTo 1 = .ok (.getfield 66, 3) := by decide +kernel
theorem dX6_figureUpTo_4 : decode cX6_figureUpTo 4 = .ok (.bipush (-9), 2) := by decide +kernel
theorem dX6_figureUpTo_6 : decode cX6_figureUpTo 6 = .ok (.if_icmp .ne 40, 3) := by decide +kernel
theorem dX6_figureUpTo_9 : decode cX6_figureUpTo 9 = .ok (.aload_n 0, 1) := by decide +kernel
theorem dX6_figureUpTo_10 : decode cX6_figureUpTo 10 = .ok (.getfield 69, 3) := by decide +kernel
theorem dX6_figureUpTo_13 : decode cX6_figureUpTo 13 = .ok (.aload_n 0, 1) := by decide +kernel
theorem dX6_figureUpTo_14 : decode cX6_figureUpTo 14 = .ok (.getfield 62, 3) := by decide +kernel
theorem dX6_figureUpTo_17 : decode cX6_figureUpTo 17 = .ok (.if_icmp .ge 29, 3) := by decide +kernel
theorem dX6_figureUpTo_20 : decode cX6_figureUpTo 20 = .ok (.aload_n 0, 1) := by decide +kernel
theorem dX6_figureUpTo_21 : decode cX6_figureUpTo 21 = .ok (.getfield 34, 3) := by decide +kernel
theorem dX6_figureUpTo_24 : decode cX6_figureUpTo 24 = .ok (.aload_n 0, 1) := by decide +kernel
theorem dX6_figureUpTo_25 : decode cX6_figureUpTo 25 = .ok (.getfield 69, 3) := by decide +kernel
theorem dX6_figureUpTo_28 : decode cX6_figureUpTo 28 = .ok (.iaload, 1) := by decide +kernel
theorem dX6_figureUpTo_29 : decode cX6_figureUpTo 29 = .ok (.bipush 48, 2) := by decide +kernel
theorem dX6_figureUpTo_31 : decode cX6_figureUpTo 31 = .ok (.isub, 1) := by decide +kernel
theorem dX6_figureUpTo_32 : decode cX6_figureUpTo 32 = .ok (.i2l, 1) := by decide +kernel
theorem dX6_figureUpTo_33 : decode cX6_figureUpTo 33 = .ok (.lconst 0, 1) := by decide +kernel
theorem dX6_figureUpTo_34 : decode cX6_figureUpTo 34 = .ok (.iload_n 1, 1) := by decide +kernel
theorem dX6_figureUpTo_35 : decode cX6_figureUpTo 35 = .ok (.i2l, 1) := by decide +kernel
theorem dX6_figureUpTo_36 : decode cX6_figureUpTo 36 = .ok (.invokestatic 58, 3) := by decide +kernel
theorem dX6_figureUpTo_39 : decode cX6_figureUpTo 39 = .ok (.ifCond .eq 7, 3) := by decide +kernel
theorem dX6_figureUpTo_42 : decode cX6_figureUpTo 42 = .ok (.iconst 1, 1) := by decide +kernel
theorem dX6_figureUpTo_43 : decode cX6_figureUpTo 43 = .ok (.goto 4, 3) := by decide +kernel
theorem dX6_figureUpTo_46 : decode cX6_figureUpTo 46 = .ok (.iconst 0, 1) := by decide +kernel
theorem dX6_figureUpTo_47 : decode cX6_figureUpTo 47 = .ok (.istore_n 2, 1) := by decide +kernel
theorem dX6_figureUpTo_48 : decode cX6_figureUpTo 48 = .ok (.iload_n 2, 1) := by decide +kernel
theorem dX6_figureUpTo_49 : decode cX6_figureUpTo 49 = .ok (.ifCond .ne 29, 3) := by decide +kernel
theorem dX6_figureUpTo_52 : decode cX6_figureUpTo 52 = .ok (.aload_n 0, 1) := by decide +kernel
theorem dX6_figureUpTo_53 : decode cX6_figureUpTo 53 = .ok (.aload_n 0, 1) := by decide +kernel
theorem dX6_figureUpTo_54 : decode cX6_figureUpTo 54 = .ok (.getfield 66, 3) := by decide +kernel
theorem dX6_figureUpTo_57 : decode cX6_figureUpTo 57 = .ok (.bipush (-9), 2) := by decide +kernel
theorem dX6_figureUpTo_59 : decode cX6_figureUpTo 59 = .ok (.if_icmp .ne 10, 3) := by decide +kernel
theorem dX6_figureUpTo_62 : decode cX6_figureUpTo 62 = .ok (.aload_n 0, 1) := by decide +kernel
theorem dX6_figureUpTo_63 : decode cX6_figureUpTo 63 = .ok (.getfield 69, 3) := by decide +kernel
theorem dX6_figureUpTo_66 : decode cX6_figureUpTo 66 = .ok (.goto 7, 3) := by decide +kernel
theorem dX6_figureUpTo_69 : decode cX6_figureUpTo 69 = .ok (.aload_n 0, 1) := by decide +kernel
theorem dX6_figureUpTo_70 : decode cX6_figureUpTo 70 = .ok (.getfield 66, 3) := by decide +kernel
theorem dX6_figureUpTo_73 : decode cX6_figureUpTo 73 = .ok (.putfield 66, 3) := by decide +kernel
theorem dX6_figureUpTo_76 : decode cX6_figureUpTo 76 = .ok (.iconst 0, 1) := by decide +kernel
theorem dX6_figureUpTo_77 : decode cX6_figureUpTo 77 = .ok (.ireturn, 1) := by decide +kernel
theorem dX6_figureUpTo_78 : decode cX6_figureUpTo 78 = .ok (.aload_n 0, 1) := by decide +kernel
theorem dX6_figureUpTo_79 : decode cX6_figureUpTo 79 = .ok (.dup, 1) := by decide +kernel
theorem dX6_figureUpTo_80 : decode cX6_figureUpTo 80 = .ok (.getfield 69, 3) := by decide +kernel
theorem dX6_figureUpTo_83 : decode cX6_figureUpTo 83 = .ok (.iconst 1, 1) := by decide +kernel
theorem dX6_figureUpTo_84 : decode cX6_figureUpTo 84 = .ok (.iadd, 1) := by decide +kernel
theorem dX6_figureUpTo_85 : decode cX6_figureUpTo 85 = .ok (.putfield 69, 3) := by decide +kernel
theorem dX6_figureUpTo_88 : decode cX6_figureUpTo 88 = .ok (.aload_n 0, 1) := by decide +kernel
theorem dX6_figureUpTo_89 : decode cX6_figureUpTo 89 = .ok (.getfield 34, 3) := by decide +kernel
theorem dX6_figureUpTo_92 : decode cX6_figureUpTo 92 = .ok (.aload_n 0, 1) := by decide +kernel
theorem dX6_figureUpTo_93 : decode cX6_figureUpTo 93 = .ok (.getfield 69, 3) := by decide +kernel
theorem dX6_figureUpTo_96 : decode cX6_figureUpTo 96 = .ok (.iconst 1, 1) := by decide +kernel
theorem dX6_figureUpTo_97 : decode cX6_figureUpTo 97 = .ok (.isub, 1) := by decide +kernel
theorem dX6_figureUpTo_98 : decode cX6_figureUpTo 98 = .ok (.iaload, 1) := by decide +kernel
theorem dX6_figureUpTo_99 : decode cX6_figureUpTo 99 = .ok (.bipush 48, 2) := by decide +kernel
theorem dX6_figureUpTo_101 : decode cX6_figureUpTo 101 = .ok (.isub, 1) := by decide +kernel
theorem dX6_figureUpTo_102 : decode cX6_figureUpTo 102 = .ok (.ireturn, 1) := by decide +kernel
set_option maxRecDepth 20000 in
theorem ggX6_readText_X6_readPart : GoodIn wsX6_readText wsX6_readPart := goodIn_r _ [12, 3, 1, 13, 4, 14, 5, 15, 2, 16, 17, 18, 11, 19, 6, 7, 20, 21, 22, 23, 24, 25, 26, 27, 28, 29, 30, 31, 32, 33, 34, 35, 36, 37, 38, 39, 40, 41, 42, 43, 44, 45, 46, 47, 48, 49, 50] (by decide +kernel) (by decide +kernel)
set_option maxRecDepth 20000 in
theorem gX6_readText_X6_readPart : GoodIn wsX6_readText (wsV RX6 81 RX6 yX6_readPart wsX6_readPart) := goodIn_app (goodIn_of _ (by decide +kernel)) ggX6_readText_X6_readPart
theorem dX6_readText_0 : decode cX6_readText 0 = .ok (.aload_n 0, 1) := by decide +kernel
theorem dX6_readText_1 : decode cX6_readText 1 = .ok (.iconst 0, 1) := by decide +kernel
theorem dX6_readText_2 : decode cX6_readText 2 = .ok (.putfield 69, 3) := by decide +kernel
theorem dX6_readText_5 : decode cX6_readText 5 = .ok (.aload_n 0, 1) := by decide +kernel
theorem dX6_readText_6 : decode cX6_readText 6 = .ok (.bipush (-9), 2) := by decide +kernel
theorem dX6_readText_8 : decode cX6_readText 8 = .ok (.putfield 66, 3) := by decide +kernel
theorem dX6_readText_11 : decode cX6_readText 11 = .ok (.aload_n 0, 1) := by decide +kernel
theorem dX6_readText_12 : decode cX6_readText 12 = .ok (.iconst 0, 1) := by decide +kernel
theorem dX6_readText_13 : decode cX6_readText 13 = .ok (.putfield 72, 3) := by decide +kernel
theorem dX6_readText_16 : decode cX6_readText 16 = .ok (.aload_n 0, 1) := by decide +kernel
theorem dX6_readText_17 : decode cX6_readText 17 = .ok (.iconst 0, 1) := by decide +kernel
theorem dX6_readText_18 : decode cX6_readText 18 = .ok (.putfield 75, 3) := by decide +kernel
theorem dX6_readText_21 : decode cX6_readText 21 = .ok (.aload_n 0, 1) := by decide +kernel
theorem dX6_readText_22 : decode cX6_readText 22 = .ok (.iconst 0, 1) := by decide +kernel
theorem dX6_readText_23 : decode cX6_readText 23 = .ok (.putfield 78, 3) := by decide +kernel
theorem dX6_readText_26 : decode cX6_readText 26 = .ok (.aload_n 0, 1) := by decide +kernel
theorem dX6_readText_27 : decode cX6_readText 27 = .ok (.getfield 62, 3) := by decide +kernel
theorem dX6_readText_30 : decode cX6_readText 30 = .ok (.ifCond .eq 14, 3) := by decide +kernel
theorem dX6_readText_33 : decode cX6_readText 33 = .ok (.aload_n 0, 1) := by decide +kernel
theorem dX6_readText_34 : decode cX6_readText 34 = .ok (.getfield 34, 3) := by decide +kernel
theorem dX6_readText_37 : decode cX6_readText 37 = .ok (.iconst 0, 1) := by decide +kernel
theorem dX6_readText_38 : decode cX6_readText 38 = .ok (.iaload, 1) := by decide +kernel
theorem dX6_readText_39 : decode cX6_readText 39 = .ok (.bipush 69, 2) := by decide +kernel
theorem dX6_readText_41 : decode cX6_readText 41 = .ok (.if_icmp .eq 5, 3) := by decide +kernel
theorem dX6_readText_44 : decode cX6_readText 44 = .ok (.iconst 0, 1) := by decide +kernel
theorem dX6_readText_45 : decode cX6_readText 45 = .ok (.ireturn, 1) := by decide +kernel
theorem dX6_readText_46 : decode cX6_readText 46 = .ok (.aload_n 0, 1) := by decide +kernel
theorem dX6_readText_47 : decode cX6_readText 47 = .ok (.iconst 1, 1) := by decide +kernel
theorem dX6_readText_48 : decode cX6_readText 48 = .ok (.putfield 69, 3) := by decide +kernel
theorem dX6_readText_51 : decode cX6_readText 51 = .ok (.aload_n 0, 1) := by decide +kernel
theorem dX6_readText_52 : decode cX6_readText 52 = .ok (.getfield 66, 3) := by decide +kernel
theorem dX6_readText_55 : decode cX6_readText 55 = .ok (.bipush (-9), 2) := by decide +kernel
theorem dX6_readText_57 : decode cX6_readText 57 = .ok (.if_icmp .ne 30, 3) := by decide +kernel
theorem dX6_readText_60 : decode cX6_readText 60 = .ok (.aload_n 0, 1) := by decide +kernel
theorem dX6_readText_61 : decode cX6_readText 61 = .ok (.getfield 69, 3) := by decide +kernel
theorem dX6_readText_64 : decode cX6_readText 64 = .ok (.aload_n 0, 1) := by decide +kernel
theorem dX6_readText_65 : decode cX6_readText 65 = .ok (.getfield 62, 3) := by decide +kernel
theorem dX6_readText_68 : decode cX6_readText 68 = .ok (.if_icmp .ge 19, 3) := by decide +kernel
theorem dX6_readText_71 : decode cX6_readText 71 = .ok (.aload_n 0, 1) := by decide +kernel
theorem dX6_readText_72 : decode cX6_readText 72 = .ok (.aload_n 0, 1) := by decide +kernel
theorem dX6_readText_73 : decode cX6_readText 73 = .ok (.getfield 34, 3) := by decide +kernel
theorem dX6_readText_76 : decode cX6_readText 76 = .ok (.aload_n 0, 1) := by decide +kernel
theorem dX6_readText_77 : decode cX6_readText 77 = .ok (.getfield 69, 3) := by decide +kernel
theorem dX6_readText_80 : decode cX6_readText 80 = .ok (.iaload, 1) := by decide +kernel
theorem dX6_readText_81 : decode cX6_readText 81 = .ok (.invokevirtual 81, 3) := by decide +kernel
theorem dX6_readText_84 : decode cX6_readText 84 = .ok (.goto (-33), 3) := by decide +kernel
theorem dX6_readText_87 : decode cX6_readText 87 = .ok (.aload_n 0, 1) := by decide +kernel
theorem dX6_readText_88 : decode cX6_readText 88 = .ok (.getfield 66, 3) := by decide +kernel
theorem dX6_readText_91 : decode cX6_readText 91 = .ok (.ireturn, 1) := by decide +kernel
set_option maxRecDepth 20000 in
theorem ggX6_readPart_X6_figureUpTo : GoodIn wsX6_readPart wsX6_figureUpTo := goodIn_r _ [13, 8, 2, 14, 15, 16, 17, 12, 18, 19, 20, 21, 22, 23, 24, 25, 26, 27, 28, 29, 30, 31, 32, 33, 34, 35, 36, 37, 38, 39, 40, 41, 42, 43, 44, 45, 46] (by decide +kernel) (by decide +kernel)
set_option maxRecDepth 20000 in
theorem gX6_readPart_X6_figureUpTo : GoodIn wsX6_readPart (wsV RX6 85 RX6 yX6_figureUpTo wsX6_figureUpTo) := goodIn_app (goodIn_of _ (by decide +kernel)) ggX6_readPart_X6_figureUpTo
theorem dX6_readPart_0 : decode cX6_readPart 0 = .ok (.iload_n 1, 1) := by decide +kernel
theorem dX6_readPart_1 : decode cX6_readPart 1 = .ok (.bipush 72, 2) := by decide +kernel
theorem dX6_readPart_3 : decode cX6_readPart 3 = .ok (.if_icmp .ne 69, 3) := by decide +kernel
theorem dX6_readPart_6 : decode cX6_readPart 6 = .ok (.aload_n 0, 1) := by decide +kernel
theorem dX6_readPart_7 : decode cX6_readPart 7 = .ok (.getfield 72, 3) := by decide +kernel
theorem dX6_readPart_10 : decode cX6_readPart 10 = .ok (.iconst 5, 1) := by decide +kernel
theorem dX6_readPart_11 : decode cX6_readPart 11 = .ok (.if_icmp .ge 61, 3) := by decide +kernel
theorem dX6_readPart_14 : decode cX6_readPart 14 = .ok (.aload_n 0, 1) := by decide +kernel
theorem dX6_readPart_15 : decode cX6_readPart 15 = .ok (.dup, 1) := by decide +kernel
theorem dX6_readPart_16 : decode cX6_readPart 16 = .ok (.getfield 69, 3) := by decide +kernel
theorem dX6_readPart_19 : decode cX6_readPart 19 = .ok (.iconst 1, 1) := by decide +kernel
theorem dX6_readPart_20 : decode cX6_readPart 20 = .ok (.iadd, 1) := by decide +kernel
theorem dX6_readPart_21 : decode cX6_readPart 21 = .ok (.putfield 69, 3) := by decide +kernel
theorem dX6_readPart_24 : decode cX6_readPart 24 = .ok (.aload_n 0, 1) := by decide +kernel
theorem dX6_readPart_25 : decode cX6_readPart 25 = .ok (.getfield 25, 3) := by decide +kernel
theorem dX6_readPart_28 : decode cX6_readPart 28 = .ok (.iconst 2, 1) := by decide +kernel
theorem dX6_readPart_29 : decode cX6_readPart 29 = .ok (.aload_n 0, 1) := by decide +kernel
theorem dX6_readPart_30 : decode cX6_readPart 30 = .ok (.getfield 72, 3) := by decide +kernel
theorem dX6_readPart_33 : decode cX6_readPart 33 = .ok (.imul, 1) := by decide +kernel
theorem dX6_readPart_34 : decode cX6_readPart 34 = .ok (.aload_n 0, 1) := by decide +kernel
theorem dX6_readPart_35 : decode cX6_readPart 35 = .ok (.iconst 3, 1) := by decide +kernel
theorem dX6_readPart_36 : decode cX6_readPart 36 = .ok (.invokevirtual 85, 3) := by decide +kernel
theorem dX6_readPart_39 : decode cX6_readPart 39 = .ok (.iastore, 1) := by decide +kernel
theorem dX6_readPart_40 : decode cX6_readPart 40 = .ok (.aload_n 0, 1) := by decide +kernel
theorem dX6_readPart_41 : decode cX6_readPart 41 = .ok (.getfield 25, 3) := by decide +kernel
theorem dX6_readPart_44 : decode cX6_readPart 44 = .ok (.iconst 2, 1) := by decide +kernel
theorem dX6_readPart_45 : decode cX6_readPart 45 = .ok (.aload_n 0, 1) := by decide +kernel
theorem dX6_readPart_46 : decode cX6_readPart 46 = .ok (.getfield 72, 3) := by decide +kernel
theorem dX6_readPart_49 : decode cX6_readPart 49 = .ok (.imul, 1) := by decide +kernel
theorem dX6_readPart_50 : decode cX6_readPart 50 = .ok (.iconst 1, 1) := by decide +kernel
theorem dX6_readPart_51 : decode cX6_readPart 51 = .ok (.iadd, 1) := by decide +kernel
theorem dX6_readPart_52 : decode cX6_readPart 52 = .ok (.aload_n 0, 1) := by decide +kernel
theorem dX6_readPart_53 : decode cX6_readPart 53 = .ok (.bipush 9, 2) := by decide +kernel
theorem dX6_readPart_55 : decode cX6_readPart 55 = .ok (.invokevirtual 85, 3) := by decide +kernel
theorem dX6_readPart_58 : decode cX6_readPart 58 = .ok (.iastore, 1) := by decide +kernel
theorem dX6_readPart_59 : decode cX6_readPart 59 = .ok (.aload_n 0, 1) := by decide +kernel
theorem dX6_readPart_60 : decode cX6_readPart 60 = .ok (.dup, 1) := by decide +kernel
theorem dX6_readPart_61 : decode cX6_readPart 61 = .ok (.getfield 72, 3) := by decide +kernel
theorem dX6_readPart_64 : decode cX6_readPart 64 = .ok (.iconst 1, 1) := by decide +kernel
theorem dX6_readPart_65 : decode cX6_readPart 65 = .ok (.iadd, 1) := by decide +kernel
theorem dX6_readPart_66 : decode cX6_readPart 66 = .ok (.putfield 72, 3) := by decide +kernel
theorem dX6_readPart_69 : decode cX6_readPart 69 = .ok (.goto 166, 3) := by decide +kernel
theorem dX6_readPart_72 : decode cX6_readPart 72 = .ok (.iload_n 1, 1) := by decide +kernel
theorem dX6_readPart_73 : decode cX6_readPart 73 = .ok (.bipush 83, 2) := by decide +kernel
theorem dX6_readPart_75 : decode cX6_readPart 75 = .ok (.if_icmp .ne 100, 3) := by decide +kernel
theorem dX6_readPart_78 : decode cX6_readPart 78 = .ok (.aload_n 0, 1) := by decide +kernel
theorem dX6_readPart_79 : decode cX6_readPart 79 = .ok (.getfield 75, 3) := by decide +kernel
theorem dX6_readPart_82 : decode cX6_readPart 82 = .ok (.bipush 8, 2) := by decide +kernel
theorem dX6_readPart_84 : decode cX6_readPart 84 = .ok (.if_icmp .ge 91, 3) := by decide +kernel
theorem dX6_readPart_87 : decode cX6_readPart 87 = .ok (.aload_n 0, 1) := by decide +kernel
theorem dX6_readPart_88 : decode cX6_readPart 88 = .ok (.getfield 72, 3) := by decide +kernel
theorem dX6_readPart_91 : decode cX6_readPart 91 = .ok (.ifCond .le 84, 3) := by decide +kernel
theorem dX6_readPart_94 : decode cX6_readPart 94 = .ok (.aload_n 0, 1) := by decide +kernel
theorem dX6_readPart_95 : decode cX6_readPart 95 = .ok (.dup, 1) := by decide +kernel
theorem dX6_readPart_96 : decode cX6_readPart 96 = .ok (.getfield 69, 3) := by decide +kernel
theorem dX6_readPart_99 : decode cX6_readPart 99 = .ok (.iconst 1, 1) := by decide +kernel
theorem dX6_readPart_100 : decode cX6_readPart 100 = .ok (.iadd, 1) := by decide +kernel
theorem dX6_readPart_101 : decode cX6_readPart 101 = .ok (.putfield 69, 3) := by decide +kernel
theorem dX6_readPart_104 : decode cX6_readPart 104 = .ok (.aload_n 0, 1) := by decide +kernel
theorem dX6_readPart_105 : decode cX6_readPart 105 = .ok (.getfield 28, 3) := by decide +kernel
theorem dX6_readPart_108 : decode cX6_readPart 108 = .ok (.iconst 3, 1) := by decide +kernel
theorem dX6_readPart_109 : decode cX6_readPart 109 = .ok (.aload_n 0, 1) := by decide +kernel
theorem dX6_readPart_110 : decode cX6_readPart 110 = .ok (.getfield 75, 3) := by decide +kernel
theorem dX6_readPart_113 : decode cX6_readPart 113 = .ok (.imul, 1) := by decide +kernel
theorem dX6_readPart_114 : decode cX6_readPart 114 = .ok (.aload_n 0, 1) := by decide +kernel
theorem dX6_readPart_115 : decode cX6_readPart 115 = .ok (.aload_n 0, 1) := by decide +kernel
theorem dX6_readPart_116 : decode cX6_readPart 116 = .ok (.getfield 72, 3) := by decide +kernel
theorem dX6_readPart_119 : decode cX6_readPart 119 = .ok (.iconst 1, 1) := by decide +kernel
theorem dX6_readPart_120 : decode cX6_readPart 120 = .ok (.isub, 1) := by decide +kernel
theorem dX6_readPart_121 : decode cX6_readPart 121 = .ok (.invokevirtual 85, 3) := by decide +kernel
theorem dX6_readPart_124 : decode cX6_readPart 124 = .ok (.iastore, 1) := by decide +kernel
theorem dX6_readPart_125 : decode cX6_readPart 125 = .ok (.aload_n 0, 1) := by decide +kernel
theorem dX6_readPart_126 : decode cX6_readPart 126 = .ok (.getfield 28, 3) := by decide +kernel
theorem dX6_readPart_129 : decode cX6_readPart 129 = .ok (.iconst 3, 1) := by decide +kernel
theorem dX6_readPart_130 : decode cX6_readPart 130 = .ok (.aload_n 0, 1) := by decide +kernel
theorem dX6_readPart_131 : decode cX6_readPart 131 = .ok (.getfield 75, 3) := by decide +kernel
theorem dX6_readPart_134 : decode cX6_readPart 134 = .ok (.imul, 1) := by decide +kernel
theorem dX6_readPart_135 : decode cX6_readPart 135 = .ok (.iconst 1, 1) := by decide +kernel
theorem dX6_readPart_136 : decode cX6_readPart 136 = .ok (.iadd, 1) := by decide +kernel
theorem dX6_readPart_137 : decode cX6_readPart 137 = .ok (.aload_n 0, 1) := by decide +kernel
theorem dX6_readPart_138 : decode cX6_readPart 138 = .ok (.iconst 5, 1) := by decide +kernel
theorem dX6_readPart_139 : decode cX6_readPart 139 = .ok (.invokevirtual 85, 3) := by decide +kernel
theorem dX6_readPart_142 : decode cX6_readPart 142 = .ok (.iastore, 1) := by decide +kernel
theorem dX6_readPart_143 : decode cX6_readPart 143 = .ok (.aload_n 0, 1) := by decide +kernel
theorem dX6_readPart_144 : decode cX6_readPart 144 = .ok (.getfield 28, 3) := by decide +kernel
theorem dX6_readPart_147 : decode cX6_readPart 147 = .ok (.iconst 3, 1) := by decide +kernel
theorem dX6_readPart_148 : decode cX6_readPart 148 = .ok (.aload_n 0, 1) := by decide +kernel
theorem dX6_readPart_149 : decode cX6_readPart 149 = .ok (.getfield 75, 3) := by decide +kernel
theorem dX6_readPart_152 : decode cX6_readPart 152 = .ok (.imul, 1) := by decide +kernel
theorem dX6_readPart_153 : decode cX6_readPart 153 = .ok (.iconst 2, 1) := by decide +kernel
theorem dX6_readPart_154 : decode cX6_readPart 154 = .ok (.iadd, 1) := by decide +kernel
theorem dX6_readPart_155 : decode cX6_readPart 155 = .ok (.aload_n 0, 1) := by decide +kernel
theorem dX6_readPart_156 : decode cX6_readPart 156 = .ok (.bipush 9, 2) := by decide +kernel
theorem dX6_readPart_158 : decode cX6_readPart 158 = .ok (.invokevirtual 85, 3) := by decide +kernel
theorem dX6_readPart_161 : decode cX6_readPart 161 = .ok (.iastore, 1) := by decide +kernel
theorem dX6_readPart_162 : decode cX6_readPart 162 = .ok (.aload_n 0, 1) := by decide +kernel
theorem dX6_readPart_163 : decode cX6_readPart 163 = .ok (.dup, 1) := by decide +kernel
theorem dX6_readPart_164 : decode cX6_readPart 164 = .ok (.getfield 75, 3) := by decide +kernel
theorem dX6_readPart_167 : decode cX6_readPart 167 = .ok (.iconst 1, 1) := by decide +kernel
theorem dX6_readPart_168 : decode cX6_readPart 168 = .ok (.iadd, 1) := by decide +kernel
theorem dX6_readPart_169 : decode cX6_readPart 169 = .ok (.putfield 75, 3) := by decide +kernel
theorem dX6_readPart_172 : decode cX6_readPart 172 = .ok (.goto 63, 3) := by decide +kernel
theorem dX6_readPart_175 : decode cX6_readPart 175 = .ok (.iload_n 1, 1) := by decide +kernel
theorem dX6_readPart_176 : decode cX6_readPart 176 = .ok (.bipush 82, 2) := by decide +kernel
theorem dX6_readPart_178 : decode cX6_readPart 178 = .ok (.if_icmp .ne 49, 3) := by decide +kernel
theorem dX6_readPart_181 : decode cX6_readPart 181 = .ok (.aload_n 0, 1) := by decide +kernel
theorem dX6_readPart_182 : decode cX6_readPart 182 = .ok (.getfield 78, 3) := by decide +kernel
theorem dX6_readPart_185 : decode cX6_readPart 185 = .ok (.iconst 4, 1) := by decide +kernel
theorem dX6_readPart_186 : decode cX6_readPart 186 = .ok (.if_icmp .ge 41, 3) := by decide +kernel
theorem dX6_readPart_189 : decode cX6_readPart 189 = .ok (.aload_n 0, 1) := by decide +kernel
theorem dX6_readPart_190 : decode cX6_readPart 190 = .ok (.dup, 1) := by decide +kernel
theorem dX6_readPart_191 : decode cX6_readPart 191 = .ok (.getfield 69, 3) := by decide +kernel
theorem dX6_readPart_194 : decode cX6_readPart 194 = .ok (.iconst 1, 1) := by decide +kernel
theorem dX6_readPart_195 : decode cX6_readPart 195 = .ok (.iadd, 1) := by decide +kernel
theorem dX6_readPart_196 : decode cX6_readPart 196 = .ok (.putfield 69, 3) := by decide +kernel
theorem dX6_readPart_199 : decode cX6_readPart 199 = .ok (.aload_n 0, 1) := by decide +kernel
theorem dX6_readPart_200 : decode cX6_readPart 200 = .ok (.getfield 31, 3) := by decide +kernel
theorem dX6_readPart_203 : decode cX6_readPart 203 = .ok (.aload_n 0, 1) := by decide +kernel
theorem dX6_readPart_204 : decode cX6_readPart 204 = .ok (.getfield 78, 3) := by decide +kernel
theorem dX6_readPart_207 : decode cX6_readPart 207 = .ok (.aload_n 0, 1) := by decide +kernel
theorem dX6_readPart_208 : decode cX6_readPart 208 = .ok (.bipush 9, 2) := by decide +kernel
theorem dX6_readPart_210 : decode cX6_readPart 210 = .ok (.invokevirtual 85, 3) := by decide +kernel
theorem dX6_readPart_213 : decode cX6_readPart 213 = .ok (.iastore, 1) := by decide +kernel
theorem dX6_readPart_214 : decode cX6_readPart 214 = .ok (.aload_n 0, 1) := by decide +kernel
theorem dX6_readPart_215 : decode cX6_readPart 215 = .ok (.dup, 1) := by decide +kernel
theorem dX6_readPart_216 : decode cX6_readPart 216 = .ok (.getfield 78, 3) := by decide +kernel
theorem dX6_readPart_219 : decode cX6_readPart 219 = .ok (.iconst 1, 1) := by decide +kernel
theorem dX6_readPart_220 : decode cX6_readPart 220 = .ok (.iadd, 1) := by decide +kernel
theorem dX6_readPart_221 : decode cX6_readPart 221 = .ok (.putfield 78, 3) := by decide +kernel
theorem dX6_readPart_224 : decode cX6_readPart 224 = .ok (.goto 11, 3) := by decide +kernel
theorem dX6_readPart_227 : decode cX6_readPart 227 = .ok (.aload_n 0, 1) := by decide +kernel
theorem dX6_readPart_228 : decode cX6_readPart 228 = .ok (.aload_n 0, 1) := by decide +kernel
theorem dX6_readPart_229 : decode cX6_readPart 229 = .ok (.getfield 69, 3) := by decide +kernel
theorem dX6_readPart_232 : decode cX6_readPart 232 = .ok (.putfield 66, 3) := by decide +kernel
theorem dX6_readPart_235 : decode cX6_readPart 235 = .ok (.return_, 1) := by decide +kernel
set_option maxRecDepth 20000 in
theorem ggX6_fault_X6_readText : GoodIn wsX6_fault wsX6_readText := goodIn_r _ [5, 6, 7, 8, 9, 10, 11, 12, 13, 14, 15, 4, 16, 17, 18, 19, 20, 21, 22, 23, 24, 25, 26, 27, 28, 29, 30, 31, 32, 33, 34, 35, 36, 37, 38, 39, 40, 41, 42, 43, 44, 45, 46, 47, 48, 49, 50, 51, 52, 53, 54] (by decide +kernel) (by decide +kernel)
set_option maxRecDepth 20000 in
theorem gX6_fault_X6_readText : GoodIn wsX6_fault (wsV RX6 89 RX6 yX6_readText wsX6_readText) := goodIn_app (goodIn_of _ (by decide +kernel)) ggX6_fault_X6_readText
theorem dX6_fault_0 : decode cX6_fault 0 = .ok (.aload_n 0, 1) := by decide +kernel
theorem dX6_fault_1 : decode cX6_fault 1 = .ok (.invokevirtual 89, 3) := by decide +kernel
theorem dX6_fault_4 : decode cX6_fault 4 = .ok (.ireturn, 1) := by decide +kernel
set_option maxRecDepth 20000 in
theorem ggX6_lane_X6_readText : GoodIn wsX6_lane wsX6_readText := goodIn_r _ [21, 22, 23, 1, 3, 5, 24, 25, 26, 27, 28, 20, 29, 9, 12, 14, 30, 31, 32, 33, 34, 35, 36, 37, 38, 39, 40, 41, 42, 43, 44, 45, 46, 47, 48, 49, 50, 51, 52, 53, 54, 55, 56, 57, 58, 59, 60, 61, 62, 63, 64] (by decide +kernel) (by decide +kernel)
set_option maxRecDepth 20000 in
theorem gX6_lane_X6_readText : GoodIn wsX6_lane (wsV RX6 89 RX6 yX6_readText wsX6_readText) := goodIn_app (goodIn_of _ (by decide +kernel)) ggX6_lane_X6_readText
theorem dX6_lane_0 : decode cX6_lane 0 = .ok (.aload_n 0, 1) := by decide +kernel
theorem dX6_lane_1 : decode cX6_lane 1 = .ok (.invokevirtual 89, 3) := by decide +kernel
theorem dX6_lane_4 : decode cX6_lane 4 = .ok (.bipush (-9), 2) := by decide +kernel
theorem dX6_lane_6 : decode cX6_lane 6 = .ok (.if_icmp .eq 6, 3) := by decide +kernel
theorem dX6_lane_9 : decode cX6_lane 9 = .ok (.bipush (-3), 2) := by decide +kernel
theorem dX6_lane_11 : decode cX6_lane 11 = .ok (.ireturn, 1) := by decide +kernel
theorem dX6_lane_12 : decode cX6_lane 12 = .ok (.aload_n 0, 1) := by decide +kernel
theorem dX6_lane_13 : decode cX6_lane 13 = .ok (.aload_n 0, 1) := by decide +kernel
theorem dX6_lane_14 : decode cX6_lane 14 = .ok (.getfield 72, 3) := by decide +kernel
theorem dX6_lane_17 : decode cX6_lane 17 = .ok (.putfield 93, 3) := by decide +kernel
theorem dX6_lane_20 : decode cX6_lane 20 = .ok (.aload_n 0, 1) := by decide +kernel
theorem dX6_lane_21 : decode cX6_lane 21 = .ok (.aload_n 0, 1) := by decide +kernel
theorem dX6_lane_22 : decode cX6_lane 22 = .ok (.getfield 75, 3) := by decide +kernel
theorem dX6_lane_25 : decode cX6_lane 25 = .ok (.putfield 96, 3) := by decide +kernel
theorem dX6_lane_28 : decode cX6_lane 28 = .ok (.aload_n 0, 1) := by decide +kernel
theorem dX6_lane_29 : decode cX6_lane 29 = .ok (.aload_n 0, 1) := by decide +kernel
theorem dX6_lane_30 : decode cX6_lane 30 = .ok (.getfield 78, 3) := by decide +kernel
theorem dX6_lane_33 : decode cX6_lane 33 = .ok (.putfield 99, 3) := by decide +kernel
theorem dX6_lane_36 : decode cX6_lane 36 = .ok (.iconst 0, 1) := by decide +kernel
theorem dX6_lane_37 : decode cX6_lane 37 = .ok (.istore_n 1, 1) := by decide +kernel
theorem dX6_lane_38 : decode cX6_lane 38 = .ok (.iload_n 1, 1) := by decide +kernel
theorem dX6_lane_39 : decode cX6_lane 39 = .ok (.bipush 17, 2) := by decide +kernel
theorem dX6_lane_41 : decode cX6_lane 41 = .ok (.if_icmp .ge 25, 3) := by decide +kernel
theorem dX6_lane_44 : decode cX6_lane 44 = .ok (.aload_n 0, 1) := by decide +kernel
theorem dX6_lane_45 : decode cX6_lane 45 = .ok (.getfield 22, 3) := by decide +kernel
theorem dX6_lane_48 : decode cX6_lane 48 = .ok (.iload_n 1, 1) := by decide +kernel
theorem dX6_lane_49 : decode cX6_lane 49 = .ok (.iload_n 1, 1) := by decide +kernel
theorem dX6_lane_50 : decode cX6_lane 50 = .ok (.iconst 5, 1) := by decide +kernel
theorem dX6_lane_51 : decode cX6_lane 51 = .ok (.if_icmp .ge 7, 3) := by decide +kernel
theorem dX6_lane_54 : decode cX6_lane 54 = .ok (.iload_n 1, 1) := by decide +kernel
theorem dX6_lane_55 : decode cX6_lane 55 = .ok (.goto 4, 3) := by decide +kernel
theorem dX6_lane_58 : decode cX6_lane 58 = .ok (.iconst 0, 1) := by decide +kernel
theorem dX6_lane_59 : decode cX6_lane 59 = .ok (.iastore, 1) := by decide +kernel
theorem dX6_lane_60 : decode cX6_lane 60 = .ok (.iinc 1 1, 3) := by decide +kernel
theorem dX6_lane_63 : decode cX6_lane 63 = .ok (.goto (-25), 3) := by decide +kernel
theorem dX6_lane_66 : decode cX6_lane 66 = .ok (.iconst 0, 1) := by decide +kernel
theorem dX6_lane_67 : decode cX6_lane 67 = .ok (.istore_n 1, 1) := by decide +kernel
theorem dX6_lane_68 : decode cX6_lane 68 = .ok (.iload_n 1, 1) := by decide +kernel
theorem dX6_lane_69 : decode cX6_lane 69 = .ok (.aload_n 0, 1) := by decide +kernel
theorem dX6_lane_70 : decode cX6_lane 70 = .ok (.getfield 93, 3) := by decide +kernel
theorem dX6_lane_73 : decode cX6_lane 73 = .ok (.if_icmp .ge 39, 3) := by decide +kernel
theorem dX6_lane_76 : decode cX6_lane 76 = .ok (.aload_n 0, 1) := by decide +kernel
theorem dX6_lane_77 : decode cX6_lane 77 = .ok (.getfield 7, 3) := by decide +kernel
theorem dX6_lane_80 : decode cX6_lane 80 = .ok (.iload_n 1, 1) := by decide +kernel
theorem dX6_lane_81 : decode cX6_lane 81 = .ok (.aload_n 0, 1) := by decide +kernel
theorem dX6_lane_82 : decode cX6_lane 82 = .ok (.getfield 25, 3) := by decide +kernel
theorem dX6_lane_85 : decode cX6_lane 85 = .ok (.iconst 2, 1) := by decide +kernel
theorem dX6_lane_86 : decode cX6_lane 86 = .ok (.iload_n 1, 1) := by decide +kernel
theorem dX6_lane_87 : decode cX6_lane 87 = .ok (.imul, 1) := by decide +kernel
theorem dX6_lane_88 : decode cX6_lane 88 = .ok (.iaload, 1) := by decide +kernel
theorem dX6_lane_89 : decode cX6_lane 89 = .ok (.iastore, 1) := by decide +kernel
theorem dX6_lane_90 : decode cX6_lane 90 = .ok (.aload_n 0, 1) := by decide +kernel
theorem dX6_lane_91 : decode cX6_lane 91 = .ok (.getfield 13, 3) := by decide +kernel
theorem dX6_lane_94 : decode cX6_lane 94 = .ok (.iload_n 1, 1) := by decide +kernel
theorem dX6_lane_95 : decode cX6_lane 95 = .ok (.aload_n 0, 1) := by decide +kernel
theorem dX6_lane_96 : decode cX6_lane 96 = .ok (.getfield 25, 3) := by decide +kernel
theorem dX6_lane_99 : decode cX6_lane 99 = .ok (.iconst 2, 1) := by decide +kernel
theorem dX6_lane_100 : decode cX6_lane 100 = .ok (.iload_n 1, 1) := by decide +kernel
theorem dX6_lane_101 : decode cX6_lane 101 = .ok (.imul, 1) := by decide +kernel
theorem dX6_lane_102 : decode cX6_lane 102 = .ok (.iconst 1, 1) := by decide +kernel
theorem dX6_lane_103 : decode cX6_lane 103 = .ok (.iadd, 1) := by decide +kernel
theorem dX6_lane_104 : decode cX6_lane 104 = .ok (.iaload, 1) := by decide +kernel
theorem dX6_lane_105 : decode cX6_lane 105 = .ok (.iastore, 1) := by decide +kernel
theorem dX6_lane_106 : decode cX6_lane 106 = .ok (.iinc 1 1, 3) := by decide +kernel
theorem dX6_lane_109 : decode cX6_lane 109 = .ok (.goto (-41), 3) := by decide +kernel
theorem dX6_lane_112 : decode cX6_lane 112 = .ok (.iconst 0, 1) := by decide +kernel
theorem dX6_lane_113 : decode cX6_lane 113 = .ok (.istore_n 1, 1) := by decide +kernel
theorem dX6_lane_114 : decode cX6_lane 114 = .ok (.iload_n 1, 1) := by decide +kernel
theorem dX6_lane_115 : decode cX6_lane 115 = .ok (.iconst 3, 1) := by decide +kernel
theorem dX6_lane_116 : decode cX6_lane 116 = .ok (.aload_n 0, 1) := by decide +kernel
theorem dX6_lane_117 : decode cX6_lane 117 = .ok (.getfield 96, 3) := by decide +kernel
theorem dX6_lane_120 : decode cX6_lane 120 = .ok (.imul, 1) := by decide +kernel
theorem dX6_lane_121 : decode cX6_lane 121 = .ok (.if_icmp .ge 21, 3) := by decide +kernel
theorem dX6_lane_124 : decode cX6_lane 124 = .ok (.aload_n 0, 1) := by decide +kernel
theorem dX6_lane_125 : decode cX6_lane 125 = .ok (.getfield 16, 3) := by decide +kernel
theorem dX6_lane_128 : decode cX6_lane 128 = .ok (.iload_n 1, 1) := by decide +kernel
theorem dX6_lane_129 : decode cX6_lane 129 = .ok (.aload_n 0, 1) := by decide +kernel
theorem dX6_lane_130 : decode cX6_lane 130 = .ok (.getfield 28, 3) := by decide +kernel
theorem dX6_lane_133 : decode cX6_lane 133 = .ok (.iload_n 1, 1) := by decide +kernel
theorem dX6_lane_134 : decode cX6_lane 134 = .ok (.iaload, 1) := by decide +kernel
theorem dX6_lane_135 : decode cX6_lane 135 = .ok (.iastore, 1) := by decide +kernel
theorem dX6_lane_136 : decode cX6_lane 136 = .ok (.iinc 1 1, 3) := by decide +kernel
theorem dX6_lane_139 : decode cX6_lane 139 = .ok (.goto (-25), 3) := by decide +kernel
theorem dX6_lane_142 : decode cX6_lane 142 = .ok (.iconst 0, 1) := by decide +kernel
theorem dX6_lane_143 : decode cX6_lane 143 = .ok (.istore_n 1, 1) := by decide +kernel
theorem dX6_lane_144 : decode cX6_lane 144 = .ok (.iload_n 1, 1) := by decide +kernel
theorem dX6_lane_145 : decode cX6_lane 145 = .ok (.aload_n 0, 1) := by decide +kernel
theorem dX6_lane_146 : decode cX6_lane 146 = .ok (.getfield 99, 3) := by decide +kernel
theorem dX6_lane_149 : decode cX6_lane 149 = .ok (.if_icmp .ge 21, 3) := by decide +kernel
theorem dX6_lane_152 : decode cX6_lane 152 = .ok (.aload_n 0, 1) := by decide +kernel
theorem dX6_lane_153 : decode cX6_lane 153 = .ok (.getfield 19, 3) := by decide +kernel
theorem dX6_lane_156 : decode cX6_lane 156 = .ok (.iload_n 1, 1) := by decide +kernel
theorem dX6_lane_157 : decode cX6_lane 157 = .ok (.aload_n 0, 1) := by decide +kernel
theorem dX6_lane_158 : decode cX6_lane 158 = .ok (.getfield 31, 3) := by decide +kernel
theorem dX6_lane_161 : decode cX6_lane 161 = .ok (.iload_n 1, 1) := by decide +kernel
theorem dX6_lane_162 : decode cX6_lane 162 = .ok (.iaload, 1) := by decide +kernel
theorem dX6_lane_163 : decode cX6_lane 163 = .ok (.iastore, 1) := by decide +kernel
theorem dX6_lane_164 : decode cX6_lane 164 = .ok (.iinc 1 1, 3) := by decide +kernel
theorem dX6_lane_167 : decode cX6_lane 167 = .ok (.goto (-23), 3) := by decide +kernel
theorem dX6_lane_170 : decode cX6_lane 170 = .ok (.aload_n 0, 1) := by decide +kernel
theorem dX6_lane_171 : decode cX6_lane 171 = .ok (.iconst 0, 1) := by decide +kernel
theorem dX6_lane_172 : decode cX6_lane 172 = .ok (.putfield 102, 3) := by decide +kernel
theorem dX6_lane_175 : decode cX6_lane 175 = .ok (.aload_n 0, 1) := by decide +kernel
theorem dX6_lane_176 : decode cX6_lane 176 = .ok (.getfield 49, 3) := by decide +kernel
theorem dX6_lane_179 : decode cX6_lane 179 = .ok (.iconst 0, 1) := by decide +kernel
theorem dX6_lane_180 : decode cX6_lane 180 = .ok (.iconst 0, 1) := by decide +kernel
theorem dX6_lane_181 : decode cX6_lane 181 = .ok (.bastore, 1) := by decide +kernel
theorem dX6_lane_182 : decode cX6_lane 182 = .ok (.aload_n 0, 1) := by decide +kernel
theorem dX6_lane_183 : decode cX6_lane 183 = .ok (.getfield 49, 3) := by decide +kernel
theorem dX6_lane_186 : decode cX6_lane 186 = .ok (.iconst 1, 1) := by decide +kernel
theorem dX6_lane_187 : decode cX6_lane 187 = .ok (.iconst 0, 1) := by decide +kernel
theorem dX6_lane_188 : decode cX6_lane 188 = .ok (.bastore, 1) := by decide +kernel
theorem dX6_lane_189 : decode cX6_lane 189 = .ok (.bipush 100, 2) := by decide +kernel
theorem dX6_lane_191 : decode cX6_lane 191 = .ok (.aload_n 0, 1) := by decide +kernel
theorem dX6_lane_192 : decode cX6_lane 192 = .ok (.getfield 93, 3) := by decide +kernel
theorem dX6_lane_195 : decode cX6_lane 195 = .ok (.imul, 1) := by decide +kernel
theorem dX6_lane_196 : decode cX6_lane 196 = .ok (.bipush 10, 2) := by decide +kernel
theorem dX6_lane_198 : decode cX6_lane 198 = .ok (.aload_n 0, 1) := by decide +kernel
theorem dX6_lane_199 : decode cX6_lane 199 = .ok (.getfield 96, 3) := by decide +kernel
theorem dX6_lane_202 : decode cX6_lane 202 = .ok (.imul, 1) := by decide +kernel
theorem dX6_lane_203 : decode cX6_lane 203 = .ok (.iadd, 1) := by decide +kernel
theorem dX6_lane_204 : decode cX6_lane 204 = .ok (.aload_n 0, 1) := by decide +kernel
theorem dX6_lane_205 : decode cX6_lane 205 = .ok (.getfield 99, 3) := by decide +kernel
theorem dX6_lane_208 : decode cX6_lane 208 = .ok (.iadd, 1) := by decide +kernel
theorem dX6_lane_209 : decode cX6_lane 209 = .ok (.ireturn, 1) := by decide +kernel
set_option maxRecDepth 20000 in
theorem ggX6_isHouse_X6_in : GoodIn wsX6_isHouse wsX6_in := goodIn_r _ [5] (by decide +kernel) (by decide +kernel)
set_option maxRecDepth 20000 in
theorem gX6_isHouse_X6_in : GoodIn wsX6_isHouse (va_wsS RX6 58 yX6_in wsX6_in) := goodIn_app (goodIn_of _ (by decide +kernel)) ggX6_isHouse_X6_in
theorem dX6_isHouse_0 : decode cX6_isHouse 0 = .ok (.iload_n 1, 1) := by decide +kernel
theorem dX6_isHouse_1 : decode cX6_isHouse 1 = .ok (.i2l, 1) := by decide +kernel
theorem dX6_isHouse_2 : decode cX6_isHouse 2 = .ok (.lconst 0, 1) := by decide +kernel
theorem dX6_isHouse_3 : decode cX6_isHouse 3 = .ok (.aload_n 0, 1) := by decide +kernel
theorem dX6_isHouse_4 : decode cX6_isHouse 4 = .ok (.getfield 93, 3) := by decide +kernel
theorem dX6_isHouse_7 : decode cX6_isHouse 7 = .ok (.iconst 1, 1) := by decide +kernel
theorem dX6_isHouse_8 : decode cX6_isHouse 8 = .ok (.isub, 1) := by decide +kernel
theorem dX6_isHouse_9 : decode cX6_isHouse 9 = .ok (.i2l, 1) := by decide +kernel
theorem dX6_isHouse_10 : decode cX6_isHouse 10 = .ok (.invokestatic 58, 3) := by decide +kernel
theorem dX6_isHouse_13 : decode cX6_isHouse 13 = .ok (.ireturn, 1) := by decide +kernel
set_option maxRecDepth 20000 in
theorem ggX6_isThing_X6_in : GoodIn wsX6_isThing wsX6_in := goodIn_r _ [5] (by decide +kernel) (by decide +kernel)
set_option maxRecDepth 20000 in
theorem gX6_isThing_X6_in : GoodIn wsX6_isThing (va_wsS RX6 58 yX6_in wsX6_in) := goodIn_app (goodIn_of _ (by decide +kernel)) ggX6_isThing_X6_in
theorem dX6_isThing_0 : decode cX6_isThing 0 = .ok (.iload_n 0, 1) := by decide +kernel
theorem dX6_isThing_1 : decode cX6_isThing 1 = .ok (.i2l, 1) := by decide +kernel
theorem dX6_isThing_2 : decode cX6_isThing 2 = .ok (.lconst 0, 1) := by decide +kernel
theorem dX6_isThing_3 : decode cX6_isThing 3 = .ok (.ldc2_w 105, 3) := by decide +kernel
theorem dX6_isThing_6 : decode cX6_isThing 6 = .ok (.invokestatic 58, 3) := by decide +kernel
theorem dX6_isThing_9 : decode cX6_isThing 9 = .ok (.ireturn, 1) := by decide +kernel
theorem dX6_rainOn_0 : decode cX6_rainOn 0 = .ok (.aload_n 0, 1) := by decide +kernel
theorem dX6_rainOn_1 : decode cX6_rainOn 1 = .ok (.getfield 99, 3) := by decide +kernel
theorem dX6_rainOn_4 : decode cX6_rainOn 4 = .ok (.ifCond .ne 7, 3) := by decide +kernel
theorem dX6_rainOn_7 : decode cX6_rainOn 7 = .ok (.iconst 0, 1) := by decide +kernel
theorem dX6_rainOn_8 : decode cX6_rainOn 8 = .ok (.goto 25, 3) := by decide +kernel
theorem dX6_rainOn_11 : decode cX6_rainOn 11 = .ok (.aload_n 0, 1) := by decide +kernel
theorem dX6_rainOn_12 : decode cX6_rainOn 12 = .ok (.getfield 19, 3) := by decide +kernel
theorem dX6_rainOn_15 : decode cX6_rainOn 15 = .ok (.aload_n 0, 1) := by decide +kernel
theorem dX6_rainOn_16 : decode cX6_rainOn 16 = .ok (.getfield 22, 3) := by decide +kernel
theorem dX6_rainOn_19 : decode cX6_rainOn 19 = .ok (.bipush 17, 2) := by decide +kernel
theorem dX6_rainOn_21 : decode cX6_rainOn 21 = .ok (.iload_n 1, 1) := by decide +kernel
theorem dX6_rainOn_22 : decode cX6_rainOn 22 = .ok (.imul, 1) := by decide +kernel
theorem dX6_rainOn_23 : decode cX6_rainOn 23 = .ok (.bipush 15, 2) := by decide +kernel
theorem dX6_rainOn_25 : decode cX6_rainOn 25 = .ok (.iadd, 1) := by decide +kernel
theorem dX6_rainOn_26 : decode cX6_rainOn 26 = .ok (.iaload, 1) := by decide +kernel
theorem dX6_rainOn_27 : decode cX6_rainOn 27 = .ok (.aload_n 0, 1) := by decide +kernel
theorem dX6_rainOn_28 : decode cX6_rainOn 28 = .ok (.getfield 99, 3) := by decide +kernel
theorem dX6_rainOn_31 : decode cX6_rainOn 31 = .ok (.irem, 1) := by decide +kernel
theorem dX6_rainOn_32 : decode cX6_rainOn 32 = .ok (.iaload, 1) := by decide +kernel
theorem dX6_rainOn_33 : decode cX6_rainOn 33 = .ok (.ireturn, 1) := by decide +kernel
theorem dX6_sayingOn_0 : decode cX6_sayingOn 0 = .ok (.aload_n 0, 1) := by decide +kernel
theorem dX6_sayingOn_1 : decode cX6_sayingOn 1 = .ok (.getfield 96, 3) := by decide +kernel
theorem dX6_sayingOn_4 : decode cX6_sayingOn 4 = .ok (.ifCond .ne 8, 3) := by decide +kernel
theorem dX6_sayingOn_7 : decode cX6_sayingOn 7 = .ok (.bipush (-9), 2) := by decide +kernel
theorem dX6_sayingOn_9 : decode cX6_sayingOn 9 = .ok (.goto 20, 3) := by decide +kernel
theorem dX6_sayingOn_12 : decode cX6_sayingOn 12 = .ok (.aload_n 0, 1) := by decide +kernel
theorem dX6_sayingOn_13 : decode cX6_sayingOn 13 = .ok (.getfield 22, 3) := by decide +kernel
theorem dX6_sayingOn_16 : decode cX6_sayingOn 16 = .ok (.bipush 17, 2) := by decide +kernel
theorem dX6_sayingOn_18 : decode cX6_sayingOn 18 = .ok (.iload_n 1, 1) := by decide +kernel
theorem dX6_sayingOn_19 : decode cX6_sayingOn 19 = .ok (.imul, 1) := by decide +kernel
theorem dX6_sayingOn_20 : decode cX6_sayingOn 20 = .ok (.bipush 15, 2) := by decide +kernel
theorem dX6_sayingOn_22 : decode cX6_sayingOn 22 = .ok (.iadd, 1) := by decide +kernel
theorem dX6_sayingOn_23 : decode cX6_sayingOn 23 = .ok (.iaload, 1) := by decide +kernel
theorem dX6_sayingOn_24 : decode cX6_sayingOn 24 = .ok (.aload_n 0, 1) := by decide +kernel
theorem dX6_sayingOn_25 : decode cX6_sayingOn 25 = .ok (.getfield 96, 3) := by decide +kernel
theorem dX6_sayingOn_28 : decode cX6_sayingOn 28 = .ok (.irem, 1) := by decide +kernel
theorem dX6_sayingOn_29 : decode cX6_sayingOn 29 = .ok (.ireturn, 1) := by decide +kernel
theorem dX6_earOf_0 : decode cX6_earOf 0 = .ok (.iload_n 0, 1) := by decide +kernel
theorem dX6_earOf_1 : decode cX6_earOf 1 = .ok (.iconst 1, 1) := by decide +kernel
theorem dX6_earOf_2 : decode cX6_earOf 2 = .ok (.if_icmp .ne 7, 3) := by decide +kernel
theorem dX6_earOf_5 : decode cX6_earOf 5 = .ok (.iconst 2, 1) := by decide +kernel
theorem dX6_earOf_6 : decode cX6_earOf 6 = .ok (.goto 14, 3) := by decide +kernel
theorem dX6_earOf_9 : decode cX6_earOf 9 = .ok (.iload_n 0, 1) := by decide +kernel
theorem dX6_earOf_10 : decode cX6_earOf 10 = .ok (.iconst 2, 1) := by decide +kernel
theorem dX6_earOf_11 : decode cX6_earOf 11 = .ok (.if_icmp .ne 8, 3) := by decide +kernel
theorem dX6_earOf_14 : decode cX6_earOf 14 = .ok (.bipush (-2), 2) := by decide +kernel
theorem dX6_earOf_16 : decode cX6_earOf 16 = .ok (.goto 4, 3) := by decide +kernel
theorem dX6_earOf_19 : decode cX6_earOf 19 = .ok (.iconst 0, 1) := by decide +kernel
theorem dX6_earOf_20 : decode cX6_earOf 20 = .ok (.ireturn, 1) := by decide +kernel
theorem dX6_isStrayed_0 : decode cX6_isStrayed 0 = .ok (.aload_n 0, 1) := by decide +kernel
theorem dX6_isStrayed_1 : decode cX6_isStrayed 1 = .ok (.getfield 22, 3) := by decide +kernel
theorem dX6_isStrayed_4 : decode cX6_isStrayed 4 = .ok (.bipush 17, 2) := by decide +kernel
theorem dX6_isStrayed_6 : decode cX6_isStrayed 6 = .ok (.iload_n 1, 1) := by decide +kernel
theorem dX6_isStrayed_7 : decode cX6_isStrayed 7 = .ok (.imul, 1) := by decide +kernel
theorem dX6_isStrayed_8 : decode cX6_isStrayed 8 = .ok (.bipush 16, 2) := by decide +kernel
theorem dX6_isStrayed_10 : decode cX6_isStrayed 10 = .ok (.iadd, 1) := by decide +kernel
theorem dX6_isStrayed_11 : decode cX6_isStrayed 11 = .ok (.iaload, 1) := by decide +kernel
theorem dX6_isStrayed_12 : decode cX6_isStrayed 12 = .ok (.iconst 3, 1) := by decide +kernel
theorem dX6_isStrayed_13 : decode cX6_isStrayed 13 = .ok (.if_icmp .lt 7, 3) := by decide +kernel
theorem dX6_isStrayed_16 : decode cX6_isStrayed 16 = .ok (.iconst 1, 1) := by decide +kernel
theorem dX6_isStrayed_17 : decode cX6_isStrayed 17 = .ok (.goto 4, 3) := by decide +kernel
theorem dX6_isStrayed_20 : decode cX6_isStrayed 20 = .ok (.iconst 0, 1) := by decide +kernel
theorem dX6_isStrayed_21 : decode cX6_isStrayed 21 = .ok (.ireturn, 1) := by decide +kernel
set_option maxRecDepth 20000 in
theorem ggX6_hears_X6_isStrayed : GoodIn wsX6_hears wsX6_isStrayed := goodIn_r _ [9, 3, 13, 14, 15, 16, 17, 18, 19, 20, 21, 22, 23, 24, 25, 26, 27, 28, 29, 30, 31, 32, 33, 34, 35, 36, 37, 38, 39, 40] (by decide +kernel) (by decide +kernel)
set_option maxRecDepth 20000 in
theorem gX6_hears_X6_isStrayed : GoodIn wsX6_hears (wsV RX6 107 RX6 yX6_isStrayed wsX6_isStrayed) := goodIn_app (goodIn_of _ (by decide +kernel)) ggX6_hears_X6_isStrayed
set_option maxRecDepth 20000 in
theorem ggX6_hears_X6_earOf : GoodIn wsX6_hears wsX6_earOf := goodIn_r _ [12] (by decide +kernel) (by decide +kernel)
set_option maxRecDepth 20000 in
theorem gX6_hears_X6_earOf : GoodIn wsX6_hears (va_wsS RX6 111 yX6_earOf wsX6_earOf) := goodIn_app (goodIn_of _ (by decide +kernel)) ggX6_hears_X6_earOf
theorem dX6_hears_0 : decode cX6_hears 0 = .ok (.iload_n 3, 1) := by decide +kernel
theorem dX6_hears_1 : decode cX6_hears 1 = .ok (.bipush (-9), 2) := by decide +kernel
theorem dX6_hears_3 : decode cX6_hears 3 = .ok (.if_icmp .eq 11, 3) := by decide +kernel
theorem dX6_hears_6 : decode cX6_hears 6 = .ok (.aload_n 0, 1) := by decide +kernel
theorem dX6_hears_7 : decode cX6_hears 7 = .ok (.iload_n 1, 1) := by decide +kernel
theorem dX6_hears_8 : decode cX6_hears 8 = .ok (.invokevirtual 107, 3) := by decide +kernel
theorem dX6_hears_11 : decode cX6_hears 11 = .ok (.ifCond .eq 5, 3) := by decide +kernel
theorem dX6_hears_14 : decode cX6_hears 14 = .ok (.iconst 0, 1) := by decide +kernel
theorem dX6_hears_15 : decode cX6_hears 15 = .ok (.ireturn, 1) := by decide +kernel
theorem dX6_hears_16 : decode cX6_hears 16 = .ok (.bipush 17, 2) := by decide +kernel
theorem dX6_hears_18 : decode cX6_hears 18 = .ok (.iload_n 1, 1) := by decide +kernel
theorem dX6_hears_19 : decode cX6_hears 19 = .ok (.imul, 1) := by decide +kernel
theorem dX6_hears_20 : decode cX6_hears 20 = .ok (.istore 5, 2) := by decide +kernel
theorem dX6_hears_22 : decode cX6_hears 22 = .ok (.aload_n 0, 1) := by decide +kernel
theorem dX6_hears_23 : decode cX6_hears 23 = .ok (.getfield 16, 3) := by decide +kernel
theorem dX6_hears_26 : decode cX6_hears 26 = .ok (.iconst 3, 1) := by decide +kernel
theorem dX6_hears_27 : decode cX6_hears 27 = .ok (.iload_n 3, 1) := by decide +kernel
theorem dX6_hears_28 : decode cX6_hears 28 = .ok (.imul, 1) := by decide +kernel
theorem dX6_hears_29 : decode cX6_hears 29 = .ok (.iaload, 1) := by decide +kernel
theorem dX6_hears_30 : decode cX6_hears 30 = .ok (.istore 6, 2) := by decide +kernel
theorem dX6_hears_32 : decode cX6_hears 32 = .ok (.aload_n 0, 1) := by decide +kernel
theorem dX6_hears_33 : decode cX6_hears 33 = .ok (.getfield 7, 3) := by decide +kernel
theorem dX6_hears_36 : decode cX6_hears 36 = .ok (.aload_n 0, 1) := by decide +kernel
theorem dX6_hears_37 : decode cX6_hears 37 = .ok (.getfield 22, 3) := by decide +kernel
theorem dX6_hears_40 : decode cX6_hears 40 = .ok (.iload 5, 2) := by decide +kernel
theorem dX6_hears_42 : decode cX6_hears 42 = .ok (.iload_n 2, 1) := by decide +kernel
theorem dX6_hears_43 : decode cX6_hears 43 = .ok (.iadd, 1) := by decide +kernel
theorem dX6_hears_44 : decode cX6_hears 44 = .ok (.iaload, 1) := by decide +kernel
theorem dX6_hears_45 : decode cX6_hears 45 = .ok (.iaload, 1) := by decide +kernel
theorem dX6_hears_46 : decode cX6_hears 46 = .ok (.istore 7, 2) := by decide +kernel
theorem dX6_hears_48 : decode cX6_hears 48 = .ok (.iload 7, 2) := by decide +kernel
theorem dX6_hears_50 : decode cX6_hears 50 = .ok (.iconst 3, 1) := by decide +kernel
theorem dX6_hears_51 : decode cX6_hears 51 = .ok (.if_icmp .ne 11, 3) := by decide +kernel
theorem dX6_hears_54 : decode cX6_hears 54 = .ok (.iload_n 2, 1) := by decide +kernel
theorem dX6_hears_55 : decode cX6_hears 55 = .ok (.iload 6, 2) := by decide +kernel
theorem dX6_hears_57 : decode cX6_hears 57 = .ok (.if_icmp .ne 5, 3) := by decide +kernel
theorem dX6_hears_60 : decode cX6_hears 60 = .ok (.iconst 1, 1) := by decide +kernel
theorem dX6_hears_61 : decode cX6_hears 61 = .ok (.ireturn, 1) := by decide +kernel
theorem dX6_hears_62 : decode cX6_hears 62 = .ok (.iload_n 2, 1) := by decide +kernel
theorem dX6_hears_63 : decode cX6_hears 63 = .ok (.iload 6, 2) := by decide +kernel
theorem dX6_hears_65 : decode cX6_hears 65 = .ok (.if_icmp .le 10, 3) := by decide +kernel
theorem dX6_hears_68 : decode cX6_hears 68 = .ok (.iload_n 2, 1) := by decide +kernel
theorem dX6_hears_69 : decode cX6_hears 69 = .ok (.iload 6, 2) := by decide +kernel
theorem dX6_hears_71 : decode cX6_hears 71 = .ok (.isub, 1) := by decide +kernel
theorem dX6_hears_72 : decode cX6_hears 72 = .ok (.goto 7, 3) := by decide +kernel
theorem dX6_hears_75 : decode cX6_hears 75 = .ok (.iload 6, 2) := by decide +kernel
theorem dX6_hears_77 : decode cX6_hears 77 = .ok (.iload_n 2, 1) := by decide +kernel
theorem dX6_hears_78 : decode cX6_hears 78 = .ok (.isub, 1) := by decide +kernel
theorem dX6_hears_79 : decode cX6_hears 79 = .ok (.istore 8, 2) := by decide +kernel
theorem dX6_hears_81 : decode cX6_hears 81 = .ok (.aload_n 0, 1) := by decide +kernel
theorem dX6_hears_82 : decode cX6_hears 82 = .ok (.getfield 16, 3) := by decide +kernel
theorem dX6_hears_85 : decode cX6_hears 85 = .ok (.iconst 3, 1) := by decide +kernel
theorem dX6_hears_86 : decode cX6_hears 86 = .ok (.iload_n 3, 1) := by decide +kernel
theorem dX6_hears_87 : decode cX6_hears 87 = .ok (.imul, 1) := by decide +kernel
theorem dX6_hears_88 : decode cX6_hears 88 = .ok (.iconst 2, 1) := by decide +kernel
theorem dX6_hears_89 : decode cX6_hears 89 = .ok (.iadd, 1) := by decide +kernel
theorem dX6_hears_90 : decode cX6_hears 90 = .ok (.iaload, 1) := by decide +kernel
theorem dX6_hears_91 : decode cX6_hears 91 = .ok (.aload_n 0, 1) := by decide +kernel
theorem dX6_hears_92 : decode cX6_hears 92 = .ok (.getfield 22, 3) := by decide +kernel
theorem dX6_hears_95 : decode cX6_hears 95 = .ok (.iload 5, 2) := by decide +kernel
theorem dX6_hears_97 : decode cX6_hears 97 = .ok (.bipush 10, 2) := by decide +kernel
theorem dX6_hears_99 : decode cX6_hears 99 = .ok (.iadd, 1) := by decide +kernel
theorem dX6_hears_100 : decode cX6_hears 100 = .ok (.iload 6, 2) := by decide +kernel
theorem dX6_hears_102 : decode cX6_hears 102 = .ok (.iadd, 1) := by decide +kernel
theorem dX6_hears_103 : decode cX6_hears 103 = .ok (.iaload, 1) := by decide +kernel
theorem dX6_hears_104 : decode cX6_hears 104 = .ok (.iadd, 1) := by decide +kernel
theorem dX6_hears_105 : decode cX6_hears 105 = .ok (.iload 7, 2) := by decide +kernel
theorem dX6_hears_107 : decode cX6_hears 107 = .ok (.invokestatic 111, 3) := by decide +kernel
theorem dX6_hears_110 : decode cX6_hears 110 = .ok (.iadd, 1) := by decide +kernel
theorem dX6_hears_111 : decode cX6_hears 111 = .ok (.aload_n 0, 1) := by decide +kernel
theorem dX6_hears_112 : decode cX6_hears 112 = .ok (.getfield 13, 3) := by decide +kernel
theorem dX6_hears_115 : decode cX6_hears 115 = .ok (.iload 6, 2) := by decide +kernel
theorem dX6_hears_117 : decode cX6_hears 117 = .ok (.iaload, 1) := by decide +kernel
theorem dX6_hears_118 : decode cX6_hears 118 = .ok (.iconst 2, 1) := by decide +kernel
theorem dX6_hears_119 : decode cX6_hears 119 = .ok (.iload 8, 2) := by decide +kernel
theorem dX6_hears_121 : decode cX6_hears 121 = .ok (.imul, 1) := by decide +kernel
theorem dX6_hears_122 : decode cX6_hears 122 = .ok (.iadd, 1) := by decide +kernel
theorem dX6_hears_123 : decode cX6_hears 123 = .ok (.iload 4, 2) := by decide +kernel
theorem dX6_hears_125 : decode cX6_hears 125 = .ok (.iadd, 1) := by decide +kernel
theorem dX6_hears_126 : decode cX6_hears 126 = .ok (.if_icmp .le 7, 3) := by decide +kernel
theorem dX6_hears_129 : decode cX6_hears 129 = .ok (.iconst 1, 1) := by decide +kernel
theorem dX6_hears_130 : decode cX6_hears 130 = .ok (.goto 4, 3) := by decide +kernel
theorem dX6_hears_133 : decode cX6_hears 133 = .ok (.iconst 0, 1) := by decide +kernel
theorem dX6_hears_134 : decode cX6_hears 134 = .ok (.ireturn, 1) := by decide +kernel
set_option maxRecDepth 20000 in
theorem ggX6_hourBy_X6_sayingOn : GoodIn wsX6_hourBy wsX6_sayingOn := goodIn_r _ [8, 9, 2, 33, 34, 35, 36, 37, 38, 39, 40, 41, 42, 43, 44, 45, 46, 47, 48, 49, 50, 51, 52, 53, 54, 55, 56, 57, 58, 59, 60] (by decide +kernel) (by decide +kernel)
set_option maxRecDepth 20000 in
theorem gX6_hourBy_X6_sayingOn : GoodIn wsX6_hourBy (wsV RX6 114 RX6 yX6_sayingOn wsX6_sayingOn) := goodIn_app (goodIn_of _ (by decide +kernel)) ggX6_hourBy_X6_sayingOn
set_option maxRecDepth 20000 in
theorem ggX6_hourBy_X6_hears : GoodIn wsX6_hourBy wsX6_hears := goodIn_r _ [13, 3, 14, 2, 15, 16, 17, 18, 7, 19, 20, 21, 22, 33, 34, 35, 36, 37, 38, 39, 40, 41, 42, 43, 44, 45, 46, 47, 48, 49, 50, 51, 52, 53, 54, 55, 56, 57, 58, 59, 60] (by decide +kernel) (by decide +kernel)
set_option maxRecDepth 20000 in
theorem gX6_hourBy_X6_hears : GoodIn wsX6_hourBy (wsV RX6 117 RX6 yX6_hears wsX6_hears) := goodIn_app (goodIn_of _ (by decide +kernel)) ggX6_hourBy_X6_hears
set_option maxRecDepth 20000 in
theorem ggX6_hourBy_X6_has : GoodIn wsX6_hourBy wsX6_has := goodIn_r _ [25] (by decide +kernel) (by decide +kernel)
set_option maxRecDepth 20000 in
theorem gX6_hourBy_X6_has : GoodIn wsX6_hourBy (va_wsS RX6 121 yX6_has wsX6_has) := goodIn_app (goodIn_of _ (by decide +kernel)) ggX6_hourBy_X6_has
set_option maxRecDepth 20000 in
theorem ggX6_hourBy_X6_isStrayed : GoodIn wsX6_hourBy wsX6_isStrayed := goodIn_r _ [19, 2, 33, 34, 35, 36, 37, 38, 39, 40, 41, 42, 43, 44, 45, 46, 47, 48, 49, 50, 51, 52, 53, 54, 55, 56, 57, 58, 59, 60] (by decide +kernel) (by decide +kernel)
set_option maxRecDepth 20000 in
theorem gX6_hourBy_X6_isStrayed : GoodIn wsX6_hourBy (wsV RX6 107 RX6 yX6_isStrayed wsX6_isStrayed) := goodIn_app (goodIn_of _ (by decide +kernel)) ggX6_hourBy_X6_isStrayed
set_option maxRecDepth 20000 in
theorem ggX6_hourBy_X6_knownOn : GoodIn wsX6_hourBy wsX6_knownOn := goodIn_r _ [29, 1, 2, 33, 34, 35, 36, 37, 38, 39, 40, 41, 42, 43, 44, 45, 46, 47, 48, 49, 50, 51, 52, 53, 54, 55, 56, 57, 58, 59, 60] (by decide +kernel) (by decide +kernel)
set_option maxRecDepth 20000 in
theorem gX6_hourBy_X6_knownOn : GoodIn wsX6_hourBy (wsV RX6 125 RX6 yX6_knownOn wsX6_knownOn) := goodIn_app (goodIn_of _ (by decide +kernel)) ggX6_hourBy_X6_knownOn
set_option maxRecDepth 20000 in
theorem ggX6_hourBy_X6_ones : GoodIn wsX6_hourBy wsX6_ones := goodIn_r _ [32] (by decide +kernel) (by decide +kernel)
set_option maxRecDepth 20000 in
theorem gX6_hourBy_X6_ones : GoodIn wsX6_hourBy (va_wsS RX6 128 yX6_ones wsX6_ones) := goodIn_app (goodIn_of _ (by decide +kernel)) ggX6_hourBy_X6_ones
theorem dX6_hourBy_0 : decode cX6_hourBy 0 = .ok (.bipush 17, 2) := by decide +kernel
theorem dX6_hourBy_2 : decode cX6_hourBy 2 = .ok (.iload_n 1, 1) := by decide +kernel
theorem dX6_hourBy_3 : decode cX6_hourBy 3 = .ok (.imul, 1) := by decide +kernel
theorem dX6_hourBy_4 : decode cX6_hourBy 4 = .ok (.istore_n 3, 1) := by decide +kernel
theorem dX6_hourBy_5 : decode cX6_hourBy 5 = .ok (.aload_n 0, 1) := by decide +kernel
theorem dX6_hourBy_6 : decode cX6_hourBy 6 = .ok (.iload_n 1, 1) := by decide +kernel
theorem dX6_hourBy_7 : decode cX6_hourBy 7 = .ok (.invokevirtual 114, 3) := by decide +kernel
theorem dX6_hourBy_10 : decode cX6_hourBy 10 = .ok (.istore 4, 2) := by decide +kernel
theorem dX6_hourBy_12 : decode cX6_hourBy 12 = .ok (.iconst 0, 1) := by decide +kernel
theorem dX6_hourBy_13 : decode cX6_hourBy 13 = .ok (.istore 5, 2) := by decide +kernel
theorem dX6_hourBy_15 : decode cX6_hourBy 15 = .ok (.iconst 0, 1) := by decide +kernel
theorem dX6_hourBy_16 : decode cX6_hourBy 16 = .ok (.istore 6, 2) := by decide +kernel
theorem dX6_hourBy_18 : decode cX6_hourBy 18 = .ok (.iload 6, 2) := by decide +kernel
theorem dX6_hourBy_20 : decode cX6_hourBy 20 = .ok (.aload_n 0, 1) := by decide +kernel
theorem dX6_hourBy_21 : decode cX6_hourBy 21 = .ok (.getfield 93, 3) := by decide +kernel
theorem dX6_hourBy_24 : decode cX6_hourBy 24 = .ok (.if_icmp .ge 97, 3) := by decide +kernel
theorem dX6_hourBy_27 : decode cX6_hourBy 27 = .ok (.aload_n 0, 1) := by decide +kernel
theorem dX6_hourBy_28 : decode cX6_hourBy 28 = .ok (.getfield 22, 3) := by decide +kernel
theorem dX6_hourBy_31 : decode cX6_hourBy 31 = .ok (.iload_n 3, 1) := by decide +kernel
theorem dX6_hourBy_32 : decode cX6_hourBy 32 = .ok (.iload 6, 2) := by decide +kernel
theorem dX6_hourBy_34 : decode cX6_hourBy 34 = .ok (.iadd, 1) := by decide +kernel
theorem dX6_hourBy_35 : decode cX6_hourBy 35 = .ok (.iaload, 1) := by decide +kernel
theorem dX6_hourBy_36 : decode cX6_hourBy 36 = .ok (.istore 7, 2) := by decide +kernel
theorem dX6_hourBy_38 : decode cX6_hourBy 38 = .ok (.aload_n 0, 1) := by decide +kernel
theorem dX6_hourBy_39 : decode cX6_hourBy 39 = .ok (.iload_n 1, 1) := by decide +kernel
theorem dX6_hourBy_40 : decode cX6_hourBy 40 = .ok (.iload 6, 2) := by decide +kernel
theorem dX6_hourBy_42 : decode cX6_hourBy 42 = .ok (.iload 4, 2) := by decide +kernel
theorem dX6_hourBy_44 : decode cX6_hourBy 44 = .ok (.iload_n 2, 1) := by decide +kernel
theorem dX6_hourBy_45 : decode cX6_hourBy 45 = .ok (.invokevirtual 117, 3) := by decide +kernel
theorem dX6_hourBy_48 : decode cX6_hourBy 48 = .ok (.ifCond .eq 67, 3) := by decide +kernel
theorem dX6_hourBy_51 : decode cX6_hourBy 51 = .ok (.aload_n 0, 1) := by decide +kernel
theorem dX6_hourBy_52 : decode cX6_hourBy 52 = .ok (.getfield 22, 3) := by decide +kernel
theorem dX6_hourBy_55 : decode cX6_hourBy 55 = .ok (.iload_n 3, 1) := by decide +kernel
theorem dX6_hourBy_56 : decode cX6_hourBy 56 = .ok (.iconst 5, 1) := by decide +kernel
theorem dX6_hourBy_57 : decode cX6_hourBy 57 = .ok (.iadd, 1) := by decide +kernel
theorem dX6_hourBy_58 : decode cX6_hourBy 58 = .ok (.iload 7, 2) := by decide +kernel
theorem dX6_hourBy_60 : decode cX6_hourBy 60 = .ok (.iadd, 1) := by decide +kernel
theorem dX6_hourBy_61 : decode cX6_hourBy 61 = .ok (.iaload, 1) := by decide +kernel
theorem dX6_hourBy_62 : decode cX6_hourBy 62 = .ok (.aload_n 0, 1) := by decide +kernel
theorem dX6_hourBy_63 : decode cX6_hourBy 63 = .ok (.getfield 16, 3) := by decide +kernel
theorem dX6_hourBy_66 : decode cX6_hourBy 66 = .ok (.iconst 3, 1) := by decide +kernel
theorem dX6_hourBy_67 : decode cX6_hourBy 67 = .ok (.iload 4, 2) := by decide +kernel
theorem dX6_hourBy_69 : decode cX6_hourBy 69 = .ok (.imul, 1) := by decide +kernel
theorem dX6_hourBy_70 : decode cX6_hourBy 70 = .ok (.iconst 1, 1) := by decide +kernel
theorem dX6_hourBy_71 : decode cX6_hourBy 71 = .ok (.iadd, 1) := by decide +kernel
theorem dX6_hourBy_72 : decode cX6_hourBy 72 = .ok (.iaload, 1) := by decide +kernel
theorem dX6_hourBy_73 : decode cX6_hourBy 73 = .ok (.invokestatic 121, 3) := by decide +kernel
theorem dX6_hourBy_76 : decode cX6_hourBy 76 = .ok (.ifCond .ne 39, 3) := by decide +kernel
theorem dX6_hourBy_79 : decode cX6_hourBy 79 = .ok (.aload_n 0, 1) := by decide +kernel
theorem dX6_hourBy_80 : decode cX6_hourBy 80 = .ok (.getfield 22, 3) := by decide +kernel
theorem dX6_hourBy_83 : decode cX6_hourBy 83 = .ok (.iload_n 3, 1) := by decide +kernel
theorem dX6_hourBy_84 : decode cX6_hourBy 84 = .ok (.iconst 5, 1) := by decide +kernel
theorem dX6_hourBy_85 : decode cX6_hourBy 85 = .ok (.iadd, 1) := by decide +kernel
theorem dX6_hourBy_86 : decode cX6_hourBy 86 = .ok (.iload 7, 2) := by decide +kernel
theorem dX6_hourBy_88 : decode cX6_hourBy 88 = .ok (.iadd, 1) := by decide +kernel
theorem dX6_hourBy_89 : decode cX6_hourBy 89 = .ok (.dup2, 1) := by decide +kernel
theorem dX6_hourBy_90 : decode cX6_hourBy 90 = .ok (.iaload, 1) := by decide +kernel
theorem dX6_hourBy_91 : decode cX6_hourBy 91 = .ok (.iconst 1, 1) := by decide +kernel
theorem dX6_hourBy_92 : decode cX6_hourBy 92 = .ok (.aload_n 0, 1) := by decide +kernel
theorem dX6_hourBy_93 : decode cX6_hourBy 93 = .ok (.getfield 16, 3) := by decide +kernel
theorem dX6_hourBy_96 : decode cX6_hourBy 96 = .ok (.iconst 3, 1) := by decide +kernel
theorem dX6_hourBy_97 : decode cX6_hourBy 97 = .ok (.iload 4, 2) := by decide +kernel
theorem dX6_hourBy_99 : decode cX6_hourBy 99 = .ok (.imul, 1) := by decide +kernel
theorem dX6_hourBy_100 : decode cX6_hourBy 100 = .ok (.iconst 1, 1) := by decide +kernel
theorem dX6_hourBy_101 : decode cX6_hourBy 101 = .ok (.iadd, 1) := by decide +kernel
theorem dX6_hourBy_102 : decode cX6_hourBy 102 = .ok (.iaload, 1) := by decide +kernel
theorem dX6_hourBy_103 : decode cX6_hourBy 103 = .ok (.ishl, 1) := by decide +kernel
theorem dX6_hourBy_104 : decode cX6_hourBy 104 = .ok (.ior, 1) := by decide +kernel
theorem dX6_hourBy_105 : decode cX6_hourBy 105 = .ok (.iastore, 1) := by decide +kernel
theorem dX6_hourBy_106 : decode cX6_hourBy 106 = .ok (.iload 5, 2) := by decide +kernel
theorem dX6_hourBy_108 : decode cX6_hourBy 108 = .ok (.iconst 1, 1) := by decide +kernel
theorem dX6_hourBy_109 : decode cX6_hourBy 109 = .ok (.iload 7, 2) := by decide +kernel
theorem dX6_hourBy_111 : decode cX6_hourBy 111 = .ok (.ishl, 1) := by decide +kernel
theorem dX6_hourBy_112 : decode cX6_hourBy 112 = .ok (.ior, 1) := by decide +kernel
theorem dX6_hourBy_113 : decode cX6_hourBy 113 = .ok (.istore 5, 2) := by decide +kernel
theorem dX6_hourBy_115 : decode cX6_hourBy 115 = .ok (.iinc 6 1, 3) := by decide +kernel
theorem dX6_hourBy_118 : decode cX6_hourBy 118 = .ok (.goto (-100), 3) := by decide +kernel
theorem dX6_hourBy_121 : decode cX6_hourBy 121 = .ok (.aload_n 0, 1) := by decide +kernel
theorem dX6_hourBy_122 : decode cX6_hourBy 122 = .ok (.getfield 22, 3) := by decide +kernel
theorem dX6_hourBy_125 : decode cX6_hourBy 125 = .ok (.iload_n 3, 1) := by decide +kernel
theorem dX6_hourBy_126 : decode cX6_hourBy 126 = .ok (.bipush 16, 2) := by decide +kernel
theorem dX6_hourBy_128 : decode cX6_hourBy 128 = .ok (.iadd, 1) := by decide +kernel
theorem dX6_hourBy_129 : decode cX6_hourBy 129 = .ok (.iload_n 2, 1) := by decide +kernel
theorem dX6_hourBy_130 : decode cX6_hourBy 130 = .ok (.ifCond .le 7, 3) := by decide +kernel
theorem dX6_hourBy_133 : decode cX6_hourBy 133 = .ok (.iconst 0, 1) := by decide +kernel
theorem dX6_hourBy_134 : decode cX6_hourBy 134 = .ok (.goto 33, 3) := by decide +kernel
theorem dX6_hourBy_137 : decode cX6_hourBy 137 = .ok (.aload_n 0, 1) := by decide +kernel
theorem dX6_hourBy_138 : decode cX6_hourBy 138 = .ok (.getfield 22, 3) := by decide +kernel
theorem dX6_hourBy_141 : decode cX6_hourBy 141 = .ok (.iload_n 3, 1) := by decide +kernel
theorem dX6_hourBy_142 : decode cX6_hourBy 142 = .ok (.bipush 16, 2) := by decide +kernel
theorem dX6_hourBy_144 : decode cX6_hourBy 144 = .ok (.iadd, 1) := by decide +kernel
theorem dX6_hourBy_145 : decode cX6_hourBy 145 = .ok (.iaload, 1) := by decide +kernel
theorem dX6_hourBy_146 : decode cX6_hourBy 146 = .ok (.bipush 9, 2) := by decide +kernel
theorem dX6_hourBy_148 : decode cX6_hourBy 148 = .ok (.if_icmp .ge 17, 3) := by decide +kernel
theorem dX6_hourBy_151 : decode cX6_hourBy 151 = .ok (.aload_n 0, 1) := by decide +kernel
theorem dX6_hourBy_152 : decode cX6_hourBy 152 = .ok (.getfield 22, 3) := by decide +kernel
theorem dX6_hourBy_155 : decode cX6_hourBy 155 = .ok (.iload_n 3, 1) := by decide +kernel
theorem dX6_hourBy_156 : decode cX6_hourBy 156 = .ok (.bipush 16, 2) := by decide +kernel
theorem dX6_hourBy_158 : decode cX6_hourBy 158 = .ok (.iadd, 1) := by decide +kernel
theorem dX6_hourBy_159 : decode cX6_hourBy 159 = .ok (.iaload, 1) := by decide +kernel
theorem dX6_hourBy_160 : decode cX6_hourBy 160 = .ok (.iconst 1, 1) := by decide +kernel
theorem dX6_hourBy_161 : decode cX6_hourBy 161 = .ok (.iadd, 1) := by decide +kernel
theorem dX6_hourBy_162 : decode cX6_hourBy 162 = .ok (.goto 5, 3) := by decide +kernel
theorem dX6_hourBy_165 : decode cX6_hourBy 165 = .ok (.bipush 9, 2) := by decide +kernel
theorem dX6_hourBy_167 : decode cX6_hourBy 167 = .ok (.iastore, 1) := by decide +kernel
theorem dX6_hourBy_168 : decode cX6_hourBy 168 = .ok (.aload_n 0, 1) := by decide +kernel
theorem dX6_hourBy_169 : decode cX6_hourBy 169 = .ok (.iload_n 1, 1) := by decide +kernel
theorem dX6_hourBy_170 : decode cX6_hourBy 170 = .ok (.invokevirtual 107, 3) := by decide +kernel
theorem dX6_hourBy_173 : decode cX6_hourBy 173 = .ok (.ifCond .eq 70, 3) := by decide +kernel
theorem dX6_hourBy_176 : decode cX6_hourBy 176 = .ok (.aload_n 0, 1) := by decide +kernel
theorem dX6_hourBy_177 : decode cX6_hourBy 177 = .ok (.iload_n 1, 1) := by decide +kernel
theorem dX6_hourBy_178 : decode cX6_hourBy 178 = .ok (.invokevirtual 125, 3) := by decide +kernel
theorem dX6_hourBy_181 : decode cX6_hourBy 181 = .ok (.istore 6, 2) := by decide +kernel
theorem dX6_hourBy_183 : decode cX6_hourBy 183 = .ok (.iconst 0, 1) := by decide +kernel
theorem dX6_hourBy_184 : decode cX6_hourBy 184 = .ok (.istore 7, 2) := by decide +kernel
theorem dX6_hourBy_186 : decode cX6_hourBy 186 = .ok (.iload 7, 2) := by decide +kernel
theorem dX6_hourBy_188 : decode cX6_hourBy 188 = .ok (.aload_n 0, 1) := by decide +kernel
theorem dX6_hourBy_189 : decode cX6_hourBy 189 = .ok (.getfield 93, 3) := by decide +kernel
theorem dX6_hourBy_192 : decode cX6_hourBy 192 = .ok (.if_icmp .ge 51, 3) := by decide +kernel
theorem dX6_hourBy_195 : decode cX6_hourBy 195 = .ok (.iload 5, 2) := by decide +kernel
theorem dX6_hourBy_197 : decode cX6_hourBy 197 = .ok (.aload_n 0, 1) := by decide +kernel
theorem dX6_hourBy_198 : decode cX6_hourBy 198 = .ok (.getfield 22, 3) := by decide +kernel
theorem dX6_hourBy_201 : decode cX6_hourBy 201 = .ok (.iload_n 3, 1) := by decide +kernel
theorem dX6_hourBy_202 : decode cX6_hourBy 202 = .ok (.iconst 5, 1) := by decide +kernel
theorem dX6_hourBy_203 : decode cX6_hourBy 203 = .ok (.iadd, 1) := by decide +kernel
theorem dX6_hourBy_204 : decode cX6_hourBy 204 = .ok (.iload 7, 2) := by decide +kernel
theorem dX6_hourBy_206 : decode cX6_hourBy 206 = .ok (.iadd, 1) := by decide +kernel
theorem dX6_hourBy_207 : decode cX6_hourBy 207 = .ok (.iaload, 1) := by decide +kernel
theorem dX6_hourBy_208 : decode cX6_hourBy 208 = .ok (.iload 6, 2) := by decide +kernel
theorem dX6_hourBy_210 : decode cX6_hourBy 210 = .ok (.if_icmp .ne 7, 3) := by decide +kernel
theorem dX6_hourBy_213 : decode cX6_hourBy 213 = .ok (.iconst 0, 1) := by decide +kernel
theorem dX6_hourBy_214 : decode cX6_hourBy 214 = .ok (.goto 7, 3) := by decide +kernel
theorem dX6_hourBy_217 : decode cX6_hourBy 217 = .ok (.iconst 1, 1) := by decide +kernel
theorem dX6_hourBy_218 : decode cX6_hourBy 218 = .ok (.iload 7, 2) := by decide +kernel
theorem dX6_hourBy_220 : decode cX6_hourBy 220 = .ok (.ishl, 1) := by decide +kernel
theorem dX6_hourBy_221 : decode cX6_hourBy 221 = .ok (.ior, 1) := by decide +kernel
theorem dX6_hourBy_222 : decode cX6_hourBy 222 = .ok (.istore 5, 2) := by decide +kernel
theorem dX6_hourBy_224 : decode cX6_hourBy 224 = .ok (.aload_n 0, 1) := by decide +kernel
theorem dX6_hourBy_225 : decode cX6_hourBy 225 = .ok (.getfield 22, 3) := by decide +kernel
theorem dX6_hourBy_228 : decode cX6_hourBy 228 = .ok (.iload_n 3, 1) := by decide +kernel
theorem dX6_hourBy_229 : decode cX6_hourBy 229 = .ok (.iconst 5, 1) := by decide +kernel
theorem dX6_hourBy_230 : decode cX6_hourBy 230 = .ok (.iadd, 1) := by decide +kernel
theorem dX6_hourBy_231 : decode cX6_hourBy 231 = .ok (.iload 7, 2) := by decide +kernel
theorem dX6_hourBy_233 : decode cX6_hourBy 233 = .ok (.iadd, 1) := by decide +kernel
theorem dX6_hourBy_234 : decode cX6_hourBy 234 = .ok (.iload 6, 2) := by decide +kernel
theorem dX6_hourBy_236 : decode cX6_hourBy 236 = .ok (.iastore, 1) := by decide +kernel
theorem dX6_hourBy_237 : decode cX6_hourBy 237 = .ok (.iinc 7 1, 3) := by decide +kernel
theorem dX6_hourBy_240 : decode cX6_hourBy 240 = .ok (.goto (-54), 3) := by decide +kernel
theorem dX6_hourBy_243 : decode cX6_hourBy 243 = .ok (.aload_n 0, 1) := by decide +kernel
theorem dX6_hourBy_244 : decode cX6_hourBy 244 = .ok (.getfield 22, 3) := by decide +kernel
theorem dX6_hourBy_247 : decode cX6_hourBy 247 = .ok (.iload_n 3, 1) := by decide +kernel
theorem dX6_hourBy_248 : decode cX6_hourBy 248 = .ok (.bipush 15, 2) := by decide +kernel
theorem dX6_hourBy_250 : decode cX6_hourBy 250 = .ok (.iadd, 1) := by decide +kernel
theorem dX6_hourBy_251 : decode cX6_hourBy 251 = .ok (.dup2, 1) := by decide +kernel
theorem dX6_hourBy_252 : decode cX6_hourBy 252 = .ok (.iaload, 1) := by decide +kernel
theorem dX6_hourBy_253 : decode cX6_hourBy 253 = .ok (.iconst 1, 1) := by decide +kernel
theorem dX6_hourBy_254 : decode cX6_hourBy 254 = .ok (.iadd, 1) := by decide +kernel
theorem dX6_hourBy_255 : decode cX6_hourBy 255 = .ok (.iastore, 1) := by decide +kernel
theorem dX6_hourBy_256 : decode cX6_hourBy 256 = .ok (.iload 5, 2) := by decide +kernel
theorem dX6_hourBy_258 : decode cX6_hourBy 258 = .ok (.invokestatic 128, 3) := by decide +kernel
theorem dX6_hourBy_261 : decode cX6_hourBy 261 = .ok (.ireturn, 1) := by decide +kernel
theorem dX6_knownOn_0 : decode cX6_knownOn 0 = .ok (.iconst 0, 1) := by decide +kernel
theorem dX6_knownOn_1 : decode cX6_knownOn 1 = .ok (.istore_n 2, 1) := by decide +kernel
theorem dX6_knownOn_2 : decode cX6_knownOn 2 = .ok (.iconst 0, 1) := by decide +kernel
theorem dX6_knownOn_3 : decode cX6_knownOn 3 = .ok (.istore_n 3, 1) := by decide +kernel
theorem dX6_knownOn_4 : decode cX6_knownOn 4 = .ok (.iload_n 3, 1) := by decide +kernel
theorem dX6_knownOn_5 : decode cX6_knownOn 5 = .ok (.aload_n 0, 1) := by decide +kernel
theorem dX6_knownOn_6 : decode cX6_knownOn 6 = .ok (.getfield 93, 3) := by decide +kernel
