theorem dX6_knownOn_9 : decode cX6_knownOn 9 = .ok (.if_icmp .ge 25, 3) := by decide +kernel
theorem dX6_knownOn_12 : decode cX6_knownOn 12 = .ok (.iload_n 2, 1) := by decide +kernel
theorem dX6_knownOn_13 : decode cX6_knownOn 13 = .ok (.aload_n 0, 1) := by decide +kernel
theorem dX6_knownOn_14 : decode cX6_knownOn 14 = .ok (.getfield 22, 3) := by decide +kernel
theorem dX6_knownOn_17 : decode cX6_knownOn 17 = .ok (.bipush 17, 2) := by decide +kernel
theorem dX6_knownOn_19 : decode cX6_knownOn 19 = .ok (.iload_n 1, 1) := by decide +kernel
theorem dX6_knownOn_20 : decode cX6_knownOn 20 = .ok (.imul, 1) := by decide +kernel
theorem dX6_knownOn_21 : decode cX6_knownOn 21 = .ok (.iconst 5, 1) := by decide +kernel
theorem dX6_knownOn_22 : decode cX6_knownOn 22 = .ok (.iadd, 1) := by decide +kernel
theorem dX6_knownOn_23 : decode cX6_knownOn 23 = .ok (.iload_n 3, 1) := by decide +kernel
theorem dX6_knownOn_24 : decode cX6_knownOn 24 = .ok (.iadd, 1) := by decide +kernel
theorem dX6_knownOn_25 : decode cX6_knownOn 25 = .ok (.iaload, 1) := by decide +kernel
theorem dX6_knownOn_26 : decode cX6_knownOn 26 = .ok (.ior, 1) := by decide +kernel
theorem dX6_knownOn_27 : decode cX6_knownOn 27 = .ok (.istore_n 2, 1) := by decide +kernel
theorem dX6_knownOn_28 : decode cX6_knownOn 28 = .ok (.iinc 3 1, 3) := by decide +kernel
theorem dX6_knownOn_31 : decode cX6_knownOn 31 = .ok (.goto (-27), 3) := by decide +kernel
theorem dX6_knownOn_34 : decode cX6_knownOn 34 = .ok (.iload_n 2, 1) := by decide +kernel
theorem dX6_knownOn_35 : decode cX6_knownOn 35 = .ok (.ireturn, 1) := by decide +kernel
theorem dX6_knowsAt_0 : decode cX6_knowsAt 0 = .ok (.bipush 17, 2) := by decide +kernel
theorem dX6_knowsAt_2 : decode cX6_knowsAt 2 = .ok (.iload_n 1, 1) := by decide +kernel
theorem dX6_knowsAt_3 : decode cX6_knowsAt 3 = .ok (.imul, 1) := by decide +kernel
theorem dX6_knowsAt_4 : decode cX6_knowsAt 4 = .ok (.istore_n 3, 1) := by decide +kernel
theorem dX6_knowsAt_5 : decode cX6_knowsAt 5 = .ok (.aload_n 0, 1) := by decide +kernel
theorem dX6_knowsAt_6 : decode cX6_knowsAt 6 = .ok (.getfield 22, 3) := by decide +kernel
theorem dX6_knowsAt_9 : decode cX6_knowsAt 9 = .ok (.iload_n 3, 1) := by decide +kernel
theorem dX6_knowsAt_10 : decode cX6_knowsAt 10 = .ok (.iconst 5, 1) := by decide +kernel
theorem dX6_knowsAt_11 : decode cX6_knowsAt 11 = .ok (.iadd, 1) := by decide +kernel
theorem dX6_knowsAt_12 : decode cX6_knowsAt 12 = .ok (.aload_n 0, 1) := by decide +kernel
theorem dX6_knowsAt_13 : decode cX6_knowsAt 13 = .ok (.getfield 22, 3) := by decide +kernel
theorem dX6_knowsAt_16 : decode cX6_knowsAt 16 = .ok (.iload_n 3, 1) := by decide +kernel
theorem dX6_knowsAt_17 : decode cX6_knowsAt 17 = .ok (.iload_n 2, 1) := by decide +kernel
theorem dX6_knowsAt_18 : decode cX6_knowsAt 18 = .ok (.iadd, 1) := by decide +kernel
theorem dX6_knowsAt_19 : decode cX6_knowsAt 19 = .ok (.iaload, 1) := by decide +kernel
theorem dX6_knowsAt_20 : decode cX6_knowsAt 20 = .ok (.iadd, 1) := by decide +kernel
theorem dX6_knowsAt_21 : decode cX6_knowsAt 21 = .ok (.iaload, 1) := by decide +kernel
theorem dX6_knowsAt_22 : decode cX6_knowsAt 22 = .ok (.ireturn, 1) := by decide +kernel
set_option maxRecDepth 20000 in
theorem ggX6_house_X6_isHouse : GoodIn wsX6_house wsX6_isHouse := goodIn_r _ [8, 9, 10, 11, 7, 12, 40, 41, 42, 43, 44, 45, 46, 47, 48, 49, 50, 51, 52, 53, 54, 55, 56, 57, 58, 59, 60, 61, 62, 63, 64, 65, 66, 67] (by decide +kernel) (by decide +kernel)
set_option maxRecDepth 20000 in
theorem gX6_house_X6_isHouse : GoodIn wsX6_house (wsV RX6 131 RX6 yX6_isHouse wsX6_isHouse) := goodIn_app (goodIn_of _ (by decide +kernel)) ggX6_house_X6_isHouse
set_option maxRecDepth 20000 in
theorem ggX6_house_X6_knowsAt : GoodIn wsX6_house wsX6_knowsAt := goodIn_r _ [16, 2, 40, 41, 42, 43, 44, 45, 46, 47, 48, 49, 50, 51, 52, 53, 54, 55, 56, 57, 58, 59, 60, 61, 62, 63, 64, 65, 66, 67] (by decide +kernel) (by decide +kernel)
set_option maxRecDepth 20000 in
theorem gX6_house_X6_knowsAt : GoodIn wsX6_house (wsV RX6 134 RX6 yX6_knowsAt wsX6_knowsAt) := goodIn_app (goodIn_of _ (by decide +kernel)) ggX6_house_X6_knowsAt
set_option maxRecDepth 20000 in
theorem ggX6_house_X6_sayingOn : GoodIn wsX6_house wsX6_sayingOn := goodIn_r _ [20, 21, 2, 40, 41, 42, 43, 44, 45, 46, 47, 48, 49, 50, 51, 52, 53, 54, 55, 56, 57, 58, 59, 60, 61, 62, 63, 64, 65, 66, 67] (by decide +kernel) (by decide +kernel)
set_option maxRecDepth 20000 in
theorem gX6_house_X6_sayingOn : GoodIn wsX6_house (wsV RX6 114 RX6 yX6_sayingOn wsX6_sayingOn) := goodIn_app (goodIn_of _ (by decide +kernel)) ggX6_house_X6_sayingOn
set_option maxRecDepth 20000 in
theorem ggX6_house_X6_rainOn : GoodIn wsX6_house wsX6_rainOn := goodIn_r _ [25, 26, 27, 2, 40, 41, 42, 43, 44, 45, 46, 47, 48, 49, 50, 51, 52, 53, 54, 55, 56, 57, 58, 59, 60, 61, 62, 63, 64, 65, 66, 67] (by decide +kernel) (by decide +kernel)
set_option maxRecDepth 20000 in
theorem gX6_house_X6_rainOn : GoodIn wsX6_house (wsV RX6 138 RX6 yX6_rainOn wsX6_rainOn) := goodIn_app (goodIn_of _ (by decide +kernel)) ggX6_house_X6_rainOn
set_option maxRecDepth 20000 in
theorem ggX6_house_X6_hears : GoodIn wsX6_house wsX6_hears := goodIn_r _ [31, 32, 3, 2, 1, 33, 34, 35, 7, 36, 37, 38, 39, 40, 41, 42, 43, 44, 45, 46, 47, 48, 49, 50, 51, 52, 53, 54, 55, 56, 57, 58, 59, 60, 61, 62, 63, 64, 65, 66, 67] (by decide +kernel) (by decide +kernel)
set_option maxRecDepth 20000 in
theorem gX6_house_X6_hears : GoodIn wsX6_house (wsV RX6 117 RX6 yX6_hears wsX6_hears) := goodIn_app (goodIn_of _ (by decide +kernel)) ggX6_house_X6_hears
theorem dX6_house_0 : decode cX6_house 0 = .ok (.aload_n 0, 1) := by decide +kernel
theorem dX6_house_1 : decode cX6_house 1 = .ok (.iload_n 1, 1) := by decide +kernel
theorem dX6_house_2 : decode cX6_house 2 = .ok (.invokevirtual 131, 3) := by decide +kernel
theorem dX6_house_5 : decode cX6_house 5 = .ok (.ifCond .ne 5, 3) := by decide +kernel
theorem dX6_house_8 : decode cX6_house 8 = .ok (.iconst (-1), 1) := by decide +kernel
theorem dX6_house_9 : decode cX6_house 9 = .ok (.ireturn, 1) := by decide +kernel
theorem dX6_house_10 : decode cX6_house 10 = .ok (.iload_n 2, 1) := by decide +kernel
theorem dX6_house_11 : decode cX6_house 11 = .ok (.tableswitch 105 0 5 #[37, 44, 54, 66, 73, 80], 37) := by decide +kernel
theorem dX6_house_48 : decode cX6_house 48 = .ok (.aload_n 0, 1) := by decide +kernel
theorem dX6_house_49 : decode cX6_house 49 = .ok (.getfield 13, 3) := by decide +kernel
theorem dX6_house_52 : decode cX6_house 52 = .ok (.iload_n 1, 1) := by decide +kernel
theorem dX6_house_53 : decode cX6_house 53 = .ok (.iaload, 1) := by decide +kernel
theorem dX6_house_54 : decode cX6_house 54 = .ok (.ireturn, 1) := by decide +kernel
theorem dX6_house_55 : decode cX6_house 55 = .ok (.aload_n 0, 1) := by decide +kernel
theorem dX6_house_56 : decode cX6_house 56 = .ok (.getfield 22, 3) := by decide +kernel
theorem dX6_house_59 : decode cX6_house 59 = .ok (.bipush 10, 2) := by decide +kernel
theorem dX6_house_61 : decode cX6_house 61 = .ok (.iload_n 1, 1) := by decide +kernel
theorem dX6_house_62 : decode cX6_house 62 = .ok (.iadd, 1) := by decide +kernel
theorem dX6_house_63 : decode cX6_house 63 = .ok (.iaload, 1) := by decide +kernel
theorem dX6_house_64 : decode cX6_house 64 = .ok (.ireturn, 1) := by decide +kernel
theorem dX6_house_65 : decode cX6_house 65 = .ok (.aload_n 0, 1) := by decide +kernel
theorem dX6_house_66 : decode cX6_house 66 = .ok (.getfield 7, 3) := by decide +kernel
theorem dX6_house_69 : decode cX6_house 69 = .ok (.aload_n 0, 1) := by decide +kernel
theorem dX6_house_70 : decode cX6_house 70 = .ok (.getfield 22, 3) := by decide +kernel
theorem dX6_house_73 : decode cX6_house 73 = .ok (.iload_n 1, 1) := by decide +kernel
theorem dX6_house_74 : decode cX6_house 74 = .ok (.iaload, 1) := by decide +kernel
theorem dX6_house_75 : decode cX6_house 75 = .ok (.iaload, 1) := by decide +kernel
theorem dX6_house_76 : decode cX6_house 76 = .ok (.ireturn, 1) := by decide +kernel
theorem dX6_house_77 : decode cX6_house 77 = .ok (.aload_n 0, 1) := by decide +kernel
theorem dX6_house_78 : decode cX6_house 78 = .ok (.iconst 0, 1) := by decide +kernel
theorem dX6_house_79 : decode cX6_house 79 = .ok (.iload_n 1, 1) := by decide +kernel
theorem dX6_house_80 : decode cX6_house 80 = .ok (.invokevirtual 134, 3) := by decide +kernel
theorem dX6_house_83 : decode cX6_house 83 = .ok (.ireturn, 1) := by decide +kernel
theorem dX6_house_84 : decode cX6_house 84 = .ok (.aload_n 0, 1) := by decide +kernel
theorem dX6_house_85 : decode cX6_house 85 = .ok (.getfield 22, 3) := by decide +kernel
theorem dX6_house_88 : decode cX6_house 88 = .ok (.iload_n 1, 1) := by decide +kernel
theorem dX6_house_89 : decode cX6_house 89 = .ok (.iaload, 1) := by decide +kernel
theorem dX6_house_90 : decode cX6_house 90 = .ok (.ireturn, 1) := by decide +kernel
theorem dX6_house_91 : decode cX6_house 91 = .ok (.aload_n 0, 1) := by decide +kernel
theorem dX6_house_92 : decode cX6_house 92 = .ok (.iconst 0, 1) := by decide +kernel
theorem dX6_house_93 : decode cX6_house 93 = .ok (.iload_n 1, 1) := by decide +kernel
theorem dX6_house_94 : decode cX6_house 94 = .ok (.aload_n 0, 1) := by decide +kernel
theorem dX6_house_95 : decode cX6_house 95 = .ok (.iconst 0, 1) := by decide +kernel
theorem dX6_house_96 : decode cX6_house 96 = .ok (.invokevirtual 114, 3) := by decide +kernel
theorem dX6_house_99 : decode cX6_house 99 = .ok (.aload_n 0, 1) := by decide +kernel
theorem dX6_house_100 : decode cX6_house 100 = .ok (.iconst 0, 1) := by decide +kernel
theorem dX6_house_101 : decode cX6_house 101 = .ok (.invokevirtual 138, 3) := by decide +kernel
theorem dX6_house_104 : decode cX6_house 104 = .ok (.invokevirtual 117, 3) := by decide +kernel
theorem dX6_house_107 : decode cX6_house 107 = .ok (.ifCond .eq 7, 3) := by decide +kernel
theorem dX6_house_110 : decode cX6_house 110 = .ok (.iconst 1, 1) := by decide +kernel
theorem dX6_house_111 : decode cX6_house 111 = .ok (.goto 4, 3) := by decide +kernel
theorem dX6_house_114 : decode cX6_house 114 = .ok (.iconst 0, 1) := by decide +kernel
theorem dX6_house_115 : decode cX6_house 115 = .ok (.ireturn, 1) := by decide +kernel
theorem dX6_house_116 : decode cX6_house 116 = .ok (.bipush (-2), 2) := by decide +kernel
theorem dX6_house_118 : decode cX6_house 118 = .ok (.ireturn, 1) := by decide +kernel
set_option maxRecDepth 20000 in
theorem ggX6_saying_X6_in : GoodIn wsX6_saying wsX6_in := goodIn_r _ [7] (by decide +kernel) (by decide +kernel)
set_option maxRecDepth 20000 in
theorem gX6_saying_X6_in : GoodIn wsX6_saying (va_wsS RX6 58 yX6_in wsX6_in) := goodIn_app (goodIn_of _ (by decide +kernel)) ggX6_saying_X6_in
theorem dX6_saying_0 : decode cX6_saying 0 = .ok (.iload_n 1, 1) := by decide +kernel
theorem dX6_saying_1 : decode cX6_saying 1 = .ok (.i2l, 1) := by decide +kernel
theorem dX6_saying_2 : decode cX6_saying 2 = .ok (.lconst 0, 1) := by decide +kernel
theorem dX6_saying_3 : decode cX6_saying 3 = .ok (.aload_n 0, 1) := by decide +kernel
theorem dX6_saying_4 : decode cX6_saying 4 = .ok (.getfield 96, 3) := by decide +kernel
theorem dX6_saying_7 : decode cX6_saying 7 = .ok (.iconst 1, 1) := by decide +kernel
theorem dX6_saying_8 : decode cX6_saying 8 = .ok (.isub, 1) := by decide +kernel
theorem dX6_saying_9 : decode cX6_saying 9 = .ok (.i2l, 1) := by decide +kernel
theorem dX6_saying_10 : decode cX6_saying 10 = .ok (.invokestatic 58, 3) := by decide +kernel
theorem dX6_saying_13 : decode cX6_saying 13 = .ok (.ifCond .ne 5, 3) := by decide +kernel
theorem dX6_saying_16 : decode cX6_saying 16 = .ok (.iconst (-1), 1) := by decide +kernel
theorem dX6_saying_17 : decode cX6_saying 17 = .ok (.ireturn, 1) := by decide +kernel
theorem dX6_saying_18 : decode cX6_saying 18 = .ok (.iload_n 2, 1) := by decide +kernel
theorem dX6_saying_19 : decode cX6_saying 19 = .ok (.i2l, 1) := by decide +kernel
theorem dX6_saying_20 : decode cX6_saying 20 = .ok (.lconst 0, 1) := by decide +kernel
theorem dX6_saying_21 : decode cX6_saying 21 = .ok (.ldc2_w 141, 3) := by decide +kernel
theorem dX6_saying_24 : decode cX6_saying 24 = .ok (.invokestatic 58, 3) := by decide +kernel
theorem dX6_saying_27 : decode cX6_saying 27 = .ok (.ifCond .eq 16, 3) := by decide +kernel
theorem dX6_saying_30 : decode cX6_saying 30 = .ok (.aload_n 0, 1) := by decide +kernel
theorem dX6_saying_31 : decode cX6_saying 31 = .ok (.getfield 16, 3) := by decide +kernel
theorem dX6_saying_34 : decode cX6_saying 34 = .ok (.iconst 3, 1) := by decide +kernel
theorem dX6_saying_35 : decode cX6_saying 35 = .ok (.iload_n 1, 1) := by decide +kernel
theorem dX6_saying_36 : decode cX6_saying 36 = .ok (.imul, 1) := by decide +kernel
theorem dX6_saying_37 : decode cX6_saying 37 = .ok (.iload_n 2, 1) := by decide +kernel
theorem dX6_saying_38 : decode cX6_saying 38 = .ok (.iadd, 1) := by decide +kernel
theorem dX6_saying_39 : decode cX6_saying 39 = .ok (.iaload, 1) := by decide +kernel
theorem dX6_saying_40 : decode cX6_saying 40 = .ok (.goto 5, 3) := by decide +kernel
theorem dX6_saying_43 : decode cX6_saying 43 = .ok (.bipush (-2), 2) := by decide +kernel
theorem dX6_saying_45 : decode cX6_saying 45 = .ok (.ireturn, 1) := by decide +kernel
theorem dX6_keepAct_0 : decode cX6_keepAct 0 = .ok (.iconst 0, 1) := by decide +kernel
theorem dX6_keepAct_1 : decode cX6_keepAct 1 = .ok (.istore_n 1, 1) := by decide +kernel
theorem dX6_keepAct_2 : decode cX6_keepAct 2 = .ok (.iload_n 1, 1) := by decide +kernel
theorem dX6_keepAct_3 : decode cX6_keepAct 3 = .ok (.bipush 17, 2) := by decide +kernel
theorem dX6_keepAct_5 : decode cX6_keepAct 5 = .ok (.if_icmp .ge 29, 3) := by decide +kernel
theorem dX6_keepAct_8 : decode cX6_keepAct 8 = .ok (.aload_n 0, 1) := by decide +kernel
theorem dX6_keepAct_9 : decode cX6_keepAct 9 = .ok (.getfield 37, 3) := by decide +kernel
theorem dX6_keepAct_12 : decode cX6_keepAct 12 = .ok (.bipush 17, 2) := by decide +kernel
theorem dX6_keepAct_14 : decode cX6_keepAct 14 = .ok (.aload_n 0, 1) := by decide +kernel
theorem dX6_keepAct_15 : decode cX6_keepAct 15 = .ok (.getfield 143, 3) := by decide +kernel
theorem dX6_keepAct_18 : decode cX6_keepAct 18 = .ok (.imul, 1) := by decide +kernel
theorem dX6_keepAct_19 : decode cX6_keepAct 19 = .ok (.iload_n 1, 1) := by decide +kernel
theorem dX6_keepAct_20 : decode cX6_keepAct 20 = .ok (.iadd, 1) := by decide +kernel
theorem dX6_keepAct_21 : decode cX6_keepAct 21 = .ok (.aload_n 0, 1) := by decide +kernel
theorem dX6_keepAct_22 : decode cX6_keepAct 22 = .ok (.getfield 22, 3) := by decide +kernel
theorem dX6_keepAct_25 : decode cX6_keepAct 25 = .ok (.iload_n 1, 1) := by decide +kernel
theorem dX6_keepAct_26 : decode cX6_keepAct 26 = .ok (.iaload, 1) := by decide +kernel
theorem dX6_keepAct_27 : decode cX6_keepAct 27 = .ok (.iastore, 1) := by decide +kernel
theorem dX6_keepAct_28 : decode cX6_keepAct 28 = .ok (.iinc 1 1, 3) := by decide +kernel
theorem dX6_keepAct_31 : decode cX6_keepAct 31 = .ok (.goto (-29), 3) := by decide +kernel
theorem dX6_keepAct_34 : decode cX6_keepAct 34 = .ok (.aload_n 0, 1) := by decide +kernel
theorem dX6_keepAct_35 : decode cX6_keepAct 35 = .ok (.aload_n 0, 1) := by decide +kernel
theorem dX6_keepAct_36 : decode cX6_keepAct 36 = .ok (.getfield 143, 3) := by decide +kernel
theorem dX6_keepAct_39 : decode cX6_keepAct 39 = .ok (.iconst 1, 1) := by decide +kernel
theorem dX6_keepAct_40 : decode cX6_keepAct 40 = .ok (.iadd, 1) := by decide +kernel
theorem dX6_keepAct_41 : decode cX6_keepAct 41 = .ok (.bipush 14, 2) := by decide +kernel
theorem dX6_keepAct_43 : decode cX6_keepAct 43 = .ok (.irem, 1) := by decide +kernel
theorem dX6_keepAct_44 : decode cX6_keepAct 44 = .ok (.putfield 143, 3) := by decide +kernel
theorem dX6_keepAct_47 : decode cX6_keepAct 47 = .ok (.aload_n 0, 1) := by decide +kernel
theorem dX6_keepAct_48 : decode cX6_keepAct 48 = .ok (.aload_n 0, 1) := by decide +kernel
theorem dX6_keepAct_49 : decode cX6_keepAct 49 = .ok (.getfield 102, 3) := by decide +kernel
theorem dX6_keepAct_52 : decode cX6_keepAct 52 = .ok (.bipush 14, 2) := by decide +kernel
theorem dX6_keepAct_54 : decode cX6_keepAct 54 = .ok (.if_icmp .ge 12, 3) := by decide +kernel
theorem dX6_keepAct_57 : decode cX6_keepAct 57 = .ok (.aload_n 0, 1) := by decide +kernel
theorem dX6_keepAct_58 : decode cX6_keepAct 58 = .ok (.getfield 102, 3) := by decide +kernel
theorem dX6_keepAct_61 : decode cX6_keepAct 61 = .ok (.iconst 1, 1) := by decide +kernel
theorem dX6_keepAct_62 : decode cX6_keepAct 62 = .ok (.iadd, 1) := by decide +kernel
theorem dX6_keepAct_63 : decode cX6_keepAct 63 = .ok (.goto 5, 3) := by decide +kernel
theorem dX6_keepAct_66 : decode cX6_keepAct 66 = .ok (.bipush 14, 2) := by decide +kernel
theorem dX6_keepAct_68 : decode cX6_keepAct 68 = .ok (.putfield 102, 3) := by decide +kernel
theorem dX6_keepAct_71 : decode cX6_keepAct 71 = .ok (.return_, 1) := by decide +kernel
set_option maxRecDepth 20000 in
theorem ggX6_hour_X6_keepAct : GoodIn wsX6_hour wsX6_keepAct := goodIn_r _ [5, 6, 7, 8, 9, 50, 51, 52, 53, 54, 55, 56, 57, 58, 59, 60, 61, 62, 63, 64, 65, 66, 67, 68, 69, 70, 71, 72, 73, 74, 75, 76, 77] (by decide +kernel) (by decide +kernel)
set_option maxRecDepth 20000 in
theorem gX6_hour_X6_keepAct : GoodIn wsX6_hour (wsV RX6 146 RX6 yX6_keepAct wsX6_keepAct) := goodIn_app (goodIn_of _ (by decide +kernel)) ggX6_hour_X6_keepAct
set_option maxRecDepth 20000 in
theorem ggX6_hour_X6_rainOn : GoodIn wsX6_hour wsX6_rainOn := goodIn_r _ [13, 14, 15, 8, 50, 51, 52, 53, 54, 55, 56, 57, 58, 59, 60, 61, 62, 63, 64, 65, 66, 67, 68, 69, 70, 71, 72, 73, 74, 75, 76, 77] (by decide +kernel) (by decide +kernel)
set_option maxRecDepth 20000 in
theorem gX6_hour_X6_rainOn : GoodIn wsX6_hour (wsV RX6 138 RX6 yX6_rainOn wsX6_rainOn) := goodIn_app (goodIn_of _ (by decide +kernel)) ggX6_hour_X6_rainOn
set_option maxRecDepth 20000 in
theorem ggX6_hour_X6_hourBy : GoodIn wsX6_hour wsX6_hourBy := goodIn_r _ [19, 20, 8, 21, 22, 23, 24, 4, 25, 26, 27, 28, 29, 30, 31, 32, 33, 34, 35, 36, 37, 38, 39, 40, 41, 42, 43, 44, 45, 46, 47, 48, 49, 50, 51, 52, 53, 54, 55, 56, 57, 58, 59, 60, 61, 62, 63, 64, 65, 66, 67, 68, 69, 70, 71, 72, 73, 74, 75, 76, 77] (by decide +kernel) (by decide +kernel)
set_option maxRecDepth 20000 in
theorem gX6_hour_X6_hourBy : GoodIn wsX6_hour (wsV RX6 149 RX6 yX6_hourBy wsX6_hourBy) := goodIn_app (goodIn_of _ (by decide +kernel)) ggX6_hour_X6_hourBy
theorem dX6_hour_0 : decode cX6_hour 0 = .ok (.aload_n 0, 1) := by decide +kernel
theorem dX6_hour_1 : decode cX6_hour 1 = .ok (.invokevirtual 146, 3) := by decide +kernel
theorem dX6_hour_4 : decode cX6_hour 4 = .ok (.aload_n 0, 1) := by decide +kernel
theorem dX6_hour_5 : decode cX6_hour 5 = .ok (.iconst 0, 1) := by decide +kernel
theorem dX6_hour_6 : decode cX6_hour 6 = .ok (.aload_n 0, 1) := by decide +kernel
theorem dX6_hour_7 : decode cX6_hour 7 = .ok (.iconst 0, 1) := by decide +kernel
theorem dX6_hour_8 : decode cX6_hour 8 = .ok (.invokevirtual 138, 3) := by decide +kernel
theorem dX6_hour_11 : decode cX6_hour 11 = .ok (.invokevirtual 149, 3) := by decide +kernel
theorem dX6_hour_14 : decode cX6_hour 14 = .ok (.ireturn, 1) := by decide +kernel
set_option maxRecDepth 20000 in
theorem ggX6_lower_X6_isHouse : GoodIn wsX6_lower wsX6_isHouse := goodIn_r _ [6, 7, 8, 9, 5, 10, 18, 19, 20, 21, 22, 23, 24, 25, 26, 27, 28, 29, 30, 31, 32, 33, 34, 35, 36, 37, 38, 39, 40, 41, 42, 43, 44, 45] (by decide +kernel) (by decide +kernel)
set_option maxRecDepth 20000 in
theorem gX6_lower_X6_isHouse : GoodIn wsX6_lower (wsV RX6 131 RX6 yX6_isHouse wsX6_isHouse) := goodIn_app (goodIn_of _ (by decide +kernel)) ggX6_lower_X6_isHouse
set_option maxRecDepth 20000 in
theorem ggX6_lower_X6_keepAct : GoodIn wsX6_lower wsX6_keepAct := goodIn_r _ [14, 15, 16, 1, 17, 18, 19, 20, 21, 22, 23, 24, 25, 26, 27, 28, 29, 30, 31, 32, 33, 34, 35, 36, 37, 38, 39, 40, 41, 42, 43, 44, 45] (by decide +kernel) (by decide +kernel)
set_option maxRecDepth 20000 in
theorem gX6_lower_X6_keepAct : GoodIn wsX6_lower (wsV RX6 146 RX6 yX6_keepAct wsX6_keepAct) := goodIn_app (goodIn_of _ (by decide +kernel)) ggX6_lower_X6_keepAct
theorem dX6_lower_0 : decode cX6_lower 0 = .ok (.aload_n 0, 1) := by decide +kernel
theorem dX6_lower_1 : decode cX6_lower 1 = .ok (.iload_n 1, 1) := by decide +kernel
theorem dX6_lower_2 : decode cX6_lower 2 = .ok (.invokevirtual 131, 3) := by decide +kernel
theorem dX6_lower_5 : decode cX6_lower 5 = .ok (.ifCond .ne 5, 3) := by decide +kernel
theorem dX6_lower_8 : decode cX6_lower 8 = .ok (.iconst (-1), 1) := by decide +kernel
theorem dX6_lower_9 : decode cX6_lower 9 = .ok (.ireturn, 1) := by decide +kernel
theorem dX6_lower_10 : decode cX6_lower 10 = .ok (.aload_n 0, 1) := by decide +kernel
theorem dX6_lower_11 : decode cX6_lower 11 = .ok (.getfield 22, 3) := by decide +kernel
theorem dX6_lower_14 : decode cX6_lower 14 = .ok (.bipush 10, 2) := by decide +kernel
theorem dX6_lower_16 : decode cX6_lower 16 = .ok (.iload_n 1, 1) := by decide +kernel
theorem dX6_lower_17 : decode cX6_lower 17 = .ok (.iadd, 1) := by decide +kernel
theorem dX6_lower_18 : decode cX6_lower 18 = .ok (.iaload, 1) := by decide +kernel
theorem dX6_lower_19 : decode cX6_lower 19 = .ok (.bipush (-3), 2) := by decide +kernel
theorem dX6_lower_21 : decode cX6_lower 21 = .ok (.if_icmp .ne 6, 3) := by decide +kernel
theorem dX6_lower_24 : decode cX6_lower 24 = .ok (.bipush (-3), 2) := by decide +kernel
theorem dX6_lower_26 : decode cX6_lower 26 = .ok (.ireturn, 1) := by decide +kernel
theorem dX6_lower_27 : decode cX6_lower 27 = .ok (.aload_n 0, 1) := by decide +kernel
theorem dX6_lower_28 : decode cX6_lower 28 = .ok (.invokevirtual 146, 3) := by decide +kernel
theorem dX6_lower_31 : decode cX6_lower 31 = .ok (.aload_n 0, 1) := by decide +kernel
theorem dX6_lower_32 : decode cX6_lower 32 = .ok (.getfield 22, 3) := by decide +kernel
theorem dX6_lower_35 : decode cX6_lower 35 = .ok (.bipush 10, 2) := by decide +kernel
theorem dX6_lower_37 : decode cX6_lower 37 = .ok (.iload_n 1, 1) := by decide +kernel
theorem dX6_lower_38 : decode cX6_lower 38 = .ok (.iadd, 1) := by decide +kernel
theorem dX6_lower_39 : decode cX6_lower 39 = .ok (.dup2, 1) := by decide +kernel
theorem dX6_lower_40 : decode cX6_lower 40 = .ok (.iaload, 1) := by decide +kernel
theorem dX6_lower_41 : decode cX6_lower 41 = .ok (.iconst 1, 1) := by decide +kernel
theorem dX6_lower_42 : decode cX6_lower 42 = .ok (.isub, 1) := by decide +kernel
theorem dX6_lower_43 : decode cX6_lower 43 = .ok (.iastore, 1) := by decide +kernel
theorem dX6_lower_44 : decode cX6_lower 44 = .ok (.aload_n 0, 1) := by decide +kernel
theorem dX6_lower_45 : decode cX6_lower 45 = .ok (.getfield 22, 3) := by decide +kernel
theorem dX6_lower_48 : decode cX6_lower 48 = .ok (.bipush 10, 2) := by decide +kernel
theorem dX6_lower_50 : decode cX6_lower 50 = .ok (.iload_n 1, 1) := by decide +kernel
theorem dX6_lower_51 : decode cX6_lower 51 = .ok (.iadd, 1) := by decide +kernel
theorem dX6_lower_52 : decode cX6_lower 52 = .ok (.iaload, 1) := by decide +kernel
theorem dX6_lower_53 : decode cX6_lower 53 = .ok (.ireturn, 1) := by decide +kernel
set_option maxRecDepth 20000 in
theorem ggX6_raise_X6_isHouse : GoodIn wsX6_raise wsX6_isHouse := goodIn_r _ [6, 7, 8, 9, 5, 10, 18, 19, 20, 21, 22, 23, 24, 25, 26, 27, 28, 29, 30, 31, 32, 33, 34, 35, 36, 37, 38, 39, 40, 41, 42, 43, 44, 45] (by decide +kernel) (by decide +kernel)
set_option maxRecDepth 20000 in
theorem gX6_raise_X6_isHouse : GoodIn wsX6_raise (wsV RX6 131 RX6 yX6_isHouse wsX6_isHouse) := goodIn_app (goodIn_of _ (by decide +kernel)) ggX6_raise_X6_isHouse
set_option maxRecDepth 20000 in
theorem ggX6_raise_X6_keepAct : GoodIn wsX6_raise wsX6_keepAct := goodIn_r _ [14, 15, 16, 1, 17, 18, 19, 20, 21, 22, 23, 24, 25, 26, 27, 28, 29, 30, 31, 32, 33, 34, 35, 36, 37, 38, 39, 40, 41, 42, 43, 44, 45] (by decide +kernel) (by decide +kernel)
set_option maxRecDepth 20000 in
theorem gX6_raise_X6_keepAct : GoodIn wsX6_raise (wsV RX6 146 RX6 yX6_keepAct wsX6_keepAct) := goodIn_app (goodIn_of _ (by decide +kernel)) ggX6_raise_X6_keepAct
theorem dX6_raise_0 : decode cX6_raise 0 = .ok (.aload_n 0, 1) := by decide +kernel
theorem dX6_raise_1 : decode cX6_raise 1 = .ok (.iload_n 1, 1) := by decide +kernel
theorem dX6_raise_2 : decode cX6_raise 2 = .ok (.invokevirtual 131, 3) := by decide +kernel
theorem dX6_raise_5 : decode cX6_raise 5 = .ok (.ifCond .ne 5, 3) := by decide +kernel
theorem dX6_raise_8 : decode cX6_raise 8 = .ok (.iconst (-1), 1) := by decide +kernel
theorem dX6_raise_9 : decode cX6_raise 9 = .ok (.ireturn, 1) := by decide +kernel
theorem dX6_raise_10 : decode cX6_raise 10 = .ok (.aload_n 0, 1) := by decide +kernel
theorem dX6_raise_11 : decode cX6_raise 11 = .ok (.getfield 22, 3) := by decide +kernel
theorem dX6_raise_14 : decode cX6_raise 14 = .ok (.bipush 10, 2) := by decide +kernel
theorem dX6_raise_16 : decode cX6_raise 16 = .ok (.iload_n 1, 1) := by decide +kernel
theorem dX6_raise_17 : decode cX6_raise 17 = .ok (.iadd, 1) := by decide +kernel
theorem dX6_raise_18 : decode cX6_raise 18 = .ok (.iaload, 1) := by decide +kernel
theorem dX6_raise_19 : decode cX6_raise 19 = .ok (.iconst 3, 1) := by decide +kernel
theorem dX6_raise_20 : decode cX6_raise 20 = .ok (.if_icmp .ne 6, 3) := by decide +kernel
theorem dX6_raise_23 : decode cX6_raise 23 = .ok (.bipush (-3), 2) := by decide +kernel
theorem dX6_raise_25 : decode cX6_raise 25 = .ok (.ireturn, 1) := by decide +kernel
theorem dX6_raise_26 : decode cX6_raise 26 = .ok (.aload_n 0, 1) := by decide +kernel
theorem dX6_raise_27 : decode cX6_raise 27 = .ok (.invokevirtual 146, 3) := by decide +kernel
theorem dX6_raise_30 : decode cX6_raise 30 = .ok (.aload_n 0, 1) := by decide +kernel
theorem dX6_raise_31 : decode cX6_raise 31 = .ok (.getfield 22, 3) := by decide +kernel
theorem dX6_raise_34 : decode cX6_raise 34 = .ok (.bipush 10, 2) := by decide +kernel
theorem dX6_raise_36 : decode cX6_raise 36 = .ok (.iload_n 1, 1) := by decide +kernel
theorem dX6_raise_37 : decode cX6_raise 37 = .ok (.iadd, 1) := by decide +kernel
theorem dX6_raise_38 : decode cX6_raise 38 = .ok (.dup2, 1) := by decide +kernel
theorem dX6_raise_39 : decode cX6_raise 39 = .ok (.iaload, 1) := by decide +kernel
theorem dX6_raise_40 : decode cX6_raise 40 = .ok (.iconst 1, 1) := by decide +kernel
theorem dX6_raise_41 : decode cX6_raise 41 = .ok (.iadd, 1) := by decide +kernel
theorem dX6_raise_42 : decode cX6_raise 42 = .ok (.iastore, 1) := by decide +kernel
theorem dX6_raise_43 : decode cX6_raise 43 = .ok (.aload_n 0, 1) := by decide +kernel
theorem dX6_raise_44 : decode cX6_raise 44 = .ok (.getfield 22, 3) := by decide +kernel
theorem dX6_raise_47 : decode cX6_raise 47 = .ok (.bipush 10, 2) := by decide +kernel
theorem dX6_raise_49 : decode cX6_raise 49 = .ok (.iload_n 1, 1) := by decide +kernel
theorem dX6_raise_50 : decode cX6_raise 50 = .ok (.iadd, 1) := by decide +kernel
theorem dX6_raise_51 : decode cX6_raise 51 = .ok (.iaload, 1) := by decide +kernel
theorem dX6_raise_52 : decode cX6_raise 52 = .ok (.ireturn, 1) := by decide +kernel
theorem dX6_changeOn_0 : decode cX6_changeOn 0 = .ok (.bipush 17, 2) := by decide +kernel
theorem dX6_changeOn_2 : decode cX6_changeOn 2 = .ok (.iload_n 1, 1) := by decide +kernel
theorem dX6_changeOn_3 : decode cX6_changeOn 3 = .ok (.imul, 1) := by decide +kernel
theorem dX6_changeOn_4 : decode cX6_changeOn 4 = .ok (.istore 4, 2) := by decide +kernel
theorem dX6_changeOn_6 : decode cX6_changeOn 6 = .ok (.aload_n 0, 1) := by decide +kernel
theorem dX6_changeOn_7 : decode cX6_changeOn 7 = .ok (.getfield 22, 3) := by decide +kernel
theorem dX6_changeOn_10 : decode cX6_changeOn 10 = .ok (.iload 4, 2) := by decide +kernel
theorem dX6_changeOn_12 : decode cX6_changeOn 12 = .ok (.iload_n 2, 1) := by decide +kernel
theorem dX6_changeOn_13 : decode cX6_changeOn 13 = .ok (.iadd, 1) := by decide +kernel
theorem dX6_changeOn_14 : decode cX6_changeOn 14 = .ok (.iaload, 1) := by decide +kernel
theorem dX6_changeOn_15 : decode cX6_changeOn 15 = .ok (.istore 5, 2) := by decide +kernel
theorem dX6_changeOn_17 : decode cX6_changeOn 17 = .ok (.aload_n 0, 1) := by decide +kernel
theorem dX6_changeOn_18 : decode cX6_changeOn 18 = .ok (.getfield 22, 3) := by decide +kernel
theorem dX6_changeOn_21 : decode cX6_changeOn 21 = .ok (.iload 4, 2) := by decide +kernel
theorem dX6_changeOn_23 : decode cX6_changeOn 23 = .ok (.iload_n 2, 1) := by decide +kernel
theorem dX6_changeOn_24 : decode cX6_changeOn 24 = .ok (.iadd, 1) := by decide +kernel
theorem dX6_changeOn_25 : decode cX6_changeOn 25 = .ok (.aload_n 0, 1) := by decide +kernel
theorem dX6_changeOn_26 : decode cX6_changeOn 26 = .ok (.getfield 22, 3) := by decide +kernel
theorem dX6_changeOn_29 : decode cX6_changeOn 29 = .ok (.iload 4, 2) := by decide +kernel
theorem dX6_changeOn_31 : decode cX6_changeOn 31 = .ok (.iload_n 3, 1) := by decide +kernel
theorem dX6_changeOn_32 : decode cX6_changeOn 32 = .ok (.iadd, 1) := by decide +kernel
theorem dX6_changeOn_33 : decode cX6_changeOn 33 = .ok (.iaload, 1) := by decide +kernel
theorem dX6_changeOn_34 : decode cX6_changeOn 34 = .ok (.iastore, 1) := by decide +kernel
theorem dX6_changeOn_35 : decode cX6_changeOn 35 = .ok (.aload_n 0, 1) := by decide +kernel
theorem dX6_changeOn_36 : decode cX6_changeOn 36 = .ok (.getfield 22, 3) := by decide +kernel
theorem dX6_changeOn_39 : decode cX6_changeOn 39 = .ok (.iload 4, 2) := by decide +kernel
theorem dX6_changeOn_41 : decode cX6_changeOn 41 = .ok (.iload_n 3, 1) := by decide +kernel
theorem dX6_changeOn_42 : decode cX6_changeOn 42 = .ok (.iadd, 1) := by decide +kernel
theorem dX6_changeOn_43 : decode cX6_changeOn 43 = .ok (.iload 5, 2) := by decide +kernel
theorem dX6_changeOn_45 : decode cX6_changeOn 45 = .ok (.iastore, 1) := by decide +kernel
theorem dX6_changeOn_46 : decode cX6_changeOn 46 = .ok (.return_, 1) := by decide +kernel
set_option maxRecDepth 20000 in
theorem ggX6_change_X6_isHouse : GoodIn wsX6_change wsX6_isHouse := goodIn_r _ [5, 6, 7, 8, 4, 9, 26, 27, 28, 29, 30, 31, 32, 33, 34, 35, 36, 37, 38, 39, 40, 41, 42, 43, 44, 45, 46, 47, 48, 49, 50, 51, 52, 53] (by decide +kernel) (by decide +kernel)
set_option maxRecDepth 20000 in
theorem gX6_change_X6_isHouse : GoodIn wsX6_change (wsV RX6 131 RX6 yX6_isHouse wsX6_isHouse) := goodIn_app (goodIn_of _ (by decide +kernel)) ggX6_change_X6_isHouse
set_option maxRecDepth 20000 in
theorem ggX6_change_X6_keepAct : GoodIn wsX6_change wsX6_keepAct := goodIn_r _ [13, 14, 15, 16, 17, 26, 27, 28, 29, 30, 31, 32, 33, 34, 35, 36, 37, 38, 39, 40, 41, 42, 43, 44, 45, 46, 47, 48, 49, 50, 51, 52, 53] (by decide +kernel) (by decide +kernel)
set_option maxRecDepth 20000 in
theorem gX6_change_X6_keepAct : GoodIn wsX6_change (wsV RX6 146 RX6 yX6_keepAct wsX6_keepAct) := goodIn_app (goodIn_of _ (by decide +kernel)) ggX6_change_X6_keepAct
set_option maxRecDepth 20000 in
theorem ggX6_change_X6_changeOn : GoodIn wsX6_change wsX6_changeOn := goodIn_r _ [21, 16, 26, 27, 28, 29, 30, 31, 32, 33, 34, 35, 36, 37, 38, 39, 40, 41, 42, 43, 44, 45, 46, 47, 48, 49, 50, 51, 52, 53] (by decide +kernel) (by decide +kernel)
set_option maxRecDepth 20000 in
theorem gX6_change_X6_changeOn : GoodIn wsX6_change (wsV RX6 152 RX6 yX6_changeOn wsX6_changeOn) := goodIn_app (goodIn_of _ (by decide +kernel)) ggX6_change_X6_changeOn
set_option maxRecDepth 20000 in
theorem ggX6_change_X6_knowsAt : GoodIn wsX6_change wsX6_knowsAt := goodIn_r _ [25, 16, 26, 27, 28, 29, 30, 31, 32, 33, 34, 35, 36, 37, 38, 39, 40, 41, 42, 43, 44, 45, 46, 47, 48, 49, 50, 51, 52, 53] (by decide +kernel) (by decide +kernel)
set_option maxRecDepth 20000 in
theorem gX6_change_X6_knowsAt : GoodIn wsX6_change (wsV RX6 134 RX6 yX6_knowsAt wsX6_knowsAt) := goodIn_app (goodIn_of _ (by decide +kernel)) ggX6_change_X6_knowsAt
theorem dX6_change_0 : decode cX6_change 0 = .ok (.aload_n 0, 1) := by decide +kernel
theorem dX6_change_1 : decode cX6_change 1 = .ok (.iload_n 1, 1) := by decide +kernel
theorem dX6_change_2 : decode cX6_change 2 = .ok (.invokevirtual 131, 3) := by decide +kernel
theorem dX6_change_5 : decode cX6_change 5 = .ok (.ifCond .eq 11, 3) := by decide +kernel
theorem dX6_change_8 : decode cX6_change 8 = .ok (.aload_n 0, 1) := by decide +kernel
theorem dX6_change_9 : decode cX6_change 9 = .ok (.iload_n 2, 1) := by decide +kernel
theorem dX6_change_10 : decode cX6_change 10 = .ok (.invokevirtual 131, 3) := by decide +kernel
theorem dX6_change_13 : decode cX6_change 13 = .ok (.ifCond .ne 5, 3) := by decide +kernel
theorem dX6_change_16 : decode cX6_change 16 = .ok (.iconst (-1), 1) := by decide +kernel
theorem dX6_change_17 : decode cX6_change 17 = .ok (.ireturn, 1) := by decide +kernel
theorem dX6_change_18 : decode cX6_change 18 = .ok (.iload_n 1, 1) := by decide +kernel
theorem dX6_change_19 : decode cX6_change 19 = .ok (.iload_n 2, 1) := by decide +kernel
theorem dX6_change_20 : decode cX6_change 20 = .ok (.if_icmp .ne 6, 3) := by decide +kernel
theorem dX6_change_23 : decode cX6_change 23 = .ok (.bipush (-2), 2) := by decide +kernel
theorem dX6_change_25 : decode cX6_change 25 = .ok (.ireturn, 1) := by decide +kernel
theorem dX6_change_26 : decode cX6_change 26 = .ok (.aload_n 0, 1) := by decide +kernel
theorem dX6_change_27 : decode cX6_change 27 = .ok (.invokevirtual 146, 3) := by decide +kernel
theorem dX6_change_30 : decode cX6_change 30 = .ok (.aload_n 0, 1) := by decide +kernel
theorem dX6_change_31 : decode cX6_change 31 = .ok (.iconst 0, 1) := by decide +kernel
theorem dX6_change_32 : decode cX6_change 32 = .ok (.iload_n 1, 1) := by decide +kernel
theorem dX6_change_33 : decode cX6_change 33 = .ok (.iload_n 2, 1) := by decide +kernel
theorem dX6_change_34 : decode cX6_change 34 = .ok (.invokevirtual 152, 3) := by decide +kernel
theorem dX6_change_37 : decode cX6_change 37 = .ok (.aload_n 0, 1) := by decide +kernel
theorem dX6_change_38 : decode cX6_change 38 = .ok (.iconst 0, 1) := by decide +kernel
theorem dX6_change_39 : decode cX6_change 39 = .ok (.iload_n 1, 1) := by decide +kernel
theorem dX6_change_40 : decode cX6_change 40 = .ok (.invokevirtual 134, 3) := by decide +kernel
theorem dX6_change_43 : decode cX6_change 43 = .ok (.ireturn, 1) := by decide +kernel
set_option maxRecDepth 20000 in
theorem ggX6_plateOn_X6_knowsAt : GoodIn wsX6_plateOn wsX6_knowsAt := goodIn_r _ [6, 1, 7, 8, 9, 10, 11, 12, 13, 14, 15, 16, 17, 18, 19, 20, 21, 22, 23, 24, 25, 26, 27, 28, 29, 30, 31, 32, 33, 34] (by decide +kernel) (by decide +kernel)
set_option maxRecDepth 20000 in
theorem gX6_plateOn_X6_knowsAt : GoodIn wsX6_plateOn (wsV RX6 134 RX6 yX6_knowsAt wsX6_knowsAt) := goodIn_app (goodIn_of _ (by decide +kernel)) ggX6_plateOn_X6_knowsAt
theorem dX6_plateOn_0 : decode cX6_plateOn 0 = .ok (.bipush 17, 2) := by decide +kernel
theorem dX6_plateOn_2 : decode cX6_plateOn 2 = .ok (.iload_n 1, 1) := by decide +kernel
theorem dX6_plateOn_3 : decode cX6_plateOn 3 = .ok (.imul, 1) := by decide +kernel
theorem dX6_plateOn_4 : decode cX6_plateOn 4 = .ok (.istore_n 3, 1) := by decide +kernel
theorem dX6_plateOn_5 : decode cX6_plateOn 5 = .ok (.aload_n 0, 1) := by decide +kernel
theorem dX6_plateOn_6 : decode cX6_plateOn 6 = .ok (.getfield 22, 3) := by decide +kernel
theorem dX6_plateOn_9 : decode cX6_plateOn 9 = .ok (.iload_n 3, 1) := by decide +kernel
theorem dX6_plateOn_10 : decode cX6_plateOn 10 = .ok (.iconst 5, 1) := by decide +kernel
theorem dX6_plateOn_11 : decode cX6_plateOn 11 = .ok (.iadd, 1) := by decide +kernel
theorem dX6_plateOn_12 : decode cX6_plateOn 12 = .ok (.aload_n 0, 1) := by decide +kernel
theorem dX6_plateOn_13 : decode cX6_plateOn 13 = .ok (.getfield 22, 3) := by decide +kernel
theorem dX6_plateOn_16 : decode cX6_plateOn 16 = .ok (.iload_n 3, 1) := by decide +kernel
theorem dX6_plateOn_17 : decode cX6_plateOn 17 = .ok (.iload_n 2, 1) := by decide +kernel
theorem dX6_plateOn_18 : decode cX6_plateOn 18 = .ok (.iadd, 1) := by decide +kernel
theorem dX6_plateOn_19 : decode cX6_plateOn 19 = .ok (.iconst 1, 1) := by decide +kernel
theorem dX6_plateOn_20 : decode cX6_plateOn 20 = .ok (.iadd, 1) := by decide +kernel
theorem dX6_plateOn_21 : decode cX6_plateOn 21 = .ok (.iaload, 1) := by decide +kernel
theorem dX6_plateOn_22 : decode cX6_plateOn 22 = .ok (.iadd, 1) := by decide +kernel
theorem dX6_plateOn_23 : decode cX6_plateOn 23 = .ok (.dup2, 1) := by decide +kernel
theorem dX6_plateOn_24 : decode cX6_plateOn 24 = .ok (.iaload, 1) := by decide +kernel
theorem dX6_plateOn_25 : decode cX6_plateOn 25 = .ok (.aload_n 0, 1) := by decide +kernel
theorem dX6_plateOn_26 : decode cX6_plateOn 26 = .ok (.iload_n 1, 1) := by decide +kernel
theorem dX6_plateOn_27 : decode cX6_plateOn 27 = .ok (.iload_n 2, 1) := by decide +kernel
theorem dX6_plateOn_28 : decode cX6_plateOn 28 = .ok (.invokevirtual 134, 3) := by decide +kernel
theorem dX6_plateOn_31 : decode cX6_plateOn 31 = .ok (.ior, 1) := by decide +kernel
theorem dX6_plateOn_32 : decode cX6_plateOn 32 = .ok (.iastore, 1) := by decide +kernel
theorem dX6_plateOn_33 : decode cX6_plateOn 33 = .ok (.return_, 1) := by decide +kernel
set_option maxRecDepth 20000 in
theorem ggX6_plate_X6_isHouse : GoodIn wsX6_plate wsX6_isHouse := goodIn_r _ [5, 6, 7, 8, 4, 9, 26, 27, 28, 29, 30, 31, 32, 33, 34, 35, 36, 37, 38, 39, 40, 41, 42, 43, 44, 45, 46, 47, 48, 49, 50, 51, 52, 53] (by decide +kernel) (by decide +kernel)
set_option maxRecDepth 20000 in
theorem gX6_plate_X6_isHouse : GoodIn wsX6_plate (wsV RX6 131 RX6 yX6_isHouse wsX6_isHouse) := goodIn_app (goodIn_of _ (by decide +kernel)) ggX6_plate_X6_isHouse
set_option maxRecDepth 20000 in
theorem ggX6_plate_X6_keepAct : GoodIn wsX6_plate wsX6_keepAct := goodIn_r _ [13, 14, 15, 16, 17, 26, 27, 28, 29, 30, 31, 32, 33, 34, 35, 36, 37, 38, 39, 40, 41, 42, 43, 44, 45, 46, 47, 48, 49, 50, 51, 52, 53] (by decide +kernel) (by decide +kernel)
set_option maxRecDepth 20000 in
theorem gX6_plate_X6_keepAct : GoodIn wsX6_plate (wsV RX6 146 RX6 yX6_keepAct wsX6_keepAct) := goodIn_app (goodIn_of _ (by decide +kernel)) ggX6_plate_X6_keepAct
set_option maxRecDepth 20000 in
theorem ggX6_plate_X6_plateOn : GoodIn wsX6_plate wsX6_plateOn := goodIn_r _ [21, 16, 22, 23, 24, 4, 25, 26, 27, 28, 29, 30, 31, 32, 33, 34, 35, 36, 37, 38, 39, 40, 41, 42, 43, 44, 45, 46, 47, 48, 49, 50, 51, 52, 53] (by decide +kernel) (by decide +kernel)
set_option maxRecDepth 20000 in
theorem gX6_plate_X6_plateOn : GoodIn wsX6_plate (wsV RX6 156 RX6 yX6_plateOn wsX6_plateOn) := goodIn_app (goodIn_of _ (by decide +kernel)) ggX6_plate_X6_plateOn
set_option maxRecDepth 20000 in
theorem ggX6_plate_X6_knowsAt : GoodIn wsX6_plate wsX6_knowsAt := goodIn_r _ [25, 16, 26, 27, 28, 29, 30, 31, 32, 33, 34, 35, 36, 37, 38, 39, 40, 41, 42, 43, 44, 45, 46, 47, 48, 49, 50, 51, 52, 53] (by decide +kernel) (by decide +kernel)
set_option maxRecDepth 20000 in
theorem gX6_plate_X6_knowsAt : GoodIn wsX6_plate (wsV RX6 134 RX6 yX6_knowsAt wsX6_knowsAt) := goodIn_app (goodIn_of _ (by decide +kernel)) ggX6_plate_X6_knowsAt
theorem dX6_plate_0 : decode cX6_plate 0 = .ok (.aload_n 0, 1) := by decide +kernel
theorem dX6_plate_1 : decode cX6_plate 1 = .ok (.iload_n 1, 1) := by decide +kernel
theorem dX6_plate_2 : decode cX6_plate 2 = .ok (.invokevirtual 131, 3) := by decide +kernel
theorem dX6_plate_5 : decode cX6_plate 5 = .ok (.ifCond .ne 5, 3) := by decide +kernel
theorem dX6_plate_8 : decode cX6_plate 8 = .ok (.iconst (-1), 1) := by decide +kernel
theorem dX6_plate_9 : decode cX6_plate 9 = .ok (.ireturn, 1) := by decide +kernel
theorem dX6_plate_10 : decode cX6_plate 10 = .ok (.aload_n 0, 1) := by decide +kernel
theorem dX6_plate_11 : decode cX6_plate 11 = .ok (.iload_n 1, 1) := by decide +kernel
theorem dX6_plate_12 : decode cX6_plate 12 = .ok (.iconst 1, 1) := by decide +kernel
theorem dX6_plate_13 : decode cX6_plate 13 = .ok (.iadd, 1) := by decide +kernel
theorem dX6_plate_14 : decode cX6_plate 14 = .ok (.invokevirtual 131, 3) := by decide +kernel
theorem dX6_plate_17 : decode cX6_plate 17 = .ok (.ifCond .ne 6, 3) := by decide +kernel
theorem dX6_plate_20 : decode cX6_plate 20 = .ok (.bipush (-3), 2) := by decide +kernel
theorem dX6_plate_22 : decode cX6_plate 22 = .ok (.ireturn, 1) := by decide +kernel
theorem dX6_plate_23 : decode cX6_plate 23 = .ok (.aload_n 0, 1) := by decide +kernel
theorem dX6_plate_24 : decode cX6_plate 24 = .ok (.invokevirtual 146, 3) := by decide +kernel
theorem dX6_plate_27 : decode cX6_plate 27 = .ok (.aload_n 0, 1) := by decide +kernel
theorem dX6_plate_28 : decode cX6_plate 28 = .ok (.iconst 0, 1) := by decide +kernel
theorem dX6_plate_29 : decode cX6_plate 29 = .ok (.iload_n 1, 1) := by decide +kernel
theorem dX6_plate_30 : decode cX6_plate 30 = .ok (.invokevirtual 156, 3) := by decide +kernel
theorem dX6_plate_33 : decode cX6_plate 33 = .ok (.aload_n 0, 1) := by decide +kernel
theorem dX6_plate_34 : decode cX6_plate 34 = .ok (.iconst 0, 1) := by decide +kernel
theorem dX6_plate_35 : decode cX6_plate 35 = .ok (.iload_n 1, 1) := by decide +kernel
theorem dX6_plate_36 : decode cX6_plate 36 = .ok (.iconst 1, 1) := by decide +kernel
theorem dX6_plate_37 : decode cX6_plate 37 = .ok (.iadd, 1) := by decide +kernel
theorem dX6_plate_38 : decode cX6_plate 38 = .ok (.invokevirtual 134, 3) := by decide +kernel
theorem dX6_plate_41 : decode cX6_plate 41 = .ok (.ireturn, 1) := by decide +kernel
theorem dX6_undo_0 : decode cX6_undo 0 = .ok (.aload_n 0, 1) := by decide +kernel
theorem dX6_undo_1 : decode cX6_undo 1 = .ok (.getfield 102, 3) := by decide +kernel
theorem dX6_undo_4 : decode cX6_undo 4 = .ok (.ifCond .ne 6, 3) := by decide +kernel
theorem dX6_undo_7 : decode cX6_undo 7 = .ok (.bipush (-3), 2) := by decide +kernel
theorem dX6_undo_9 : decode cX6_undo 9 = .ok (.ireturn, 1) := by decide +kernel
theorem dX6_undo_10 : decode cX6_undo 10 = .ok (.aload_n 0, 1) := by decide +kernel
theorem dX6_undo_11 : decode cX6_undo 11 = .ok (.dup, 1) := by decide +kernel
theorem dX6_undo_12 : decode cX6_undo 12 = .ok (.getfield 102, 3) := by decide +kernel
theorem dX6_undo_15 : decode cX6_undo 15 = .ok (.iconst 1, 1) := by decide +kernel
theorem dX6_undo_16 : decode cX6_undo 16 = .ok (.isub, 1) := by decide +kernel
theorem dX6_undo_17 : decode cX6_undo 17 = .ok (.putfield 102, 3) := by decide +kernel
theorem dX6_undo_20 : decode cX6_undo 20 = .ok (.aload_n 0, 1) := by decide +kernel
theorem dX6_undo_21 : decode cX6_undo 21 = .ok (.aload_n 0, 1) := by decide +kernel
theorem dX6_undo_22 : decode cX6_undo 22 = .ok (.getfield 143, 3) := by decide +kernel
theorem dX6_undo_25 : decode cX6_undo 25 = .ok (.bipush 13, 2) := by decide +kernel
theorem dX6_undo_27 : decode cX6_undo 27 = .ok (.iadd, 1) := by decide +kernel
theorem dX6_undo_28 : decode cX6_undo 28 = .ok (.bipush 14, 2) := by decide +kernel
theorem dX6_undo_30 : decode cX6_undo 30 = .ok (.irem, 1) := by decide +kernel
theorem dX6_undo_31 : decode cX6_undo 31 = .ok (.putfield 143, 3) := by decide +kernel
theorem dX6_undo_34 : decode cX6_undo 34 = .ok (.iconst 0, 1) := by decide +kernel
theorem dX6_undo_35 : decode cX6_undo 35 = .ok (.istore_n 1, 1) := by decide +kernel
theorem dX6_undo_36 : decode cX6_undo 36 = .ok (.iload_n 1, 1) := by decide +kernel
theorem dX6_undo_37 : decode cX6_undo 37 = .ok (.bipush 17, 2) := by decide +kernel
theorem dX6_undo_39 : decode cX6_undo 39 = .ok (.if_icmp .ge 29, 3) := by decide +kernel
theorem dX6_undo_42 : decode cX6_undo 42 = .ok (.aload_n 0, 1) := by decide +kernel
theorem dX6_undo_43 : decode cX6_undo 43 = .ok (.getfield 22, 3) := by decide +kernel
theorem dX6_undo_46 : decode cX6_undo 46 = .ok (.iload_n 1, 1) := by decide +kernel
theorem dX6_undo_47 : decode cX6_undo 47 = .ok (.aload_n 0, 1) := by decide +kernel
theorem dX6_undo_48 : decode cX6_undo 48 = .ok (.getfield 37, 3) := by decide +kernel
theorem dX6_undo_51 : decode cX6_undo 51 = .ok (.bipush 17, 2) := by decide +kernel
theorem dX6_undo_53 : decode cX6_undo 53 = .ok (.aload_n 0, 1) := by decide +kernel
theorem dX6_undo_54 : decode cX6_undo 54 = .ok (.getfield 143, 3) := by decide +kernel
theorem dX6_undo_57 : decode cX6_undo 57 = .ok (.imul, 1) := by decide +kernel
theorem dX6_undo_58 : decode cX6_undo 58 = .ok (.iload_n 1, 1) := by decide +kernel
theorem dX6_undo_59 : decode cX6_undo 59 = .ok (.iadd, 1) := by decide +kernel
theorem dX6_undo_60 : decode cX6_undo 60 = .ok (.iaload, 1) := by decide +kernel
theorem dX6_undo_61 : decode cX6_undo 61 = .ok (.iastore, 1) := by decide +kernel
theorem dX6_undo_62 : decode cX6_undo 62 = .ok (.iinc 1 1, 3) := by decide +kernel
theorem dX6_undo_65 : decode cX6_undo 65 = .ok (.goto (-29), 3) := by decide +kernel
theorem dX6_undo_68 : decode cX6_undo 68 = .ok (.aload_n 0, 1) := by decide +kernel
theorem dX6_undo_69 : decode cX6_undo 69 = .ok (.getfield 102, 3) := by decide +kernel
theorem dX6_undo_72 : decode cX6_undo 72 = .ok (.ireturn, 1) := by decide +kernel
theorem dX6_layTrial_0 : decode cX6_layTrial 0 = .ok (.iconst 0, 1) := by decide +kernel
theorem dX6_layTrial_1 : decode cX6_layTrial 1 = .ok (.istore_n 1, 1) := by decide +kernel
theorem dX6_layTrial_2 : decode cX6_layTrial 2 = .ok (.iload_n 1, 1) := by decide +kernel
theorem dX6_layTrial_3 : decode cX6_layTrial 3 = .ok (.bipush 17, 2) := by decide +kernel
theorem dX6_layTrial_5 : decode cX6_layTrial 5 = .ok (.if_icmp .ge 24, 3) := by decide +kernel
theorem dX6_layTrial_8 : decode cX6_layTrial 8 = .ok (.aload_n 0, 1) := by decide +kernel
theorem dX6_layTrial_9 : decode cX6_layTrial 9 = .ok (.getfield 22, 3) := by decide +kernel
theorem dX6_layTrial_12 : decode cX6_layTrial 12 = .ok (.bipush 17, 2) := by decide +kernel
theorem dX6_layTrial_14 : decode cX6_layTrial 14 = .ok (.iload_n 1, 1) := by decide +kernel
theorem dX6_layTrial_15 : decode cX6_layTrial 15 = .ok (.iadd, 1) := by decide +kernel
theorem dX6_layTrial_16 : decode cX6_layTrial 16 = .ok (.aload_n 0, 1) := by decide +kernel
theorem dX6_layTrial_17 : decode cX6_layTrial 17 = .ok (.getfield 22, 3) := by decide +kernel
theorem dX6_layTrial_20 : decode cX6_layTrial 20 = .ok (.iload_n 1, 1) := by decide +kernel
theorem dX6_layTrial_21 : decode cX6_layTrial 21 = .ok (.iaload, 1) := by decide +kernel
theorem dX6_layTrial_22 : decode cX6_layTrial 22 = .ok (.iastore, 1) := by decide +kernel
theorem dX6_layTrial_23 : decode cX6_layTrial 23 = .ok (.iinc 1 1, 3) := by decide +kernel
theorem dX6_layTrial_26 : decode cX6_layTrial 26 = .ok (.goto (-24), 3) := by decide +kernel
theorem dX6_layTrial_29 : decode cX6_layTrial 29 = .ok (.return_, 1) := by decide +kernel
set_option maxRecDepth 20000 in
theorem ggX6_goOn_X6_rainOn : GoodIn wsX6_goOn wsX6_rainOn := goodIn_r _ [5, 6, 7, 8, 43, 44, 45, 46, 47, 48, 49, 50, 51, 52, 53, 54, 55, 56, 57, 58, 59, 60, 61, 62, 63, 64, 65, 66, 67, 68, 69, 70] (by decide +kernel) (by decide +kernel)
set_option maxRecDepth 20000 in
theorem gX6_goOn_X6_rainOn : GoodIn wsX6_goOn (wsV RX6 138 RX6 yX6_rainOn wsX6_rainOn) := goodIn_app (goodIn_of _ (by decide +kernel)) ggX6_goOn_X6_rainOn
set_option maxRecDepth 20000 in
theorem ggX6_goOn_X6_hourBy : GoodIn wsX6_goOn wsX6_hourBy := goodIn_r _ [12, 13, 8, 14, 15, 16, 17, 4, 18, 19, 20, 21, 22, 23, 24, 25, 26, 27, 28, 29, 30, 31, 32, 33, 34, 35, 36, 37, 38, 39, 40, 41, 42, 43, 44, 45, 46, 47, 48, 49, 50, 51, 52, 53, 54, 55, 56, 57, 58, 59, 60, 61, 62, 63, 64, 65, 66, 67, 68, 69, 70] (by decide +kernel) (by decide +kernel)
set_option maxRecDepth 20000 in
theorem gX6_goOn_X6_hourBy : GoodIn wsX6_goOn (wsV RX6 149 RX6 yX6_hourBy wsX6_hourBy) := goodIn_app (goodIn_of _ (by decide +kernel)) ggX6_goOn_X6_hourBy
theorem dX6_goOn_0 : decode cX6_goOn 0 = .ok (.iconst 0, 1) := by decide +kernel
theorem dX6_goOn_1 : decode cX6_goOn 1 = .ok (.istore_n 2, 1) := by decide +kernel
theorem dX6_goOn_2 : decode cX6_goOn 2 = .ok (.iload_n 2, 1) := by decide +kernel
theorem dX6_goOn_3 : decode cX6_goOn 3 = .ok (.iload_n 1, 1) := by decide +kernel
theorem dX6_goOn_4 : decode cX6_goOn 4 = .ok (.if_icmp .ge 20, 3) := by decide +kernel
theorem dX6_goOn_7 : decode cX6_goOn 7 = .ok (.aload_n 0, 1) := by decide +kernel
theorem dX6_goOn_8 : decode cX6_goOn 8 = .ok (.iconst 1, 1) := by decide +kernel
theorem dX6_goOn_9 : decode cX6_goOn 9 = .ok (.aload_n 0, 1) := by decide +kernel
theorem dX6_goOn_10 : decode cX6_goOn 10 = .ok (.iconst 1, 1) := by decide +kernel
theorem dX6_goOn_11 : decode cX6_goOn 11 = .ok (.invokevirtual 138, 3) := by decide +kernel
theorem dX6_goOn_14 : decode cX6_goOn 14 = .ok (.invokevirtual 149, 3) := by decide +kernel
theorem dX6_goOn_17 : decode cX6_goOn 17 = .ok (.pop, 1) := by decide +kernel
theorem dX6_goOn_18 : decode cX6_goOn 18 = .ok (.iinc 2 1, 3) := by decide +kernel
theorem dX6_goOn_21 : decode cX6_goOn 21 = .ok (.goto (-19), 3) := by decide +kernel
theorem dX6_goOn_24 : decode cX6_goOn 24 = .ok (.return_, 1) := by decide +kernel
set_option maxRecDepth 20000 in
theorem ggX6_later_X6_isHouse : GoodIn wsX6_later wsX6_isHouse := goodIn_r _ [6, 7, 8, 9, 5, 10, 63, 64, 65, 66, 67, 68, 69, 70, 71, 72, 73, 74, 75, 76, 77, 78, 79, 80, 81, 82, 83, 84, 85, 86, 87, 88, 89, 90] (by decide +kernel) (by decide +kernel)
set_option maxRecDepth 20000 in
theorem gX6_later_X6_isHouse : GoodIn wsX6_later (wsV RX6 131 RX6 yX6_isHouse wsX6_isHouse) := goodIn_app (goodIn_of _ (by decide +kernel)) ggX6_later_X6_isHouse
set_option maxRecDepth 20000 in
theorem ggX6_later_X6_in : GoodIn wsX6_later wsX6_in := goodIn_r _ [10] (by decide +kernel) (by decide +kernel)
set_option maxRecDepth 20000 in
theorem gX6_later_X6_in : GoodIn wsX6_later (va_wsS RX6 58 yX6_in wsX6_in) := goodIn_app (goodIn_of _ (by decide +kernel)) ggX6_later_X6_in
set_option maxRecDepth 20000 in
theorem ggX6_later_X6_layTrial : GoodIn wsX6_later wsX6_layTrial := goodIn_r _ [14, 15, 63, 64, 65, 66, 67, 68, 69, 70, 71, 72, 73, 74, 75, 76, 77, 78, 79, 80, 81, 82, 83, 84, 85, 86, 87, 88, 89, 90] (by decide +kernel) (by decide +kernel)
set_option maxRecDepth 20000 in
theorem gX6_later_X6_layTrial : GoodIn wsX6_later (wsV RX6 162 RX6 yX6_layTrial wsX6_layTrial) := goodIn_app (goodIn_of _ (by decide +kernel)) ggX6_later_X6_layTrial
set_option maxRecDepth 20000 in
theorem ggX6_later_X6_goOn : GoodIn wsX6_later wsX6_goOn := goodIn_r _ [19, 20, 21, 22, 5, 23, 24, 25, 15, 26, 27, 28, 29, 7, 30, 31, 32, 33, 34, 35, 36, 37, 38, 39, 40, 41, 42, 43, 44, 45, 46, 47, 48, 49, 50, 51, 52, 53, 54, 55, 56, 57, 58, 63, 64, 65, 66, 67, 68, 69, 70, 71, 72, 73, 74, 75, 76, 77, 78, 79, 80, 81, 82, 83, 84, 85, 86, 87, 88, 89, 90] (by decide +kernel) (by decide +kernel)
set_option maxRecDepth 20000 in
theorem gX6_later_X6_goOn : GoodIn wsX6_later (wsV RX6 165 RX6 yX6_goOn wsX6_goOn) := goodIn_app (goodIn_of _ (by decide +kernel)) ggX6_later_X6_goOn
set_option maxRecDepth 20000 in
theorem ggX6_later_X6_knowsAt : GoodIn wsX6_later wsX6_knowsAt := goodIn_r _ [62, 15, 63, 64, 65, 66, 67, 68, 69, 70, 71, 72, 73, 74, 75, 76, 77, 78, 79, 80, 81, 82, 83, 84, 85, 86, 87, 88, 89, 90] (by decide +kernel) (by decide +kernel)
set_option maxRecDepth 20000 in
theorem gX6_later_X6_knowsAt : GoodIn wsX6_later (wsV RX6 134 RX6 yX6_knowsAt wsX6_knowsAt) := goodIn_app (goodIn_of _ (by decide +kernel)) ggX6_later_X6_knowsAt
theorem dX6_later_0 : decode cX6_later 0 = .ok (.aload_n 0, 1) := by decide +kernel
theorem dX6_later_1 : decode cX6_later 1 = .ok (.iload_n 1, 1) := by decide +kernel
theorem dX6_later_2 : decode cX6_later 2 = .ok (.invokevirtual 131, 3) := by decide +kernel
theorem dX6_later_5 : decode cX6_later 5 = .ok (.ifCond .ne 5, 3) := by decide +kernel
theorem dX6_later_8 : decode cX6_later 8 = .ok (.iconst (-1), 1) := by decide +kernel
theorem dX6_later_9 : decode cX6_later 9 = .ok (.ireturn, 1) := by decide +kernel
theorem dX6_later_10 : decode cX6_later 10 = .ok (.iload_n 2, 1) := by decide +kernel
theorem dX6_later_11 : decode cX6_later 11 = .ok (.i2l, 1) := by decide +kernel
theorem dX6_later_12 : decode cX6_later 12 = .ok (.lconst 0, 1) := by decide +kernel
theorem dX6_later_13 : decode cX6_later 13 = .ok (.ldc2_w 160, 3) := by decide +kernel
theorem dX6_later_16 : decode cX6_later 16 = .ok (.invokestatic 58, 3) := by decide +kernel
theorem dX6_later_19 : decode cX6_later 19 = .ok (.ifCond .ne 6, 3) := by decide +kernel
theorem dX6_later_22 : decode cX6_later 22 = .ok (.bipush (-2), 2) := by decide +kernel
theorem dX6_later_24 : decode cX6_later 24 = .ok (.ireturn, 1) := by decide +kernel
theorem dX6_later_25 : decode cX6_later 25 = .ok (.aload_n 0, 1) := by decide +kernel
theorem dX6_later_26 : decode cX6_later 26 = .ok (.invokevirtual 162, 3) := by decide +kernel
theorem dX6_later_29 : decode cX6_later 29 = .ok (.aload_n 0, 1) := by decide +kernel
theorem dX6_later_30 : decode cX6_later 30 = .ok (.iload_n 2, 1) := by decide +kernel
theorem dX6_later_31 : decode cX6_later 31 = .ok (.invokevirtual 165, 3) := by decide +kernel
theorem dX6_later_34 : decode cX6_later 34 = .ok (.aload_n 0, 1) := by decide +kernel
theorem dX6_later_35 : decode cX6_later 35 = .ok (.iconst 1, 1) := by decide +kernel
theorem dX6_later_36 : decode cX6_later 36 = .ok (.iload_n 1, 1) := by decide +kernel
theorem dX6_later_37 : decode cX6_later 37 = .ok (.invokevirtual 134, 3) := by decide +kernel
theorem dX6_later_40 : decode cX6_later 40 = .ok (.ireturn, 1) := by decide +kernel
set_option maxRecDepth 20000 in
theorem ggX6_first_X6_isHouse : GoodIn wsX6_first wsX6_isHouse := goodIn_r _ [5, 6, 7, 8, 4, 9, 66, 67, 68, 69, 70, 71, 72, 73, 74, 75, 76, 77, 78, 79, 80, 81, 82, 83, 84, 85, 86, 87, 88, 89, 90, 91, 92, 93] (by decide +kernel) (by decide +kernel)
set_option maxRecDepth 20000 in
theorem gX6_first_X6_isHouse : GoodIn wsX6_first (wsV RX6 131 RX6 yX6_isHouse wsX6_isHouse) := goodIn_app (goodIn_of _ (by decide +kernel)) ggX6_first_X6_isHouse
set_option maxRecDepth 20000 in
theorem ggX6_first_X6_isThing : GoodIn wsX6_first wsX6_isThing := goodIn_r _ [12, 13, 7, 8, 4, 9] (by decide +kernel) (by decide +kernel)
set_option maxRecDepth 20000 in
theorem gX6_first_X6_isThing : GoodIn wsX6_first (va_wsS RX6 168 yX6_isThing wsX6_isThing) := goodIn_app (goodIn_of _ (by decide +kernel)) ggX6_first_X6_isThing
set_option maxRecDepth 20000 in
theorem ggX6_first_X6_layTrial : GoodIn wsX6_first wsX6_layTrial := goodIn_r _ [17, 18, 66, 67, 68, 69, 70, 71, 72, 73, 74, 75, 76, 77, 78, 79, 80, 81, 82, 83, 84, 85, 86, 87, 88, 89, 90, 91, 92, 93] (by decide +kernel) (by decide +kernel)
set_option maxRecDepth 20000 in
theorem gX6_first_X6_layTrial : GoodIn wsX6_first (wsV RX6 162 RX6 yX6_layTrial wsX6_layTrial) := goodIn_app (goodIn_of _ (by decide +kernel)) ggX6_first_X6_layTrial
set_option maxRecDepth 20000 in
theorem ggX6_first_X6_knowsAt : GoodIn wsX6_first wsX6_knowsAt := goodIn_r _ [22, 18, 66, 67, 68, 69, 70, 71, 72, 73, 74, 75, 76, 77, 78, 79, 80, 81, 82, 83, 84, 85, 86, 87, 88, 89, 90, 91, 92, 93] (by decide +kernel) (by decide +kernel)
set_option maxRecDepth 20000 in
theorem gX6_first_X6_knowsAt : GoodIn wsX6_first (wsV RX6 134 RX6 yX6_knowsAt wsX6_knowsAt) := goodIn_app (goodIn_of _ (by decide +kernel)) ggX6_first_X6_knowsAt
set_option maxRecDepth 20000 in
theorem ggX6_first_X6_has : GoodIn wsX6_first wsX6_has := goodIn_r _ [25] (by decide +kernel) (by decide +kernel)
set_option maxRecDepth 20000 in
theorem gX6_first_X6_has : GoodIn wsX6_first (va_wsS RX6 121 yX6_has wsX6_has) := goodIn_app (goodIn_of _ (by decide +kernel)) ggX6_first_X6_has
set_option maxRecDepth 20000 in
theorem ggX6_first_X6_goOn : GoodIn wsX6_first wsX6_goOn := goodIn_r _ [29, 30, 31, 32, 4, 33, 34, 35, 18, 36, 37, 38, 39, 6, 40, 41, 42, 43, 44, 45, 46, 47, 48, 49, 50, 51, 52, 53, 54, 55, 56, 57, 58, 23, 24, 25, 59, 60, 61, 62, 63, 64, 65, 66, 67, 68, 69, 70, 71, 72, 73, 74, 75, 76, 77, 78, 79, 80, 81, 82, 83, 84, 85, 86, 87, 88, 89, 90, 91, 92, 93] (by decide +kernel) (by decide +kernel)
set_option maxRecDepth 20000 in
theorem gX6_first_X6_goOn : GoodIn wsX6_first (wsV RX6 165 RX6 yX6_goOn wsX6_goOn) := goodIn_app (goodIn_of _ (by decide +kernel)) ggX6_first_X6_goOn
theorem dX6_first_0 : decode cX6_first 0 = .ok (.aload_n 0, 1) := by decide +kernel
theorem dX6_first_1 : decode cX6_first 1 = .ok (.iload_n 1, 1) := by decide +kernel
theorem dX6_first_2 : decode cX6_first 2 = .ok (.invokevirtual 131, 3) := by decide +kernel
theorem dX6_first_5 : decode cX6_first 5 = .ok (.ifCond .eq 10, 3) := by decide +kernel
theorem dX6_first_8 : decode cX6_first 8 = .ok (.iload_n 2, 1) := by decide +kernel
theorem dX6_first_9 : decode cX6_first 9 = .ok (.invokestatic 168, 3) := by decide +kernel
theorem dX6_first_12 : decode cX6_first 12 = .ok (.ifCond .ne 5, 3) := by decide +kernel
theorem dX6_first_15 : decode cX6_first 15 = .ok (.iconst (-1), 1) := by decide +kernel
theorem dX6_first_16 : decode cX6_first 16 = .ok (.ireturn, 1) := by decide +kernel
theorem dX6_first_17 : decode cX6_first 17 = .ok (.aload_n 0, 1) := by decide +kernel
theorem dX6_first_18 : decode cX6_first 18 = .ok (.invokevirtual 162, 3) := by decide +kernel
theorem dX6_first_21 : decode cX6_first 21 = .ok (.iconst 0, 1) := by decide +kernel
theorem dX6_first_22 : decode cX6_first 22 = .ok (.istore_n 3, 1) := by decide +kernel
theorem dX6_first_23 : decode cX6_first 23 = .ok (.iload_n 3, 1) := by decide +kernel
theorem dX6_first_24 : decode cX6_first 24 = .ok (.bipush 30, 2) := by decide +kernel
theorem dX6_first_26 : decode cX6_first 26 = .ok (.if_icmp .gt 29, 3) := by decide +kernel
theorem dX6_first_29 : decode cX6_first 29 = .ok (.aload_n 0, 1) := by decide +kernel
theorem dX6_first_30 : decode cX6_first 30 = .ok (.iconst 1, 1) := by decide +kernel
theorem dX6_first_31 : decode cX6_first 31 = .ok (.iload_n 1, 1) := by decide +kernel
theorem dX6_first_32 : decode cX6_first 32 = .ok (.invokevirtual 134, 3) := by decide +kernel
theorem dX6_first_35 : decode cX6_first 35 = .ok (.iload_n 2, 1) := by decide +kernel
theorem dX6_first_36 : decode cX6_first 36 = .ok (.invokestatic 121, 3) := by decide +kernel
theorem dX6_first_39 : decode cX6_first 39 = .ok (.ifCond .eq 5, 3) := by decide +kernel
theorem dX6_first_42 : decode cX6_first 42 = .ok (.iload_n 3, 1) := by decide +kernel
theorem dX6_first_43 : decode cX6_first 43 = .ok (.ireturn, 1) := by decide +kernel
theorem dX6_first_44 : decode cX6_first 44 = .ok (.aload_n 0, 1) := by decide +kernel
theorem dX6_first_45 : decode cX6_first 45 = .ok (.iconst 1, 1) := by decide +kernel
theorem dX6_first_46 : decode cX6_first 46 = .ok (.invokevirtual 165, 3) := by decide +kernel
theorem dX6_first_49 : decode cX6_first 49 = .ok (.iinc 3 1, 3) := by decide +kernel
theorem dX6_first_52 : decode cX6_first 52 = .ok (.goto (-29), 3) := by decide +kernel
theorem dX6_first_55 : decode cX6_first 55 = .ok (.bipush (-9), 2) := by decide +kernel
theorem dX6_first_57 : decode cX6_first 57 = .ok (.ireturn, 1) := by decide +kernel
set_option maxRecDepth 20000 in
theorem ggX6_loweredBy_X6_layTrial : GoodIn wsX6_loweredBy wsX6_layTrial := goodIn_r _ [7, 2, 55, 56, 57, 58, 59, 60, 61, 62, 63, 64, 65, 66, 67, 68, 69, 70, 71, 72, 73, 74, 75, 76, 77, 78, 79, 80, 81, 82] (by decide +kernel) (by decide +kernel)
set_option maxRecDepth 20000 in
theorem gX6_loweredBy_X6_layTrial : GoodIn wsX6_loweredBy (wsV RX6 162 RX6 yX6_layTrial wsX6_layTrial) := goodIn_app (goodIn_of _ (by decide +kernel)) ggX6_loweredBy_X6_layTrial
set_option maxRecDepth 20000 in
theorem ggX6_loweredBy_X6_goOn : GoodIn wsX6_loweredBy wsX6_goOn := goodIn_r _ [11, 12, 13, 14, 6, 15, 16, 17, 2, 18, 19, 20, 21, 1, 22, 23, 24, 25, 26, 27, 28, 29, 30, 31, 32, 33, 34, 35, 36, 37, 38, 39, 40, 41, 42, 43, 44, 45, 46, 47, 48, 49, 50, 55, 56, 57, 58, 59, 60, 61, 62, 63, 64, 65, 66, 67, 68, 69, 70, 71, 72, 73, 74, 75, 76, 77, 78, 79, 80, 81, 82] (by decide +kernel) (by decide +kernel)
set_option maxRecDepth 20000 in
theorem gX6_loweredBy_X6_goOn : GoodIn wsX6_loweredBy (wsV RX6 165 RX6 yX6_goOn wsX6_goOn) := goodIn_app (goodIn_of _ (by decide +kernel)) ggX6_loweredBy_X6_goOn
set_option maxRecDepth 20000 in
theorem ggX6_loweredBy_X6_knowsAt : GoodIn wsX6_loweredBy wsX6_knowsAt := goodIn_r _ [54, 2, 55, 56, 57, 58, 59, 60, 61, 62, 63, 64, 65, 66, 67, 68, 69, 70, 71, 72, 73, 74, 75, 76, 77, 78, 79, 80, 81, 82] (by decide +kernel) (by decide +kernel)
set_option maxRecDepth 20000 in
theorem gX6_loweredBy_X6_knowsAt : GoodIn wsX6_loweredBy (wsV RX6 134 RX6 yX6_knowsAt wsX6_knowsAt) := goodIn_app (goodIn_of _ (by decide +kernel)) ggX6_loweredBy_X6_knowsAt
set_option maxRecDepth 20000 in
theorem ggX6_loweredBy_X6_has : GoodIn wsX6_loweredBy wsX6_has := goodIn_r _ [43] (by decide +kernel) (by decide +kernel)
set_option maxRecDepth 20000 in
theorem gX6_loweredBy_X6_has : GoodIn wsX6_loweredBy (va_wsS RX6 121 yX6_has wsX6_has) := goodIn_app (goodIn_of _ (by decide +kernel)) ggX6_loweredBy_X6_has
theorem dX6_loweredBy_0 : decode cX6_loweredBy 0 = .ok (.aload_n 0, 1) := by decide +kernel
theorem dX6_loweredBy_1 : decode cX6_loweredBy 1 = .ok (.invokevirtual 162, 3) := by decide +kernel
theorem dX6_loweredBy_4 : decode cX6_loweredBy 4 = .ok (.iload_n 1, 1) := by decide +kernel
theorem dX6_loweredBy_5 : decode cX6_loweredBy 5 = .ok (.istore 5, 2) := by decide +kernel
theorem dX6_loweredBy_7 : decode cX6_loweredBy 7 = .ok (.iconst 0, 1) := by decide +kernel
theorem dX6_loweredBy_8 : decode cX6_loweredBy 8 = .ok (.istore 6, 2) := by decide +kernel
theorem dX6_loweredBy_10 : decode cX6_loweredBy 10 = .ok (.aload_n 0, 1) := by decide +kernel
theorem dX6_loweredBy_11 : decode cX6_loweredBy 11 = .ok (.getfield 93, 3) := by decide +kernel
theorem dX6_loweredBy_14 : decode cX6_loweredBy 14 = .ok (.iconst 1, 1) := by decide +kernel
theorem dX6_loweredBy_15 : decode cX6_loweredBy 15 = .ok (.isub, 1) := by decide +kernel
theorem dX6_loweredBy_16 : decode cX6_loweredBy 16 = .ok (.istore 7, 2) := by decide +kernel
theorem dX6_loweredBy_18 : decode cX6_loweredBy 18 = .ok (.iload 7, 2) := by decide +kernel
theorem dX6_loweredBy_20 : decode cX6_loweredBy 20 = .ok (.ifCond .lt 59, 3) := by decide +kernel
theorem dX6_loweredBy_23 : decode cX6_loweredBy 23 = .ok (.aload_n 0, 1) := by decide +kernel
theorem dX6_loweredBy_24 : decode cX6_loweredBy 24 = .ok (.getfield 22, 3) := by decide +kernel
theorem dX6_loweredBy_27 : decode cX6_loweredBy 27 = .ok (.bipush 27, 2) := by decide +kernel
theorem dX6_loweredBy_29 : decode cX6_loweredBy 29 = .ok (.iload 7, 2) := by decide +kernel
theorem dX6_loweredBy_31 : decode cX6_loweredBy 31 = .ok (.iadd, 1) := by decide +kernel
theorem dX6_loweredBy_32 : decode cX6_loweredBy 32 = .ok (.dup2, 1) := by decide +kernel
theorem dX6_loweredBy_33 : decode cX6_loweredBy 33 = .ok (.iaload, 1) := by decide +kernel
theorem dX6_loweredBy_34 : decode cX6_loweredBy 34 = .ok (.iload 5, 2) := by decide +kernel
theorem dX6_loweredBy_36 : decode cX6_loweredBy 36 = .ok (.iconst 4, 1) := by decide +kernel
theorem dX6_loweredBy_37 : decode cX6_loweredBy 37 = .ok (.irem, 1) := by decide +kernel
theorem dX6_loweredBy_38 : decode cX6_loweredBy 38 = .ok (.isub, 1) := by decide +kernel
theorem dX6_loweredBy_39 : decode cX6_loweredBy 39 = .ok (.iastore, 1) := by decide +kernel
theorem dX6_loweredBy_40 : decode cX6_loweredBy 40 = .ok (.iload 6, 2) := by decide +kernel
theorem dX6_loweredBy_42 : decode cX6_loweredBy 42 = .ok (.iload 5, 2) := by decide +kernel
theorem dX6_loweredBy_44 : decode cX6_loweredBy 44 = .ok (.iconst 4, 1) := by decide +kernel
theorem dX6_loweredBy_45 : decode cX6_loweredBy 45 = .ok (.irem, 1) := by decide +kernel
theorem dX6_loweredBy_46 : decode cX6_loweredBy 46 = .ok (.iadd, 1) := by decide +kernel
theorem dX6_loweredBy_47 : decode cX6_loweredBy 47 = .ok (.istore 6, 2) := by decide +kernel
theorem dX6_loweredBy_49 : decode cX6_loweredBy 49 = .ok (.iload 5, 2) := by decide +kernel
theorem dX6_loweredBy_51 : decode cX6_loweredBy 51 = .ok (.iconst 4, 1) := by decide +kernel
theorem dX6_loweredBy_52 : decode cX6_loweredBy 52 = .ok (.idiv, 1) := by decide +kernel
theorem dX6_loweredBy_53 : decode cX6_loweredBy 53 = .ok (.istore 5, 2) := by decide +kernel
theorem dX6_loweredBy_55 : decode cX6_loweredBy 55 = .ok (.aload_n 0, 1) := by decide +kernel
theorem dX6_loweredBy_56 : decode cX6_loweredBy 56 = .ok (.getfield 22, 3) := by decide +kernel
theorem dX6_loweredBy_59 : decode cX6_loweredBy 59 = .ok (.bipush 27, 2) := by decide +kernel
theorem dX6_loweredBy_61 : decode cX6_loweredBy 61 = .ok (.iload 7, 2) := by decide +kernel
theorem dX6_loweredBy_63 : decode cX6_loweredBy 63 = .ok (.iadd, 1) := by decide +kernel
theorem dX6_loweredBy_64 : decode cX6_loweredBy 64 = .ok (.iaload, 1) := by decide +kernel
theorem dX6_loweredBy_65 : decode cX6_loweredBy 65 = .ok (.bipush (-3), 2) := by decide +kernel
theorem dX6_loweredBy_67 : decode cX6_loweredBy 67 = .ok (.if_icmp .ge 6, 3) := by decide +kernel
theorem dX6_loweredBy_70 : decode cX6_loweredBy 70 = .ok (.bipush (-9), 2) := by decide +kernel
theorem dX6_loweredBy_72 : decode cX6_loweredBy 72 = .ok (.ireturn, 1) := by decide +kernel
theorem dX6_loweredBy_73 : decode cX6_loweredBy 73 = .ok (.iinc 7 (-1), 3) := by decide +kernel
theorem dX6_loweredBy_76 : decode cX6_loweredBy 76 = .ok (.goto (-58), 3) := by decide +kernel
theorem dX6_loweredBy_79 : decode cX6_loweredBy 79 = .ok (.aload_n 0, 1) := by decide +kernel
theorem dX6_loweredBy_80 : decode cX6_loweredBy 80 = .ok (.iload 4, 2) := by decide +kernel
theorem dX6_loweredBy_82 : decode cX6_loweredBy 82 = .ok (.invokevirtual 165, 3) := by decide +kernel
theorem dX6_loweredBy_85 : decode cX6_loweredBy 85 = .ok (.aload_n 0, 1) := by decide +kernel
theorem dX6_loweredBy_86 : decode cX6_loweredBy 86 = .ok (.iconst 1, 1) := by decide +kernel
theorem dX6_loweredBy_87 : decode cX6_loweredBy 87 = .ok (.iload_n 2, 1) := by decide +kernel
theorem dX6_loweredBy_88 : decode cX6_loweredBy 88 = .ok (.invokevirtual 134, 3) := by decide +kernel
theorem dX6_loweredBy_91 : decode cX6_loweredBy 91 = .ok (.iload_n 3, 1) := by decide +kernel
theorem dX6_loweredBy_92 : decode cX6_loweredBy 92 = .ok (.invokestatic 121, 3) := by decide +kernel
theorem dX6_loweredBy_95 : decode cX6_loweredBy 95 = .ok (.ifCond .eq 8, 3) := by decide +kernel
theorem dX6_loweredBy_98 : decode cX6_loweredBy 98 = .ok (.bipush (-9), 2) := by decide +kernel
theorem dX6_loweredBy_100 : decode cX6_loweredBy 100 = .ok (.goto 5, 3) := by decide +kernel
theorem dX6_loweredBy_103 : decode cX6_loweredBy 103 = .ok (.iload 6, 2) := by decide +kernel
theorem dX6_loweredBy_105 : decode cX6_loweredBy 105 = .ok (.ireturn, 1) := by decide +kernel
theorem dX6_figuresOf_0 : decode cX6_figuresOf 0 = .ok (.iconst 0, 1) := by decide +kernel
theorem dX6_figuresOf_1 : decode cX6_figuresOf 1 = .ok (.istore_n 2, 1) := by decide +kernel
theorem dX6_figuresOf_2 : decode cX6_figuresOf 2 = .ok (.iconst 1, 1) := by decide +kernel
theorem dX6_figuresOf_3 : decode cX6_figuresOf 3 = .ok (.istore_n 3, 1) := by decide +kernel
theorem dX6_figuresOf_4 : decode cX6_figuresOf 4 = .ok (.iload_n 1, 1) := by decide +kernel
theorem dX6_figuresOf_5 : decode cX6_figuresOf 5 = .ok (.istore 4, 2) := by decide +kernel
theorem dX6_figuresOf_7 : decode cX6_figuresOf 7 = .ok (.iconst 0, 1) := by decide +kernel
theorem dX6_figuresOf_8 : decode cX6_figuresOf 8 = .ok (.istore 5, 2) := by decide +kernel
theorem dX6_figuresOf_10 : decode cX6_figuresOf 10 = .ok (.iload 5, 2) := by decide +kernel
theorem dX6_figuresOf_12 : decode cX6_figuresOf 12 = .ok (.aload_n 0, 1) := by decide +kernel
theorem dX6_figuresOf_13 : decode cX6_figuresOf 13 = .ok (.getfield 93, 3) := by decide +kernel
theorem dX6_figuresOf_16 : decode cX6_figuresOf 16 = .ok (.if_icmp .ge 29, 3) := by decide +kernel
theorem dX6_figuresOf_19 : decode cX6_figuresOf 19 = .ok (.iload_n 2, 1) := by decide +kernel
theorem dX6_figuresOf_20 : decode cX6_figuresOf 20 = .ok (.iload_n 3, 1) := by decide +kernel
theorem dX6_figuresOf_21 : decode cX6_figuresOf 21 = .ok (.iload 4, 2) := by decide +kernel
theorem dX6_figuresOf_23 : decode cX6_figuresOf 23 = .ok (.iconst 4, 1) := by decide +kernel
theorem dX6_figuresOf_24 : decode cX6_figuresOf 24 = .ok (.irem, 1) := by decide +kernel
theorem dX6_figuresOf_25 : decode cX6_figuresOf 25 = .ok (.imul, 1) := by decide +kernel
theorem dX6_figuresOf_26 : decode cX6_figuresOf 26 = .ok (.iadd, 1) := by decide +kernel
theorem dX6_figuresOf_27 : decode cX6_figuresOf 27 = .ok (.istore_n 2, 1) := by decide +kernel
theorem dX6_figuresOf_28 : decode cX6_figuresOf 28 = .ok (.iload_n 3, 1) := by decide +kernel
theorem dX6_figuresOf_29 : decode cX6_figuresOf 29 = .ok (.bipush 10, 2) := by decide +kernel
theorem dX6_figuresOf_31 : decode cX6_figuresOf 31 = .ok (.imul, 1) := by decide +kernel
theorem dX6_figuresOf_32 : decode cX6_figuresOf 32 = .ok (.istore_n 3, 1) := by decide +kernel
theorem dX6_figuresOf_33 : decode cX6_figuresOf 33 = .ok (.iload 4, 2) := by decide +kernel
theorem dX6_figuresOf_35 : decode cX6_figuresOf 35 = .ok (.iconst 4, 1) := by decide +kernel
theorem dX6_figuresOf_36 : decode cX6_figuresOf 36 = .ok (.idiv, 1) := by decide +kernel
theorem dX6_figuresOf_37 : decode cX6_figuresOf 37 = .ok (.istore 4, 2) := by decide +kernel
theorem dX6_figuresOf_39 : decode cX6_figuresOf 39 = .ok (.iinc 5 1, 3) := by decide +kernel
theorem dX6_figuresOf_42 : decode cX6_figuresOf 42 = .ok (.goto (-32), 3) := by decide +kernel
theorem dX6_figuresOf_45 : decode cX6_figuresOf 45 = .ok (.iload_n 2, 1) := by decide +kernel
theorem dX6_figuresOf_46 : decode cX6_figuresOf 46 = .ok (.ireturn, 1) := by decide +kernel
set_option maxRecDepth 20000 in
theorem ggX6_keeps_X6_isHouse : GoodIn wsX6_keeps wsX6_isHouse := goodIn_r _ [7, 2, 8, 9, 6, 10, 75, 76, 77, 78, 79, 80, 81, 82, 83, 84, 85, 86, 87, 88, 89, 90, 91, 92, 93, 94, 95, 96, 97, 98, 99, 100, 101, 102] (by decide +kernel) (by decide +kernel)
set_option maxRecDepth 20000 in
theorem gX6_keeps_X6_isHouse : GoodIn wsX6_keeps (wsV RX6 131 RX6 yX6_isHouse wsX6_isHouse) := goodIn_app (goodIn_of _ (by decide +kernel)) ggX6_keeps_X6_isHouse
set_option maxRecDepth 20000 in
theorem ggX6_keeps_X6_isThing : GoodIn wsX6_keeps wsX6_isThing := goodIn_r _ [13, 14, 8, 9, 6, 10] (by decide +kernel) (by decide +kernel)
set_option maxRecDepth 20000 in
theorem gX6_keeps_X6_isThing : GoodIn wsX6_keeps (va_wsS RX6 168 yX6_isThing wsX6_isThing) := goodIn_app (goodIn_of _ (by decide +kernel)) ggX6_keeps_X6_isThing
set_option maxRecDepth 20000 in
theorem ggX6_keeps_X6_in : GoodIn wsX6_keeps wsX6_in := goodIn_r _ [10] (by decide +kernel) (by decide +kernel)
set_option maxRecDepth 20000 in
theorem gX6_keeps_X6_in : GoodIn wsX6_keeps (va_wsS RX6 58 yX6_in wsX6_in) := goodIn_app (goodIn_of _ (by decide +kernel)) ggX6_keeps_X6_in
set_option maxRecDepth 20000 in
theorem ggX6_keeps_X6_loweredBy : GoodIn wsX6_keeps wsX6_loweredBy := goodIn_r _ [18, 2, 19, 20, 21, 22, 6, 23, 24, 25, 26, 27, 28, 29, 30, 31, 32, 33, 34, 35, 36, 37, 38, 39, 40, 41, 42, 43, 44, 45, 46, 47, 48, 49, 50, 51, 52, 53, 54, 55, 56, 57, 58, 59, 60, 61, 62, 63, 64, 65, 66, 67, 68, 69, 70, 75, 76, 77, 78, 79, 80, 81, 82, 83, 84, 85, 86, 87, 88, 89, 90, 91, 92, 93, 94, 95, 96, 97, 98, 99, 100, 101, 102] (by decide +kernel) (by decide +kernel)
set_option maxRecDepth 20000 in
theorem gX6_keeps_X6_loweredBy : GoodIn wsX6_keeps (wsV RX6 173 RX6 yX6_loweredBy wsX6_loweredBy) := goodIn_app (goodIn_of _ (by decide +kernel)) ggX6_keeps_X6_loweredBy
set_option maxRecDepth 20000 in
theorem ggX6_keeps_X6_figuresOf : GoodIn wsX6_keeps wsX6_figuresOf := goodIn_r _ [74, 2, 75, 76, 77, 78, 79, 80, 81, 82, 83, 84, 85, 86, 87, 88, 89, 90, 91, 92, 93, 94, 95, 96, 97, 98, 99, 100, 101, 102] (by decide +kernel) (by decide +kernel)
set_option maxRecDepth 20000 in
theorem gX6_keeps_X6_figuresOf : GoodIn wsX6_keeps (wsV RX6 177 RX6 yX6_figuresOf wsX6_figuresOf) := goodIn_app (goodIn_of _ (by decide +kernel)) ggX6_keeps_X6_figuresOf
theorem dX6_keeps_0 : decode cX6_keeps 0 = .ok (.aload_n 0, 1) := by decide +kernel
theorem dX6_keeps_1 : decode cX6_keeps 1 = .ok (.iload_n 1, 1) := by decide +kernel
theorem dX6_keeps_2 : decode cX6_keeps 2 = .ok (.invokevirtual 131, 3) := by decide +kernel
theorem dX6_keeps_5 : decode cX6_keeps 5 = .ok (.ifCond .eq 10, 3) := by decide +kernel
theorem dX6_keeps_8 : decode cX6_keeps 8 = .ok (.iload_n 2, 1) := by decide +kernel
theorem dX6_keeps_9 : decode cX6_keeps 9 = .ok (.invokestatic 168, 3) := by decide +kernel
theorem dX6_keeps_12 : decode cX6_keeps 12 = .ok (.ifCond .ne 5, 3) := by decide +kernel
theorem dX6_keeps_15 : decode cX6_keeps 15 = .ok (.iconst (-1), 1) := by decide +kernel
theorem dX6_keeps_16 : decode cX6_keeps 16 = .ok (.ireturn, 1) := by decide +kernel
theorem dX6_keeps_17 : decode cX6_keeps 17 = .ok (.iload_n 3, 1) := by decide +kernel
theorem dX6_keeps_18 : decode cX6_keeps 18 = .ok (.i2l, 1) := by decide +kernel
theorem dX6_keeps_19 : decode cX6_keeps 19 = .ok (.lconst 1, 1) := by decide +kernel
theorem dX6_keeps_20 : decode cX6_keeps 20 = .ok (.ldc2_w 171, 3) := by decide +kernel
theorem dX6_keeps_23 : decode cX6_keeps 23 = .ok (.invokestatic 58, 3) := by decide +kernel
theorem dX6_keeps_26 : decode cX6_keeps 26 = .ok (.ifCond .eq 14, 3) := by decide +kernel
theorem dX6_keeps_29 : decode cX6_keeps 29 = .ok (.iload 4, 2) := by decide +kernel
theorem dX6_keeps_31 : decode cX6_keeps 31 = .ok (.i2l, 1) := by decide +kernel
theorem dX6_keeps_32 : decode cX6_keeps 32 = .ok (.lconst 0, 1) := by decide +kernel
theorem dX6_keeps_33 : decode cX6_keeps 33 = .ok (.lconst 1, 1) := by decide +kernel
theorem dX6_keeps_34 : decode cX6_keeps 34 = .ok (.invokestatic 58, 3) := by decide +kernel
theorem dX6_keeps_37 : decode cX6_keeps 37 = .ok (.ifCond .ne 6, 3) := by decide +kernel
theorem dX6_keeps_40 : decode cX6_keeps 40 = .ok (.bipush (-2), 2) := by decide +kernel
theorem dX6_keeps_42 : decode cX6_keeps 42 = .ok (.ireturn, 1) := by decide +kernel
theorem dX6_keeps_43 : decode cX6_keeps 43 = .ok (.bipush (-9), 2) := by decide +kernel
theorem dX6_keeps_45 : decode cX6_keeps 45 = .ok (.istore 5, 2) := by decide +kernel
theorem dX6_keeps_47 : decode cX6_keeps 47 = .ok (.bipush (-9), 2) := by decide +kernel
theorem dX6_keeps_49 : decode cX6_keeps 49 = .ok (.istore 6, 2) := by decide +kernel
theorem dX6_keeps_51 : decode cX6_keeps 51 = .ok (.iconst 0, 1) := by decide +kernel
theorem dX6_keeps_52 : decode cX6_keeps 52 = .ok (.istore 7, 2) := by decide +kernel
theorem dX6_keeps_54 : decode cX6_keeps 54 = .ok (.iload 7, 2) := by decide +kernel
theorem dX6_keeps_56 : decode cX6_keeps 56 = .ok (.iconst 1, 1) := by decide +kernel
theorem dX6_keeps_57 : decode cX6_keeps 57 = .ok (.iconst 2, 1) := by decide +kernel
theorem dX6_keeps_58 : decode cX6_keeps 58 = .ok (.aload_n 0, 1) := by decide +kernel
theorem dX6_keeps_59 : decode cX6_keeps 59 = .ok (.getfield 93, 3) := by decide +kernel
theorem dX6_keeps_62 : decode cX6_keeps 62 = .ok (.imul, 1) := by decide +kernel
theorem dX6_keeps_63 : decode cX6_keeps 63 = .ok (.ishl, 1) := by decide +kernel
theorem dX6_keeps_64 : decode cX6_keeps 64 = .ok (.if_icmp .ge 80, 3) := by decide +kernel
theorem dX6_keeps_67 : decode cX6_keeps 67 = .ok (.aload_n 0, 1) := by decide +kernel
theorem dX6_keeps_68 : decode cX6_keeps 68 = .ok (.iload 7, 2) := by decide +kernel
theorem dX6_keeps_70 : decode cX6_keeps 70 = .ok (.iload_n 1, 1) := by decide +kernel
theorem dX6_keeps_71 : decode cX6_keeps 71 = .ok (.iload_n 2, 1) := by decide +kernel
theorem dX6_keeps_72 : decode cX6_keeps 72 = .ok (.iload_n 3, 1) := by decide +kernel
theorem dX6_keeps_73 : decode cX6_keeps 73 = .ok (.invokevirtual 173, 3) := by decide +kernel
theorem dX6_keeps_76 : decode cX6_keeps 76 = .ok (.istore 8, 2) := by decide +kernel
theorem dX6_keeps_78 : decode cX6_keeps 78 = .ok (.iload 8, 2) := by decide +kernel
theorem dX6_keeps_80 : decode cX6_keeps 80 = .ok (.bipush (-9), 2) := by decide +kernel
theorem dX6_keeps_82 : decode cX6_keeps 82 = .ok (.if_icmp .eq 21, 3) := by decide +kernel
theorem dX6_keeps_85 : decode cX6_keeps 85 = .ok (.iload 5, 2) := by decide +kernel
theorem dX6_keeps_87 : decode cX6_keeps 87 = .ok (.bipush (-9), 2) := by decide +kernel
theorem dX6_keeps_89 : decode cX6_keeps 89 = .ok (.if_icmp .eq 10, 3) := by decide +kernel
theorem dX6_keeps_92 : decode cX6_keeps 92 = .ok (.iload 8, 2) := by decide +kernel
theorem dX6_keeps_94 : decode cX6_keeps 94 = .ok (.iload 5, 2) := by decide +kernel
theorem dX6_keeps_96 : decode cX6_keeps 96 = .ok (.if_icmp .ge 7, 3) := by decide +kernel
theorem dX6_keeps_99 : decode cX6_keeps 99 = .ok (.iconst 1, 1) := by decide +kernel
theorem dX6_keeps_100 : decode cX6_keeps 100 = .ok (.goto 4, 3) := by decide +kernel
theorem dX6_keeps_103 : decode cX6_keeps 103 = .ok (.iconst 0, 1) := by decide +kernel
theorem dX6_keeps_104 : decode cX6_keeps 104 = .ok (.istore 9, 2) := by decide +kernel
theorem dX6_keeps_106 : decode cX6_keeps 106 = .ok (.iload 9, 2) := by decide +kernel
theorem dX6_keeps_108 : decode cX6_keeps 108 = .ok (.ifCond .eq 12, 3) := by decide +kernel
theorem dX6_keeps_111 : decode cX6_keeps 111 = .ok (.aload_n 0, 1) := by decide +kernel
theorem dX6_keeps_112 : decode cX6_keeps 112 = .ok (.iload 7, 2) := by decide +kernel
theorem dX6_keeps_114 : decode cX6_keeps 114 = .ok (.invokevirtual 177, 3) := by decide +kernel
theorem dX6_keeps_117 : decode cX6_keeps 117 = .ok (.goto 5, 3) := by decide +kernel
theorem dX6_keeps_120 : decode cX6_keeps 120 = .ok (.iload 6, 2) := by decide +kernel
theorem dX6_keeps_122 : decode cX6_keeps 122 = .ok (.istore 6, 2) := by decide +kernel
theorem dX6_keeps_124 : decode cX6_keeps 124 = .ok (.iload 9, 2) := by decide +kernel
theorem dX6_keeps_126 : decode cX6_keeps 126 = .ok (.ifCond .eq 8, 3) := by decide +kernel
theorem dX6_keeps_129 : decode cX6_keeps 129 = .ok (.iload 8, 2) := by decide +kernel
theorem dX6_keeps_131 : decode cX6_keeps 131 = .ok (.goto 5, 3) := by decide +kernel
theorem dX6_keeps_134 : decode cX6_keeps 134 = .ok (.iload 5, 2) := by decide +kernel
theorem dX6_keeps_136 : decode cX6_keeps 136 = .ok (.istore 5, 2) := by decide +kernel
theorem dX6_keeps_138 : decode cX6_keeps 138 = .ok (.iinc 7 1, 3) := by decide +kernel
theorem dX6_keeps_141 : decode cX6_keeps 141 = .ok (.goto (-87), 3) := by decide +kernel
theorem dX6_keeps_144 : decode cX6_keeps 144 = .ok (.iload 4, 2) := by decide +kernel
theorem dX6_keeps_146 : decode cX6_keeps 146 = .ok (.ifCond .ne 8, 3) := by decide +kernel
theorem dX6_keeps_149 : decode cX6_keeps 149 = .ok (.iload 5, 2) := by decide +kernel
theorem dX6_keeps_151 : decode cX6_keeps 151 = .ok (.goto 5, 3) := by decide +kernel
theorem dX6_keeps_154 : decode cX6_keeps 154 = .ok (.iload 6, 2) := by decide +kernel
theorem dX6_keeps_156 : decode cX6_keeps 156 = .ok (.ireturn, 1) := by decide +kernel
set_option maxRecDepth 20000 in
theorem ggX6_knownBy_X6_has : GoodIn wsX6_knownBy wsX6_has := goodIn_r _ [5] (by decide +kernel) (by decide +kernel)
set_option maxRecDepth 20000 in
theorem gX6_knownBy_X6_has : GoodIn wsX6_knownBy (va_wsS RX6 121 yX6_has wsX6_has) := goodIn_app (goodIn_of _ (by decide +kernel)) ggX6_knownBy_X6_has
set_option maxRecDepth 20000 in
theorem ggX6_knownBy_X6_knowsAt : GoodIn wsX6_knownBy wsX6_knowsAt := goodIn_r _ [9, 10, 11, 12, 13, 14, 15, 16, 17, 18, 19, 20, 21, 22, 23, 24, 25, 26, 27, 28, 29, 30, 31, 32, 33, 34, 35, 36, 37, 38] (by decide +kernel) (by decide +kernel)
set_option maxRecDepth 20000 in
theorem gX6_knownBy_X6_knowsAt : GoodIn wsX6_knownBy (wsV RX6 134 RX6 yX6_knowsAt wsX6_knowsAt) := goodIn_app (goodIn_of _ (by decide +kernel)) ggX6_knownBy_X6_knowsAt
theorem dX6_knownBy_0 : decode cX6_knownBy 0 = .ok (.iconst 0, 1) := by decide +kernel
theorem dX6_knownBy_1 : decode cX6_knownBy 1 = .ok (.istore_n 2, 1) := by decide +kernel
theorem dX6_knownBy_2 : decode cX6_knownBy 2 = .ok (.iconst 0, 1) := by decide +kernel
theorem dX6_knownBy_3 : decode cX6_knownBy 3 = .ok (.istore_n 3, 1) := by decide +kernel
theorem dX6_knownBy_4 : decode cX6_knownBy 4 = .ok (.iload_n 3, 1) := by decide +kernel
theorem dX6_knownBy_5 : decode cX6_knownBy 5 = .ok (.aload_n 0, 1) := by decide +kernel
theorem dX6_knownBy_6 : decode cX6_knownBy 6 = .ok (.getfield 93, 3) := by decide +kernel
theorem dX6_knownBy_9 : decode cX6_knownBy 9 = .ok (.if_icmp .ge 30, 3) := by decide +kernel
theorem dX6_knownBy_12 : decode cX6_knownBy 12 = .ok (.iload_n 2, 1) := by decide +kernel
theorem dX6_knownBy_13 : decode cX6_knownBy 13 = .ok (.iload_n 1, 1) := by decide +kernel
theorem dX6_knownBy_14 : decode cX6_knownBy 14 = .ok (.iload_n 3, 1) := by decide +kernel
theorem dX6_knownBy_15 : decode cX6_knownBy 15 = .ok (.invokestatic 121, 3) := by decide +kernel
theorem dX6_knownBy_18 : decode cX6_knownBy 18 = .ok (.ifCond .eq 12, 3) := by decide +kernel
theorem dX6_knownBy_21 : decode cX6_knownBy 21 = .ok (.aload_n 0, 1) := by decide +kernel
theorem dX6_knownBy_22 : decode cX6_knownBy 22 = .ok (.iconst 0, 1) := by decide +kernel
theorem dX6_knownBy_23 : decode cX6_knownBy 23 = .ok (.iload_n 3, 1) := by decide +kernel
theorem dX6_knownBy_24 : decode cX6_knownBy 24 = .ok (.invokevirtual 134, 3) := by decide +kernel
theorem dX6_knownBy_27 : decode cX6_knownBy 27 = .ok (.goto 4, 3) := by decide +kernel
theorem dX6_knownBy_30 : decode cX6_knownBy 30 = .ok (.iconst 0, 1) := by decide +kernel
theorem dX6_knownBy_31 : decode cX6_knownBy 31 = .ok (.ior, 1) := by decide +kernel
theorem dX6_knownBy_32 : decode cX6_knownBy 32 = .ok (.istore_n 2, 1) := by decide +kernel
theorem dX6_knownBy_33 : decode cX6_knownBy 33 = .ok (.iinc 3 1, 3) := by decide +kernel
theorem dX6_knownBy_36 : decode cX6_knownBy 36 = .ok (.goto (-32), 3) := by decide +kernel
theorem dX6_knownBy_39 : decode cX6_knownBy 39 = .ok (.iload_n 2, 1) := by decide +kernel
theorem dX6_knownBy_40 : decode cX6_knownBy 40 = .ok (.ireturn, 1) := by decide +kernel
set_option maxRecDepth 20000 in
theorem ggX6_tells_X6_in : GoodIn wsX6_tells wsX6_in := goodIn_r _ [6] (by decide +kernel) (by decide +kernel)
set_option maxRecDepth 20000 in
theorem gX6_tells_X6_in : GoodIn wsX6_tells (va_wsS RX6 58 yX6_in wsX6_in) := goodIn_app (goodIn_of _ (by decide +kernel)) ggX6_tells_X6_in
set_option maxRecDepth 20000 in
theorem ggX6_tells_X6_ones : GoodIn wsX6_tells wsX6_ones := goodIn_r _ [9] (by decide +kernel) (by decide +kernel)
set_option maxRecDepth 20000 in
theorem gX6_tells_X6_ones : GoodIn wsX6_tells (va_wsS RX6 128 yX6_ones wsX6_ones) := goodIn_app (goodIn_of _ (by decide +kernel)) ggX6_tells_X6_ones
set_option maxRecDepth 20000 in
theorem ggX6_tells_X6_knownBy : GoodIn wsX6_tells wsX6_knownBy := goodIn_r _ [13, 2, 14, 15, 5, 16, 17, 18, 19, 20, 21, 22, 23, 24, 25, 26, 27, 28, 29, 30, 31, 32, 33, 34, 35, 36, 37, 38, 39, 40, 41, 42, 43, 44, 45, 46, 47, 48, 49] (by decide +kernel) (by decide +kernel)
set_option maxRecDepth 20000 in
theorem gX6_tells_X6_knownBy : GoodIn wsX6_tells (wsV RX6 182 RX6 yX6_knownBy wsX6_knownBy) := goodIn_app (goodIn_of _ (by decide +kernel)) ggX6_tells_X6_knownBy
theorem dX6_tells_0 : decode cX6_tells 0 = .ok (.iload_n 1, 1) := by decide +kernel
theorem dX6_tells_1 : decode cX6_tells 1 = .ok (.i2l, 1) := by decide +kernel
theorem dX6_tells_2 : decode cX6_tells 2 = .ok (.lconst 0, 1) := by decide +kernel
theorem dX6_tells_3 : decode cX6_tells 3 = .ok (.ldc2_w 180, 3) := by decide +kernel
theorem dX6_tells_6 : decode cX6_tells 6 = .ok (.invokestatic 58, 3) := by decide +kernel
theorem dX6_tells_9 : decode cX6_tells 9 = .ok (.ifCond .eq 13, 3) := by decide +kernel
theorem dX6_tells_12 : decode cX6_tells 12 = .ok (.iload_n 2, 1) := by decide +kernel
theorem dX6_tells_13 : decode cX6_tells 13 = .ok (.i2l, 1) := by decide +kernel
theorem dX6_tells_14 : decode cX6_tells 14 = .ok (.lconst 0, 1) := by decide +kernel
theorem dX6_tells_15 : decode cX6_tells 15 = .ok (.lconst 1, 1) := by decide +kernel
theorem dX6_tells_16 : decode cX6_tells 16 = .ok (.invokestatic 58, 3) := by decide +kernel
theorem dX6_tells_19 : decode cX6_tells 19 = .ok (.ifCond .ne 6, 3) := by decide +kernel
theorem dX6_tells_22 : decode cX6_tells 22 = .ok (.bipush (-2), 2) := by decide +kernel
theorem dX6_tells_24 : decode cX6_tells 24 = .ok (.ireturn, 1) := by decide +kernel
theorem dX6_tells_25 : decode cX6_tells 25 = .ok (.bipush (-9), 2) := by decide +kernel
theorem dX6_tells_27 : decode cX6_tells 27 = .ok (.istore_n 3, 1) := by decide +kernel
theorem dX6_tells_28 : decode cX6_tells 28 = .ok (.iconst 0, 1) := by decide +kernel
theorem dX6_tells_29 : decode cX6_tells 29 = .ok (.istore 4, 2) := by decide +kernel
theorem dX6_tells_31 : decode cX6_tells 31 = .ok (.iload 4, 2) := by decide +kernel
theorem dX6_tells_33 : decode cX6_tells 33 = .ok (.iconst 1, 1) := by decide +kernel
theorem dX6_tells_34 : decode cX6_tells 34 = .ok (.aload_n 0, 1) := by decide +kernel
theorem dX6_tells_35 : decode cX6_tells 35 = .ok (.getfield 93, 3) := by decide +kernel
theorem dX6_tells_38 : decode cX6_tells 38 = .ok (.ishl, 1) := by decide +kernel
theorem dX6_tells_39 : decode cX6_tells 39 = .ok (.if_icmp .ge 59, 3) := by decide +kernel
theorem dX6_tells_42 : decode cX6_tells 42 = .ok (.iload_n 3, 1) := by decide +kernel
theorem dX6_tells_43 : decode cX6_tells 43 = .ok (.bipush (-9), 2) := by decide +kernel
theorem dX6_tells_45 : decode cX6_tells 45 = .ok (.if_icmp .eq 15, 3) := by decide +kernel
theorem dX6_tells_48 : decode cX6_tells 48 = .ok (.iload 4, 2) := by decide +kernel
theorem dX6_tells_50 : decode cX6_tells 50 = .ok (.invokestatic 128, 3) := by decide +kernel
theorem dX6_tells_53 : decode cX6_tells 53 = .ok (.iload_n 3, 1) := by decide +kernel
theorem dX6_tells_54 : decode cX6_tells 54 = .ok (.invokestatic 128, 3) := by decide +kernel
theorem dX6_tells_57 : decode cX6_tells 57 = .ok (.if_icmp .ge 7, 3) := by decide +kernel
theorem dX6_tells_60 : decode cX6_tells 60 = .ok (.iconst 1, 1) := by decide +kernel
theorem dX6_tells_61 : decode cX6_tells 61 = .ok (.goto 4, 3) := by decide +kernel
theorem dX6_tells_64 : decode cX6_tells 64 = .ok (.iconst 0, 1) := by decide +kernel
theorem dX6_tells_65 : decode cX6_tells 65 = .ok (.istore 5, 2) := by decide +kernel
theorem dX6_tells_67 : decode cX6_tells 67 = .ok (.iload 5, 2) := by decide +kernel
theorem dX6_tells_69 : decode cX6_tells 69 = .ok (.ifCond .eq 21, 3) := by decide +kernel
theorem dX6_tells_72 : decode cX6_tells 72 = .ok (.iload_n 1, 1) := by decide +kernel
theorem dX6_tells_73 : decode cX6_tells 73 = .ok (.aload_n 0, 1) := by decide +kernel
theorem dX6_tells_74 : decode cX6_tells 74 = .ok (.iload 4, 2) := by decide +kernel
theorem dX6_tells_76 : decode cX6_tells 76 = .ok (.invokevirtual 182, 3) := by decide +kernel
theorem dX6_tells_79 : decode cX6_tells 79 = .ok (.iconst (-1), 1) := by decide +kernel
theorem dX6_tells_80 : decode cX6_tells 80 = .ok (.ixor, 1) := by decide +kernel
theorem dX6_tells_81 : decode cX6_tells 81 = .ok (.iand, 1) := by decide +kernel
theorem dX6_tells_82 : decode cX6_tells 82 = .ok (.ifCond .ne 8, 3) := by decide +kernel
theorem dX6_tells_85 : decode cX6_tells 85 = .ok (.iload 4, 2) := by decide +kernel
theorem dX6_tells_87 : decode cX6_tells 87 = .ok (.goto 4, 3) := by decide +kernel
theorem dX6_tells_90 : decode cX6_tells 90 = .ok (.iload_n 3, 1) := by decide +kernel
theorem dX6_tells_91 : decode cX6_tells 91 = .ok (.istore_n 3, 1) := by decide +kernel
theorem dX6_tells_92 : decode cX6_tells 92 = .ok (.iinc 4 1, 3) := by decide +kernel
theorem dX6_tells_95 : decode cX6_tells 95 = .ok (.goto (-64), 3) := by decide +kernel
theorem dX6_tells_98 : decode cX6_tells 98 = .ok (.iload_n 3, 1) := by decide +kernel
theorem dX6_tells_99 : decode cX6_tells 99 = .ok (.bipush (-9), 2) := by decide +kernel
theorem dX6_tells_101 : decode cX6_tells 101 = .ok (.if_icmp .eq 8, 3) := by decide +kernel
theorem dX6_tells_104 : decode cX6_tells 104 = .ok (.iload_n 2, 1) := by decide +kernel
theorem dX6_tells_105 : decode cX6_tells 105 = .ok (.iconst 1, 1) := by decide +kernel
theorem dX6_tells_106 : decode cX6_tells 106 = .ok (.if_icmp .ne 7, 3) := by decide +kernel
theorem dX6_tells_109 : decode cX6_tells 109 = .ok (.iload_n 3, 1) := by decide +kernel
theorem dX6_tells_110 : decode cX6_tells 110 = .ok (.goto 7, 3) := by decide +kernel
theorem dX6_tells_113 : decode cX6_tells 113 = .ok (.iload_n 3, 1) := by decide +kernel
theorem dX6_tells_114 : decode cX6_tells 114 = .ok (.invokestatic 128, 3) := by decide +kernel
theorem dX6_tells_117 : decode cX6_tells 117 = .ok (.ireturn, 1) := by decide +kernel
set_option maxRecDepth 20000 in
theorem ggX6_tryThing_X6_goOn : GoodIn wsX6_tryThing wsX6_goOn := goodIn_r _ [6, 7, 8, 9, 5, 10, 11, 12, 1, 13, 14, 15, 16, 17, 18, 19, 20, 21, 22, 23, 24, 25, 26, 27, 28, 29, 30, 31, 32, 33, 34, 35, 36, 37, 38, 39, 40, 41, 42, 43, 44, 45, 46, 70, 71, 72, 73, 74, 75, 76, 77, 78, 79, 80, 81, 82, 83, 84, 85, 86, 87, 88, 89, 90, 91, 92, 93, 94, 95, 96, 97] (by decide +kernel) (by decide +kernel)
set_option maxRecDepth 20000 in
theorem gX6_tryThing_X6_goOn : GoodIn wsX6_tryThing (wsV RX6 165 RX6 yX6_goOn wsX6_goOn) := goodIn_app (goodIn_of _ (by decide +kernel)) ggX6_tryThing_X6_goOn
set_option maxRecDepth 20000 in
theorem ggX6_tryThing_X6_isHouse : GoodIn wsX6_tryThing wsX6_isHouse := goodIn_r _ [50, 17, 51, 52, 5, 53, 70, 71, 72, 73, 74, 75, 76, 77, 78, 79, 80, 81, 82, 83, 84, 85, 86, 87, 88, 89, 90, 91, 92, 93, 94, 95, 96, 97] (by decide +kernel) (by decide +kernel)
set_option maxRecDepth 20000 in
theorem gX6_tryThing_X6_isHouse : GoodIn wsX6_tryThing (wsV RX6 131 RX6 yX6_isHouse wsX6_isHouse) := goodIn_app (goodIn_of _ (by decide +kernel)) ggX6_tryThing_X6_isHouse
set_option maxRecDepth 20000 in
theorem ggX6_tryThing_X6_changeOn : GoodIn wsX6_tryThing wsX6_changeOn := goodIn_r _ [57, 1, 70, 71, 72, 73, 74, 75, 76, 77, 78, 79, 80, 81, 82, 83, 84, 85, 86, 87, 88, 89, 90, 91, 92, 93, 94, 95, 96, 97] (by decide +kernel) (by decide +kernel)
set_option maxRecDepth 20000 in
theorem gX6_tryThing_X6_changeOn : GoodIn wsX6_tryThing (wsV RX6 152 RX6 yX6_changeOn wsX6_changeOn) := goodIn_app (goodIn_of _ (by decide +kernel)) ggX6_tryThing_X6_changeOn
set_option maxRecDepth 20000 in
theorem ggX6_tryThing_X6_plateOn : GoodIn wsX6_tryThing wsX6_plateOn := goodIn_r _ [61, 1, 62, 63, 64, 5, 65, 70, 71, 72, 73, 74, 75, 76, 77, 78, 79, 80, 81, 82, 83, 84, 85, 86, 87, 88, 89, 90, 91, 92, 93, 94, 95, 96, 97] (by decide +kernel) (by decide +kernel)
set_option maxRecDepth 20000 in
theorem gX6_tryThing_X6_plateOn : GoodIn wsX6_tryThing (wsV RX6 156 RX6 yX6_plateOn wsX6_plateOn) := goodIn_app (goodIn_of _ (by decide +kernel)) ggX6_tryThing_X6_plateOn
set_option maxRecDepth 20000 in
theorem ggX6_tryThing_X6_isThing : GoodIn wsX6_tryThing wsX6_isThing := goodIn_r _ [68, 69, 51, 52, 5, 53] (by decide +kernel) (by decide +kernel)
set_option maxRecDepth 20000 in
theorem gX6_tryThing_X6_isThing : GoodIn wsX6_tryThing (va_wsS RX6 168 yX6_isThing wsX6_isThing) := goodIn_app (goodIn_of _ (by decide +kernel)) ggX6_tryThing_X6_isThing
set_option maxRecDepth 20000 in
theorem ggX6_tryThing_X6_knowsAt : GoodIn wsX6_tryThing wsX6_knowsAt := goodIn_r _ [65, 1, 70, 71, 72, 73, 74, 75, 76, 77, 78, 79, 80, 81, 82, 83, 84, 85, 86, 87, 88, 89, 90, 91, 92, 93, 94, 95, 96, 97] (by decide +kernel) (by decide +kernel)
set_option maxRecDepth 20000 in
theorem gX6_tryThing_X6_knowsAt : GoodIn wsX6_tryThing (wsV RX6 134 RX6 yX6_knowsAt wsX6_knowsAt) := goodIn_app (goodIn_of _ (by decide +kernel)) ggX6_tryThing_X6_knowsAt
set_option maxRecDepth 20000 in
theorem ggX6_tryThing_X6_has : GoodIn wsX6_tryThing wsX6_has := goodIn_r _ [39] (by decide +kernel) (by decide +kernel)
set_option maxRecDepth 20000 in
theorem gX6_tryThing_X6_has : GoodIn wsX6_tryThing (va_wsS RX6 121 yX6_has wsX6_has) := goodIn_app (goodIn_of _ (by decide +kernel)) ggX6_tryThing_X6_has
theorem dX6_tryThing_0 : decode cX6_tryThing 0 = .ok (.iload_n 1, 1) := by decide +kernel
theorem dX6_tryThing_1 : decode cX6_tryThing 1 = .ok (.tableswitch 310 0 6 #[43, 62, 116, 169, 212, 255, 289], 43) := by decide +kernel
theorem dX6_tryThing_44 : decode cX6_tryThing 44 = .ok (.aload_n 0, 1) := by decide +kernel
theorem dX6_tryThing_45 : decode cX6_tryThing 45 = .ok (.iconst 1, 1) := by decide +kernel
theorem dX6_tryThing_46 : decode cX6_tryThing 46 = .ok (.invokevirtual 165, 3) := by decide +kernel
theorem dX6_tryThing_49 : decode cX6_tryThing 49 = .ok (.iload_n 2, 1) := by decide +kernel
theorem dX6_tryThing_50 : decode cX6_tryThing 50 = .ok (.ifCond .ne 11, 3) := by decide +kernel
theorem dX6_tryThing_53 : decode cX6_tryThing 53 = .ok (.iload_n 3, 1) := by decide +kernel
theorem dX6_tryThing_54 : decode cX6_tryThing 54 = .ok (.ifCond .ne 7, 3) := by decide +kernel
theorem dX6_tryThing_57 : decode cX6_tryThing 57 = .ok (.iconst 1, 1) := by decide +kernel
theorem dX6_tryThing_58 : decode cX6_tryThing 58 = .ok (.goto 4, 3) := by decide +kernel
theorem dX6_tryThing_61 : decode cX6_tryThing 61 = .ok (.iconst 0, 1) := by decide +kernel
theorem dX6_tryThing_62 : decode cX6_tryThing 62 = .ok (.ireturn, 1) := by decide +kernel
theorem dX6_tryThing_63 : decode cX6_tryThing 63 = .ok (.iload_n 2, 1) := by decide +kernel
theorem dX6_tryThing_64 : decode cX6_tryThing 64 = .ok (.ifCond .ne 29, 3) := by decide +kernel
theorem dX6_tryThing_67 : decode cX6_tryThing 67 = .ok (.aload_n 0, 1) := by decide +kernel
theorem dX6_tryThing_68 : decode cX6_tryThing 68 = .ok (.iload_n 3, 1) := by decide +kernel
theorem dX6_tryThing_69 : decode cX6_tryThing 69 = .ok (.invokevirtual 131, 3) := by decide +kernel
theorem dX6_tryThing_72 : decode cX6_tryThing 72 = .ok (.ifCond .eq 21, 3) := by decide +kernel
theorem dX6_tryThing_75 : decode cX6_tryThing 75 = .ok (.aload_n 0, 1) := by decide +kernel
theorem dX6_tryThing_76 : decode cX6_tryThing 76 = .ok (.getfield 22, 3) := by decide +kernel
theorem dX6_tryThing_79 : decode cX6_tryThing 79 = .ok (.bipush 27, 2) := by decide +kernel
theorem dX6_tryThing_81 : decode cX6_tryThing 81 = .ok (.iload_n 3, 1) := by decide +kernel
theorem dX6_tryThing_82 : decode cX6_tryThing 82 = .ok (.iadd, 1) := by decide +kernel
theorem dX6_tryThing_83 : decode cX6_tryThing 83 = .ok (.iaload, 1) := by decide +kernel
theorem dX6_tryThing_84 : decode cX6_tryThing 84 = .ok (.bipush (-3), 2) := by decide +kernel
theorem dX6_tryThing_86 : decode cX6_tryThing 86 = .ok (.if_icmp .le 7, 3) := by decide +kernel
theorem dX6_tryThing_89 : decode cX6_tryThing 89 = .ok (.iconst 1, 1) := by decide +kernel
theorem dX6_tryThing_90 : decode cX6_tryThing 90 = .ok (.goto 4, 3) := by decide +kernel
theorem dX6_tryThing_93 : decode cX6_tryThing 93 = .ok (.iconst 0, 1) := by decide +kernel
theorem dX6_tryThing_94 : decode cX6_tryThing 94 = .ok (.istore 4, 2) := by decide +kernel
theorem dX6_tryThing_96 : decode cX6_tryThing 96 = .ok (.iload 4, 2) := by decide +kernel
theorem dX6_tryThing_98 : decode cX6_tryThing 98 = .ok (.ifCond .eq 16, 3) := by decide +kernel
theorem dX6_tryThing_101 : decode cX6_tryThing 101 = .ok (.aload_n 0, 1) := by decide +kernel
theorem dX6_tryThing_102 : decode cX6_tryThing 102 = .ok (.getfield 22, 3) := by decide +kernel
theorem dX6_tryThing_105 : decode cX6_tryThing 105 = .ok (.bipush 27, 2) := by decide +kernel
theorem dX6_tryThing_107 : decode cX6_tryThing 107 = .ok (.iload_n 3, 1) := by decide +kernel
theorem dX6_tryThing_108 : decode cX6_tryThing 108 = .ok (.iadd, 1) := by decide +kernel
theorem dX6_tryThing_109 : decode cX6_tryThing 109 = .ok (.dup2, 1) := by decide +kernel
theorem dX6_tryThing_110 : decode cX6_tryThing 110 = .ok (.iaload, 1) := by decide +kernel
theorem dX6_tryThing_111 : decode cX6_tryThing 111 = .ok (.iconst 1, 1) := by decide +kernel
theorem dX6_tryThing_112 : decode cX6_tryThing 112 = .ok (.isub, 1) := by decide +kernel
theorem dX6_tryThing_113 : decode cX6_tryThing 113 = .ok (.iastore, 1) := by decide +kernel
theorem dX6_tryThing_114 : decode cX6_tryThing 114 = .ok (.iload 4, 2) := by decide +kernel
theorem dX6_tryThing_116 : decode cX6_tryThing 116 = .ok (.ireturn, 1) := by decide +kernel
theorem dX6_tryThing_117 : decode cX6_tryThing 117 = .ok (.iload_n 2, 1) := by decide +kernel
theorem dX6_tryThing_118 : decode cX6_tryThing 118 = .ok (.ifCond .ne 28, 3) := by decide +kernel
theorem dX6_tryThing_121 : decode cX6_tryThing 121 = .ok (.aload_n 0, 1) := by decide +kernel
theorem dX6_tryThing_122 : decode cX6_tryThing 122 = .ok (.iload_n 3, 1) := by decide +kernel
theorem dX6_tryThing_123 : decode cX6_tryThing 123 = .ok (.invokevirtual 131, 3) := by decide +kernel
theorem dX6_tryThing_126 : decode cX6_tryThing 126 = .ok (.ifCond .eq 20, 3) := by decide +kernel
theorem dX6_tryThing_129 : decode cX6_tryThing 129 = .ok (.aload_n 0, 1) := by decide +kernel
theorem dX6_tryThing_130 : decode cX6_tryThing 130 = .ok (.getfield 22, 3) := by decide +kernel
theorem dX6_tryThing_133 : decode cX6_tryThing 133 = .ok (.bipush 27, 2) := by decide +kernel
theorem dX6_tryThing_135 : decode cX6_tryThing 135 = .ok (.iload_n 3, 1) := by decide +kernel
theorem dX6_tryThing_136 : decode cX6_tryThing 136 = .ok (.iadd, 1) := by decide +kernel
theorem dX6_tryThing_137 : decode cX6_tryThing 137 = .ok (.iaload, 1) := by decide +kernel
theorem dX6_tryThing_138 : decode cX6_tryThing 138 = .ok (.iconst 3, 1) := by decide +kernel
theorem dX6_tryThing_139 : decode cX6_tryThing 139 = .ok (.if_icmp .ge 7, 3) := by decide +kernel
theorem dX6_tryThing_142 : decode cX6_tryThing 142 = .ok (.iconst 1, 1) := by decide +kernel
theorem dX6_tryThing_143 : decode cX6_tryThing 143 = .ok (.goto 4, 3) := by decide +kernel
theorem dX6_tryThing_146 : decode cX6_tryThing 146 = .ok (.iconst 0, 1) := by decide +kernel
theorem dX6_tryThing_147 : decode cX6_tryThing 147 = .ok (.istore 5, 2) := by decide +kernel
theorem dX6_tryThing_149 : decode cX6_tryThing 149 = .ok (.iload 5, 2) := by decide +kernel
theorem dX6_tryThing_151 : decode cX6_tryThing 151 = .ok (.ifCond .eq 16, 3) := by decide +kernel
theorem dX6_tryThing_154 : decode cX6_tryThing 154 = .ok (.aload_n 0, 1) := by decide +kernel
theorem dX6_tryThing_155 : decode cX6_tryThing 155 = .ok (.getfield 22, 3) := by decide +kernel
theorem dX6_tryThing_158 : decode cX6_tryThing 158 = .ok (.bipush 27, 2) := by decide +kernel
theorem dX6_tryThing_160 : decode cX6_tryThing 160 = .ok (.iload_n 3, 1) := by decide +kernel
theorem dX6_tryThing_161 : decode cX6_tryThing 161 = .ok (.iadd, 1) := by decide +kernel
theorem dX6_tryThing_162 : decode cX6_tryThing 162 = .ok (.dup2, 1) := by decide +kernel
theorem dX6_tryThing_163 : decode cX6_tryThing 163 = .ok (.iaload, 1) := by decide +kernel
theorem dX6_tryThing_164 : decode cX6_tryThing 164 = .ok (.iconst 1, 1) := by decide +kernel
theorem dX6_tryThing_165 : decode cX6_tryThing 165 = .ok (.iadd, 1) := by decide +kernel
theorem dX6_tryThing_166 : decode cX6_tryThing 166 = .ok (.iastore, 1) := by decide +kernel
theorem dX6_tryThing_167 : decode cX6_tryThing 167 = .ok (.iload 5, 2) := by decide +kernel
theorem dX6_tryThing_169 : decode cX6_tryThing 169 = .ok (.ireturn, 1) := by decide +kernel
theorem dX6_tryThing_170 : decode cX6_tryThing 170 = .ok (.aload_n 0, 1) := by decide +kernel
theorem dX6_tryThing_171 : decode cX6_tryThing 171 = .ok (.iload_n 2, 1) := by decide +kernel
theorem dX6_tryThing_172 : decode cX6_tryThing 172 = .ok (.invokevirtual 131, 3) := by decide +kernel
theorem dX6_tryThing_175 : decode cX6_tryThing 175 = .ok (.ifCond .eq 20, 3) := by decide +kernel
theorem dX6_tryThing_178 : decode cX6_tryThing 178 = .ok (.aload_n 0, 1) := by decide +kernel
theorem dX6_tryThing_179 : decode cX6_tryThing 179 = .ok (.iload_n 3, 1) := by decide +kernel
theorem dX6_tryThing_180 : decode cX6_tryThing 180 = .ok (.invokevirtual 131, 3) := by decide +kernel
theorem dX6_tryThing_183 : decode cX6_tryThing 183 = .ok (.ifCond .eq 12, 3) := by decide +kernel
theorem dX6_tryThing_186 : decode cX6_tryThing 186 = .ok (.iload_n 2, 1) := by decide +kernel
theorem dX6_tryThing_187 : decode cX6_tryThing 187 = .ok (.iload_n 3, 1) := by decide +kernel
theorem dX6_tryThing_188 : decode cX6_tryThing 188 = .ok (.if_icmp .eq 7, 3) := by decide +kernel
theorem dX6_tryThing_191 : decode cX6_tryThing 191 = .ok (.iconst 1, 1) := by decide +kernel
theorem dX6_tryThing_192 : decode cX6_tryThing 192 = .ok (.goto 4, 3) := by decide +kernel
theorem dX6_tryThing_195 : decode cX6_tryThing 195 = .ok (.iconst 0, 1) := by decide +kernel
theorem dX6_tryThing_196 : decode cX6_tryThing 196 = .ok (.istore 6, 2) := by decide +kernel
theorem dX6_tryThing_198 : decode cX6_tryThing 198 = .ok (.iload 6, 2) := by decide +kernel
theorem dX6_tryThing_200 : decode cX6_tryThing 200 = .ok (.ifCond .eq 10, 3) := by decide +kernel
theorem dX6_tryThing_203 : decode cX6_tryThing 203 = .ok (.aload_n 0, 1) := by decide +kernel
theorem dX6_tryThing_204 : decode cX6_tryThing 204 = .ok (.iconst 1, 1) := by decide +kernel
theorem dX6_tryThing_205 : decode cX6_tryThing 205 = .ok (.iload_n 2, 1) := by decide +kernel
theorem dX6_tryThing_206 : decode cX6_tryThing 206 = .ok (.iload_n 3, 1) := by decide +kernel
theorem dX6_tryThing_207 : decode cX6_tryThing 207 = .ok (.invokevirtual 152, 3) := by decide +kernel
theorem dX6_tryThing_210 : decode cX6_tryThing 210 = .ok (.iload 6, 2) := by decide +kernel
theorem dX6_tryThing_212 : decode cX6_tryThing 212 = .ok (.ireturn, 1) := by decide +kernel
theorem dX6_tryThing_213 : decode cX6_tryThing 213 = .ok (.iload_n 2, 1) := by decide +kernel
theorem dX6_tryThing_214 : decode cX6_tryThing 214 = .ok (.ifCond .ne 25, 3) := by decide +kernel
theorem dX6_tryThing_217 : decode cX6_tryThing 217 = .ok (.aload_n 0, 1) := by decide +kernel
theorem dX6_tryThing_218 : decode cX6_tryThing 218 = .ok (.iload_n 3, 1) := by decide +kernel
theorem dX6_tryThing_219 : decode cX6_tryThing 219 = .ok (.invokevirtual 131, 3) := by decide +kernel
theorem dX6_tryThing_222 : decode cX6_tryThing 222 = .ok (.ifCond .eq 17, 3) := by decide +kernel
theorem dX6_tryThing_225 : decode cX6_tryThing 225 = .ok (.aload_n 0, 1) := by decide +kernel
theorem dX6_tryThing_226 : decode cX6_tryThing 226 = .ok (.iload_n 3, 1) := by decide +kernel
theorem dX6_tryThing_227 : decode cX6_tryThing 227 = .ok (.iconst 1, 1) := by decide +kernel
theorem dX6_tryThing_228 : decode cX6_tryThing 228 = .ok (.iadd, 1) := by decide +kernel
theorem dX6_tryThing_229 : decode cX6_tryThing 229 = .ok (.invokevirtual 131, 3) := by decide +kernel
theorem dX6_tryThing_232 : decode cX6_tryThing 232 = .ok (.ifCond .eq 7, 3) := by decide +kernel
theorem dX6_tryThing_235 : decode cX6_tryThing 235 = .ok (.iconst 1, 1) := by decide +kernel
theorem dX6_tryThing_236 : decode cX6_tryThing 236 = .ok (.goto 4, 3) := by decide +kernel
theorem dX6_tryThing_239 : decode cX6_tryThing 239 = .ok (.iconst 0, 1) := by decide +kernel
theorem dX6_tryThing_240 : decode cX6_tryThing 240 = .ok (.istore 7, 2) := by decide +kernel
theorem dX6_tryThing_242 : decode cX6_tryThing 242 = .ok (.iload 7, 2) := by decide +kernel
theorem dX6_tryThing_244 : decode cX6_tryThing 244 = .ok (.ifCond .eq 9, 3) := by decide +kernel
theorem dX6_tryThing_247 : decode cX6_tryThing 247 = .ok (.aload_n 0, 1) := by decide +kernel
theorem dX6_tryThing_248 : decode cX6_tryThing 248 = .ok (.iconst 1, 1) := by decide +kernel
theorem dX6_tryThing_249 : decode cX6_tryThing 249 = .ok (.iload_n 3, 1) := by decide +kernel
theorem dX6_tryThing_250 : decode cX6_tryThing 250 = .ok (.invokevirtual 156, 3) := by decide +kernel
theorem dX6_tryThing_253 : decode cX6_tryThing 253 = .ok (.iload 7, 2) := by decide +kernel
theorem dX6_tryThing_255 : decode cX6_tryThing 255 = .ok (.ireturn, 1) := by decide +kernel
theorem dX6_tryThing_256 : decode cX6_tryThing 256 = .ok (.aload_n 0, 1) := by decide +kernel
theorem dX6_tryThing_257 : decode cX6_tryThing 257 = .ok (.iload_n 2, 1) := by decide +kernel
theorem dX6_tryThing_258 : decode cX6_tryThing 258 = .ok (.invokevirtual 131, 3) := by decide +kernel
theorem dX6_tryThing_261 : decode cX6_tryThing 261 = .ok (.ifCond .eq 27, 3) := by decide +kernel
theorem dX6_tryThing_264 : decode cX6_tryThing 264 = .ok (.iload_n 3, 1) := by decide +kernel
theorem dX6_tryThing_265 : decode cX6_tryThing 265 = .ok (.invokestatic 168, 3) := by decide +kernel
theorem dX6_tryThing_268 : decode cX6_tryThing 268 = .ok (.ifCond .eq 20, 3) := by decide +kernel
theorem dX6_tryThing_271 : decode cX6_tryThing 271 = .ok (.aload_n 0, 1) := by decide +kernel
theorem dX6_tryThing_272 : decode cX6_tryThing 272 = .ok (.iconst 1, 1) := by decide +kernel
theorem dX6_tryThing_273 : decode cX6_tryThing 273 = .ok (.iload_n 2, 1) := by decide +kernel
theorem dX6_tryThing_274 : decode cX6_tryThing 274 = .ok (.invokevirtual 134, 3) := by decide +kernel
theorem dX6_tryThing_277 : decode cX6_tryThing 277 = .ok (.iload_n 3, 1) := by decide +kernel
theorem dX6_tryThing_278 : decode cX6_tryThing 278 = .ok (.invokestatic 121, 3) := by decide +kernel
theorem dX6_tryThing_281 : decode cX6_tryThing 281 = .ok (.ifCond .eq 7, 3) := by decide +kernel
theorem dX6_tryThing_284 : decode cX6_tryThing 284 = .ok (.iconst 1, 1) := by decide +kernel
theorem dX6_tryThing_285 : decode cX6_tryThing 285 = .ok (.goto 4, 3) := by decide +kernel
theorem dX6_tryThing_288 : decode cX6_tryThing 288 = .ok (.iconst 0, 1) := by decide +kernel
theorem dX6_tryThing_289 : decode cX6_tryThing 289 = .ok (.ireturn, 1) := by decide +kernel
theorem dX6_tryThing_290 : decode cX6_tryThing 290 = .ok (.iload_n 2, 1) := by decide +kernel
theorem dX6_tryThing_291 : decode cX6_tryThing 291 = .ok (.ifCond .ne 18, 3) := by decide +kernel
theorem dX6_tryThing_294 : decode cX6_tryThing 294 = .ok (.aload_n 0, 1) := by decide +kernel
theorem dX6_tryThing_295 : decode cX6_tryThing 295 = .ok (.getfield 22, 3) := by decide +kernel
theorem dX6_tryThing_298 : decode cX6_tryThing 298 = .ok (.bipush 33, 2) := by decide +kernel
theorem dX6_tryThing_300 : decode cX6_tryThing 300 = .ok (.iaload, 1) := by decide +kernel
theorem dX6_tryThing_301 : decode cX6_tryThing 301 = .ok (.iload_n 3, 1) := by decide +kernel
theorem dX6_tryThing_302 : decode cX6_tryThing 302 = .ok (.if_icmp .lt 7, 3) := by decide +kernel
theorem dX6_tryThing_305 : decode cX6_tryThing 305 = .ok (.iconst 1, 1) := by decide +kernel
theorem dX6_tryThing_306 : decode cX6_tryThing 306 = .ok (.goto 4, 3) := by decide +kernel
theorem dX6_tryThing_309 : decode cX6_tryThing 309 = .ok (.iconst 0, 1) := by decide +kernel
theorem dX6_tryThing_310 : decode cX6_tryThing 310 = .ok (.ireturn, 1) := by decide +kernel
theorem dX6_tryThing_311 : decode cX6_tryThing 311 = .ok (.iconst 0, 1) := by decide +kernel
theorem dX6_tryThing_312 : decode cX6_tryThing 312 = .ok (.ireturn, 1) := by decide +kernel
theorem dX6_thousandTo_0 : decode cX6_thousandTo 0 = .ok (.lconst 1, 1) := by decide +kernel
theorem dX6_thousandTo_1 : decode cX6_thousandTo 1 = .ok (.lstore_n 1, 1) := by decide +kernel
theorem dX6_thousandTo_2 : decode cX6_thousandTo 2 = .ok (.iconst 0, 1) := by decide +kernel
theorem dX6_thousandTo_3 : decode cX6_thousandTo 3 = .ok (.istore_n 3, 1) := by decide +kernel
theorem dX6_thousandTo_4 : decode cX6_thousandTo 4 = .ok (.iload_n 3, 1) := by decide +kernel
theorem dX6_thousandTo_5 : decode cX6_thousandTo 5 = .ok (.iload_n 0, 1) := by decide +kernel
theorem dX6_thousandTo_6 : decode cX6_thousandTo 6 = .ok (.if_icmp .ge 15, 3) := by decide +kernel
theorem dX6_thousandTo_9 : decode cX6_thousandTo 9 = .ok (.lload_n 1, 1) := by decide +kernel
theorem dX6_thousandTo_10 : decode cX6_thousandTo 10 = .ok (.ldc2_w 185, 3) := by decide +kernel
theorem dX6_thousandTo_13 : decode cX6_thousandTo 13 = .ok (.lmul, 1) := by decide +kernel
theorem dX6_thousandTo_14 : decode cX6_thousandTo 14 = .ok (.lstore_n 1, 1) := by decide +kernel
theorem dX6_thousandTo_15 : decode cX6_thousandTo 15 = .ok (.iinc 3 1, 3) := by decide +kernel
theorem dX6_thousandTo_18 : decode cX6_thousandTo 18 = .ok (.goto (-14), 3) := by decide +kernel
theorem dX6_thousandTo_21 : decode cX6_thousandTo 21 = .ok (.lload_n 1, 1) := by decide +kernel
theorem dX6_thousandTo_22 : decode cX6_thousandTo 22 = .ok (.lreturn, 1) := by decide +kernel
set_option maxRecDepth 20000 in
theorem ggX6_judge_X6_in : GoodIn wsX6_judge wsX6_in := goodIn_r _ [6] (by decide +kernel) (by decide +kernel)
set_option maxRecDepth 20000 in
theorem gX6_judge_X6_in : GoodIn wsX6_judge (va_wsS RX6 58 yX6_in wsX6_in) := goodIn_app (goodIn_of _ (by decide +kernel)) ggX6_judge_X6_in
set_option maxRecDepth 20000 in
theorem ggX6_judge_X6_thousandTo : GoodIn wsX6_judge wsX6_thousandTo := goodIn_r _ [9, 2] (by decide +kernel) (by decide +kernel)
set_option maxRecDepth 20000 in
theorem gX6_judge_X6_thousandTo : GoodIn wsX6_judge (va_wsS RX6 189 yX6_thousandTo wsX6_thousandTo) := goodIn_app (goodIn_of _ (by decide +kernel)) ggX6_judge_X6_thousandTo
set_option maxRecDepth 20000 in
theorem ggX6_judge_X6_layTrial : GoodIn wsX6_judge wsX6_layTrial := goodIn_r _ [13, 14, 83, 84, 85, 86, 87, 88, 89, 90, 91, 92, 93, 94, 95, 96, 97, 98, 99, 100, 101, 102, 103, 104, 105, 106, 107, 108, 109, 110] (by decide +kernel) (by decide +kernel)
set_option maxRecDepth 20000 in
theorem gX6_judge_X6_layTrial : GoodIn wsX6_judge (wsV RX6 162 RX6 yX6_layTrial wsX6_layTrial) := goodIn_app (goodIn_of _ (by decide +kernel)) ggX6_judge_X6_layTrial
set_option maxRecDepth 20000 in
theorem ggX6_judge_X6_tryThing : GoodIn wsX6_judge wsX6_tryThing := goodIn_r _ [18, 14, 19, 20, 21, 5, 22, 23, 24, 25, 26, 27, 28, 29, 30, 31, 32, 33, 34, 35, 36, 37, 38, 39, 40, 41, 42, 43, 44, 45, 46, 47, 48, 49, 50, 51, 52, 53, 54, 55, 56, 57, 58, 59, 60, 61, 62, 63, 64, 65, 66, 3, 4, 6, 67, 68, 69, 70, 71, 72, 73, 74, 75, 76, 77, 78, 79, 80, 81, 82, 83, 84, 85, 86, 87, 88, 89, 90, 91, 92, 93, 94, 95, 96, 97, 98, 99, 100, 101, 102, 103, 104, 105, 106, 107, 108, 109, 110] (by decide +kernel) (by decide +kernel)
set_option maxRecDepth 20000 in
theorem gX6_judge_X6_tryThing : GoodIn wsX6_judge (wsV RX6 193 RX6 yX6_tryThing wsX6_tryThing) := goodIn_app (goodIn_of _ (by decide +kernel)) ggX6_judge_X6_tryThing
theorem dX6_judge_0 : decode cX6_judge 0 = .ok (.iload_n 1, 1) := by decide +kernel
theorem dX6_judge_1 : decode cX6_judge 1 = .ok (.i2l, 1) := by decide +kernel
theorem dX6_judge_2 : decode cX6_judge 2 = .ok (.lconst 1, 1) := by decide +kernel
theorem dX6_judge_3 : decode cX6_judge 3 = .ok (.ldc2_w 187, 3) := by decide +kernel
theorem dX6_judge_6 : decode cX6_judge 6 = .ok (.invokestatic 58, 3) := by decide +kernel
theorem dX6_judge_9 : decode cX6_judge 9 = .ok (.ifCond .eq 17, 3) := by decide +kernel
theorem dX6_judge_12 : decode cX6_judge 12 = .ok (.lload_n 2, 1) := by decide +kernel
theorem dX6_judge_13 : decode cX6_judge 13 = .ok (.lconst 0, 1) := by decide +kernel
theorem dX6_judge_14 : decode cX6_judge 14 = .ok (.iload_n 1, 1) := by decide +kernel
theorem dX6_judge_15 : decode cX6_judge 15 = .ok (.invokestatic 189, 3) := by decide +kernel
theorem dX6_judge_18 : decode cX6_judge 18 = .ok (.lconst 1, 1) := by decide +kernel
theorem dX6_judge_19 : decode cX6_judge 19 = .ok (.lsub, 1) := by decide +kernel
theorem dX6_judge_20 : decode cX6_judge 20 = .ok (.invokestatic 58, 3) := by decide +kernel
theorem dX6_judge_23 : decode cX6_judge 23 = .ok (.ifCond .ne 6, 3) := by decide +kernel
theorem dX6_judge_26 : decode cX6_judge 26 = .ok (.bipush (-2), 2) := by decide +kernel
theorem dX6_judge_28 : decode cX6_judge 28 = .ok (.ireturn, 1) := by decide +kernel
theorem dX6_judge_29 : decode cX6_judge 29 = .ok (.aload_n 0, 1) := by decide +kernel
theorem dX6_judge_30 : decode cX6_judge 30 = .ok (.invokevirtual 162, 3) := by decide +kernel
theorem dX6_judge_33 : decode cX6_judge 33 = .ok (.iconst 0, 1) := by decide +kernel
theorem dX6_judge_34 : decode cX6_judge 34 = .ok (.istore 4, 2) := by decide +kernel
theorem dX6_judge_36 : decode cX6_judge 36 = .ok (.iload 4, 2) := by decide +kernel
theorem dX6_judge_38 : decode cX6_judge 38 = .ok (.iload_n 1, 1) := by decide +kernel
theorem dX6_judge_39 : decode cX6_judge 39 = .ok (.if_icmp .ge 55, 3) := by decide +kernel
theorem dX6_judge_42 : decode cX6_judge 42 = .ok (.lload_n 2, 1) := by decide +kernel
theorem dX6_judge_43 : decode cX6_judge 43 = .ok (.iload_n 1, 1) := by decide +kernel
theorem dX6_judge_44 : decode cX6_judge 44 = .ok (.iconst 1, 1) := by decide +kernel
theorem dX6_judge_45 : decode cX6_judge 45 = .ok (.isub, 1) := by decide +kernel
theorem dX6_judge_46 : decode cX6_judge 46 = .ok (.iload 4, 2) := by decide +kernel
theorem dX6_judge_48 : decode cX6_judge 48 = .ok (.isub, 1) := by decide +kernel
theorem dX6_judge_49 : decode cX6_judge 49 = .ok (.invokestatic 189, 3) := by decide +kernel
theorem dX6_judge_52 : decode cX6_judge 52 = .ok (.ldiv, 1) := by decide +kernel
theorem dX6_judge_53 : decode cX6_judge 53 = .ok (.ldc2_w 185, 3) := by decide +kernel
theorem dX6_judge_56 : decode cX6_judge 56 = .ok (.lrem, 1) := by decide +kernel
theorem dX6_judge_57 : decode cX6_judge 57 = .ok (.l2i, 1) := by decide +kernel
theorem dX6_judge_58 : decode cX6_judge 58 = .ok (.istore 5, 2) := by decide +kernel
theorem dX6_judge_60 : decode cX6_judge 60 = .ok (.aload_n 0, 1) := by decide +kernel
theorem dX6_judge_61 : decode cX6_judge 61 = .ok (.iload 5, 2) := by decide +kernel
theorem dX6_judge_63 : decode cX6_judge 63 = .ok (.bipush 100, 2) := by decide +kernel
theorem dX6_judge_65 : decode cX6_judge 65 = .ok (.idiv, 1) := by decide +kernel
theorem dX6_judge_66 : decode cX6_judge 66 = .ok (.iload 5, 2) := by decide +kernel
theorem dX6_judge_68 : decode cX6_judge 68 = .ok (.bipush 10, 2) := by decide +kernel
theorem dX6_judge_70 : decode cX6_judge 70 = .ok (.idiv, 1) := by decide +kernel
theorem dX6_judge_71 : decode cX6_judge 71 = .ok (.bipush 10, 2) := by decide +kernel
theorem dX6_judge_73 : decode cX6_judge 73 = .ok (.irem, 1) := by decide +kernel
theorem dX6_judge_74 : decode cX6_judge 74 = .ok (.iload 5, 2) := by decide +kernel
theorem dX6_judge_76 : decode cX6_judge 76 = .ok (.bipush 10, 2) := by decide +kernel
theorem dX6_judge_78 : decode cX6_judge 78 = .ok (.irem, 1) := by decide +kernel
theorem dX6_judge_79 : decode cX6_judge 79 = .ok (.invokevirtual 193, 3) := by decide +kernel
theorem dX6_judge_82 : decode cX6_judge 82 = .ok (.ifCond .ne 6, 3) := by decide +kernel
theorem dX6_judge_85 : decode cX6_judge 85 = .ok (.iload 4, 2) := by decide +kernel
theorem dX6_judge_87 : decode cX6_judge 87 = .ok (.ireturn, 1) := by decide +kernel
theorem dX6_judge_88 : decode cX6_judge 88 = .ok (.iinc 4 1, 3) := by decide +kernel
theorem dX6_judge_91 : decode cX6_judge 91 = .ok (.goto (-55), 3) := by decide +kernel
theorem dX6_judge_94 : decode cX6_judge 94 = .ok (.bipush (-9), 2) := by decide +kernel
theorem dX6_judge_96 : decode cX6_judge 96 = .ok (.ireturn, 1) := by decide +kernel
set_option maxRecDepth 20000 in
theorem ggX6_hear_X6_in : GoodIn wsX6_hear wsX6_in := goodIn_r _ [9] (by decide +kernel) (by decide +kernel)
set_option maxRecDepth 20000 in
theorem gX6_hear_X6_in : GoodIn wsX6_hear (va_wsS RX6 58 yX6_in wsX6_in) := goodIn_app (goodIn_of _ (by decide +kernel)) ggX6_hear_X6_in
theorem dX6_hear_0 : decode cX6_hear 0 = .ok (.iload_n 1, 1) := by decide +kernel
theorem dX6_hear_1 : decode cX6_hear 1 = .ok (.i2l, 1) := by decide +kernel
theorem dX6_hear_2 : decode cX6_hear 2 = .ok (.lconst 0, 1) := by decide +kernel
theorem dX6_hear_3 : decode cX6_hear 3 = .ok (.ldc2_w 197, 3) := by decide +kernel
theorem dX6_hear_6 : decode cX6_hear 6 = .ok (.invokestatic 58, 3) := by decide +kernel
theorem dX6_hear_9 : decode cX6_hear 9 = .ok (.ifCond .eq 25, 3) := by decide +kernel
theorem dX6_hear_12 : decode cX6_hear 12 = .ok (.iload_n 2, 1) := by decide +kernel
theorem dX6_hear_13 : decode cX6_hear 13 = .ok (.i2l, 1) := by decide +kernel
theorem dX6_hear_14 : decode cX6_hear 14 = .ok (.lconst 0, 1) := by decide +kernel
theorem dX6_hear_15 : decode cX6_hear 15 = .ok (.ldc2_w 197, 3) := by decide +kernel
theorem dX6_hear_18 : decode cX6_hear 18 = .ok (.invokestatic 58, 3) := by decide +kernel
theorem dX6_hear_21 : decode cX6_hear 21 = .ok (.ifCond .eq 13, 3) := by decide +kernel
theorem dX6_hear_24 : decode cX6_hear 24 = .ok (.iload_n 3, 1) := by decide +kernel
theorem dX6_hear_25 : decode cX6_hear 25 = .ok (.i2l, 1) := by decide +kernel
theorem dX6_hear_26 : decode cX6_hear 26 = .ok (.lconst 0, 1) := by decide +kernel
theorem dX6_hear_27 : decode cX6_hear 27 = .ok (.lconst 1, 1) := by decide +kernel
theorem dX6_hear_28 : decode cX6_hear 28 = .ok (.invokestatic 58, 3) := by decide +kernel
theorem dX6_hear_31 : decode cX6_hear 31 = .ok (.ifCond .ne 6, 3) := by decide +kernel
theorem dX6_hear_34 : decode cX6_hear 34 = .ok (.bipush (-2), 2) := by decide +kernel
theorem dX6_hear_36 : decode cX6_hear 36 = .ok (.ireturn, 1) := by decide +kernel
theorem dX6_hear_37 : decode cX6_hear 37 = .ok (.aload_n 0, 1) := by decide +kernel
theorem dX6_hear_38 : decode cX6_hear 38 = .ok (.getfield 199, 3) := by decide +kernel
theorem dX6_hear_41 : decode cX6_hear 41 = .ok (.bipush 6, 2) := by decide +kernel
theorem dX6_hear_43 : decode cX6_hear 43 = .ok (.if_icmp .ne 6, 3) := by decide +kernel
theorem dX6_hear_46 : decode cX6_hear 46 = .ok (.bipush (-4), 2) := by decide +kernel
theorem dX6_hear_48 : decode cX6_hear 48 = .ok (.ireturn, 1) := by decide +kernel
theorem dX6_hear_49 : decode cX6_hear 49 = .ok (.aload_n 0, 1) := by decide +kernel
theorem dX6_hear_50 : decode cX6_hear 50 = .ok (.getfield 40, 3) := by decide +kernel
theorem dX6_hear_53 : decode cX6_hear 53 = .ok (.aload_n 0, 1) := by decide +kernel
theorem dX6_hear_54 : decode cX6_hear 54 = .ok (.getfield 199, 3) := by decide +kernel
theorem dX6_hear_57 : decode cX6_hear 57 = .ok (.iload_n 1, 1) := by decide +kernel
theorem dX6_hear_58 : decode cX6_hear 58 = .ok (.iastore, 1) := by decide +kernel
theorem dX6_hear_59 : decode cX6_hear 59 = .ok (.aload_n 0, 1) := by decide +kernel
theorem dX6_hear_60 : decode cX6_hear 60 = .ok (.getfield 43, 3) := by decide +kernel
theorem dX6_hear_63 : decode cX6_hear 63 = .ok (.aload_n 0, 1) := by decide +kernel
theorem dX6_hear_64 : decode cX6_hear 64 = .ok (.getfield 199, 3) := by decide +kernel
theorem dX6_hear_67 : decode cX6_hear 67 = .ok (.iload_n 2, 1) := by decide +kernel
theorem dX6_hear_68 : decode cX6_hear 68 = .ok (.iastore, 1) := by decide +kernel
theorem dX6_hear_69 : decode cX6_hear 69 = .ok (.aload_n 0, 1) := by decide +kernel
theorem dX6_hear_70 : decode cX6_hear 70 = .ok (.getfield 46, 3) := by decide +kernel
theorem dX6_hear_73 : decode cX6_hear 73 = .ok (.aload_n 0, 1) := by decide +kernel
theorem dX6_hear_74 : decode cX6_hear 74 = .ok (.getfield 199, 3) := by decide +kernel
theorem dX6_hear_77 : decode cX6_hear 77 = .ok (.iload_n 3, 1) := by decide +kernel
theorem dX6_hear_78 : decode cX6_hear 78 = .ok (.iastore, 1) := by decide +kernel
theorem dX6_hear_79 : decode cX6_hear 79 = .ok (.aload_n 0, 1) := by decide +kernel
theorem dX6_hear_80 : decode cX6_hear 80 = .ok (.dup, 1) := by decide +kernel
theorem dX6_hear_81 : decode cX6_hear 81 = .ok (.getfield 199, 3) := by decide +kernel
theorem dX6_hear_84 : decode cX6_hear 84 = .ok (.iconst 1, 1) := by decide +kernel
theorem dX6_hear_85 : decode cX6_hear 85 = .ok (.iadd, 1) := by decide +kernel
theorem dX6_hear_86 : decode cX6_hear 86 = .ok (.putfield 199, 3) := by decide +kernel
theorem dX6_hear_89 : decode cX6_hear 89 = .ok (.aload_n 0, 1) := by decide +kernel
theorem dX6_hear_90 : decode cX6_hear 90 = .ok (.getfield 199, 3) := by decide +kernel
theorem dX6_hear_93 : decode cX6_hear 93 = .ok (.ireturn, 1) := by decide +kernel
theorem dX6_unhear_0 : decode cX6_unhear 0 = .ok (.aload_n 0, 1) := by decide +kernel
theorem dX6_unhear_1 : decode cX6_unhear 1 = .ok (.getfield 199, 3) := by decide +kernel
theorem dX6_unhear_4 : decode cX6_unhear 4 = .ok (.istore_n 1, 1) := by decide +kernel
theorem dX6_unhear_5 : decode cX6_unhear 5 = .ok (.aload_n 0, 1) := by decide +kernel
theorem dX6_unhear_6 : decode cX6_unhear 6 = .ok (.iconst 0, 1) := by decide +kernel
theorem dX6_unhear_7 : decode cX6_unhear 7 = .ok (.putfield 199, 3) := by decide +kernel
theorem dX6_unhear_10 : decode cX6_unhear 10 = .ok (.iload_n 1, 1) := by decide +kernel
theorem dX6_unhear_11 : decode cX6_unhear 11 = .ok (.ireturn, 1) := by decide +kernel
set_option maxRecDepth 20000 in
theorem ggX6_ears_X6_in : GoodIn wsX6_ears wsX6_in := goodIn_r _ [8] (by decide +kernel) (by decide +kernel)
set_option maxRecDepth 20000 in
theorem gX6_ears_X6_in : GoodIn wsX6_ears (va_wsS RX6 58 yX6_in wsX6_in) := goodIn_app (goodIn_of _ (by decide +kernel)) ggX6_ears_X6_in
set_option maxRecDepth 20000 in
theorem ggX6_ears_X6_earOf : GoodIn wsX6_ears wsX6_earOf := goodIn_r _ [11] (by decide +kernel) (by decide +kernel)
set_option maxRecDepth 20000 in
theorem gX6_ears_X6_earOf : GoodIn wsX6_ears (va_wsS RX6 111 yX6_earOf wsX6_earOf) := goodIn_app (goodIn_of _ (by decide +kernel)) ggX6_ears_X6_earOf
theorem dX6_ears_0 : decode cX6_ears 0 = .ok (.iload_n 1, 1) := by decide +kernel
theorem dX6_ears_1 : decode cX6_ears 1 = .ok (.i2l, 1) := by decide +kernel
theorem dX6_ears_2 : decode cX6_ears 2 = .ok (.lconst 0, 1) := by decide +kernel
theorem dX6_ears_3 : decode cX6_ears 3 = .ok (.lconst 1, 1) := by decide +kernel
theorem dX6_ears_4 : decode cX6_ears 4 = .ok (.invokestatic 58, 3) := by decide +kernel
theorem dX6_ears_7 : decode cX6_ears 7 = .ok (.ifCond .ne 6, 3) := by decide +kernel
theorem dX6_ears_10 : decode cX6_ears 10 = .ok (.bipush (-2), 2) := by decide +kernel
theorem dX6_ears_12 : decode cX6_ears 12 = .ok (.ireturn, 1) := by decide +kernel
theorem dX6_ears_13 : decode cX6_ears 13 = .ok (.iconst 0, 1) := by decide +kernel
theorem dX6_ears_14 : decode cX6_ears 14 = .ok (.istore_n 2, 1) := by decide +kernel
theorem dX6_ears_15 : decode cX6_ears 15 = .ok (.bipush (-9), 2) := by decide +kernel
theorem dX6_ears_17 : decode cX6_ears 17 = .ok (.istore_n 3, 1) := by decide +kernel
theorem dX6_ears_18 : decode cX6_ears 18 = .ok (.iconst 0, 1) := by decide +kernel
theorem dX6_ears_19 : decode cX6_ears 19 = .ok (.istore 4, 2) := by decide +kernel
theorem dX6_ears_21 : decode cX6_ears 21 = .ok (.iload 4, 2) := by decide +kernel
theorem dX6_ears_23 : decode cX6_ears 23 = .ok (.bipush 30, 2) := by decide +kernel
theorem dX6_ears_25 : decode cX6_ears 25 = .ok (.if_icmp .ge 131, 3) := by decide +kernel
theorem dX6_ears_28 : decode cX6_ears 28 = .ok (.iconst 1, 1) := by decide +kernel
theorem dX6_ears_29 : decode cX6_ears 29 = .ok (.istore 5, 2) := by decide +kernel
theorem dX6_ears_31 : decode cX6_ears 31 = .ok (.iconst 0, 1) := by decide +kernel
theorem dX6_ears_32 : decode cX6_ears 32 = .ok (.istore 6, 2) := by decide +kernel
theorem dX6_ears_34 : decode cX6_ears 34 = .ok (.iload 6, 2) := by decide +kernel
theorem dX6_ears_36 : decode cX6_ears 36 = .ok (.aload_n 0, 1) := by decide +kernel
theorem dX6_ears_37 : decode cX6_ears 37 = .ok (.getfield 199, 3) := by decide +kernel
theorem dX6_ears_40 : decode cX6_ears 40 = .ok (.if_icmp .ge 81, 3) := by decide +kernel
theorem dX6_ears_43 : decode cX6_ears 43 = .ok (.aload_n 0, 1) := by decide +kernel
theorem dX6_ears_44 : decode cX6_ears 44 = .ok (.getfield 40, 3) := by decide +kernel
theorem dX6_ears_47 : decode cX6_ears 47 = .ok (.iload 6, 2) := by decide +kernel
theorem dX6_ears_49 : decode cX6_ears 49 = .ok (.iaload, 1) := by decide +kernel
theorem dX6_ears_50 : decode cX6_ears 50 = .ok (.iload 4, 2) := by decide +kernel
theorem dX6_ears_52 : decode cX6_ears 52 = .ok (.bipush 10, 2) := by decide +kernel
theorem dX6_ears_54 : decode cX6_ears 54 = .ok (.idiv, 1) := by decide +kernel
theorem dX6_ears_55 : decode cX6_ears 55 = .ok (.invokestatic 111, 3) := by decide +kernel
theorem dX6_ears_58 : decode cX6_ears 58 = .ok (.iadd, 1) := by decide +kernel
theorem dX6_ears_59 : decode cX6_ears 59 = .ok (.iload 4, 2) := by decide +kernel
theorem dX6_ears_61 : decode cX6_ears 61 = .ok (.bipush 10, 2) := by decide +kernel
theorem dX6_ears_63 : decode cX6_ears 63 = .ok (.irem, 1) := by decide +kernel
theorem dX6_ears_64 : decode cX6_ears 64 = .ok (.aload_n 0, 1) := by decide +kernel
theorem dX6_ears_65 : decode cX6_ears 65 = .ok (.getfield 43, 3) := by decide +kernel
theorem dX6_ears_68 : decode cX6_ears 68 = .ok (.iload 6, 2) := by decide +kernel
theorem dX6_ears_70 : decode cX6_ears 70 = .ok (.iaload, 1) := by decide +kernel
theorem dX6_ears_71 : decode cX6_ears 71 = .ok (.iadd, 1) := by decide +kernel
theorem dX6_ears_72 : decode cX6_ears 72 = .ok (.if_icmp .le 7, 3) := by decide +kernel
theorem dX6_ears_75 : decode cX6_ears 75 = .ok (.iconst 1, 1) := by decide +kernel
theorem dX6_ears_76 : decode cX6_ears 76 = .ok (.goto 4, 3) := by decide +kernel
theorem dX6_ears_79 : decode cX6_ears 79 = .ok (.iconst 0, 1) := by decide +kernel
theorem dX6_ears_80 : decode cX6_ears 80 = .ok (.istore 7, 2) := by decide +kernel
theorem dX6_ears_82 : decode cX6_ears 82 = .ok (.iload 5, 2) := by decide +kernel
theorem dX6_ears_84 : decode cX6_ears 84 = .ok (.ifCond .eq 28, 3) := by decide +kernel
theorem dX6_ears_87 : decode cX6_ears 87 = .ok (.iload 7, 2) := by decide +kernel
theorem dX6_ears_89 : decode cX6_ears 89 = .ok (.aload_n 0, 1) := by decide +kernel
theorem dX6_ears_90 : decode cX6_ears 90 = .ok (.getfield 46, 3) := by decide +kernel
theorem dX6_ears_93 : decode cX6_ears 93 = .ok (.iload 6, 2) := by decide +kernel
theorem dX6_ears_95 : decode cX6_ears 95 = .ok (.iaload, 1) := by decide +kernel
theorem dX6_ears_96 : decode cX6_ears 96 = .ok (.iconst 1, 1) := by decide +kernel
theorem dX6_ears_97 : decode cX6_ears 97 = .ok (.if_icmp .ne 7, 3) := by decide +kernel
theorem dX6_ears_100 : decode cX6_ears 100 = .ok (.iconst 1, 1) := by decide +kernel
theorem dX6_ears_101 : decode cX6_ears 101 = .ok (.goto 4, 3) := by decide +kernel
theorem dX6_ears_104 : decode cX6_ears 104 = .ok (.iconst 0, 1) := by decide +kernel
theorem dX6_ears_105 : decode cX6_ears 105 = .ok (.if_icmp .ne 7, 3) := by decide +kernel
theorem dX6_ears_108 : decode cX6_ears 108 = .ok (.iconst 1, 1) := by decide +kernel
theorem dX6_ears_109 : decode cX6_ears 109 = .ok (.goto 4, 3) := by decide +kernel
theorem dX6_ears_112 : decode cX6_ears 112 = .ok (.iconst 0, 1) := by decide +kernel
theorem dX6_ears_113 : decode cX6_ears 113 = .ok (.istore 5, 2) := by decide +kernel
theorem dX6_ears_115 : decode cX6_ears 115 = .ok (.iinc 6 1, 3) := by decide +kernel
theorem dX6_ears_118 : decode cX6_ears 118 = .ok (.goto (-84), 3) := by decide +kernel
theorem dX6_ears_121 : decode cX6_ears 121 = .ok (.iload 5, 2) := by decide +kernel
theorem dX6_ears_123 : decode cX6_ears 123 = .ok (.ifCond .eq 12, 3) := by decide +kernel
theorem dX6_ears_126 : decode cX6_ears 126 = .ok (.iload_n 2, 1) := by decide +kernel
theorem dX6_ears_127 : decode cX6_ears 127 = .ok (.ifCond .ne 8, 3) := by decide +kernel
theorem dX6_ears_130 : decode cX6_ears 130 = .ok (.iload 4, 2) := by decide +kernel
theorem dX6_ears_132 : decode cX6_ears 132 = .ok (.goto 4, 3) := by decide +kernel
theorem dX6_ears_135 : decode cX6_ears 135 = .ok (.iload_n 3, 1) := by decide +kernel
theorem dX6_ears_136 : decode cX6_ears 136 = .ok (.istore_n 3, 1) := by decide +kernel
theorem dX6_ears_137 : decode cX6_ears 137 = .ok (.iload_n 2, 1) := by decide +kernel
theorem dX6_ears_138 : decode cX6_ears 138 = .ok (.iload 5, 2) := by decide +kernel
theorem dX6_ears_140 : decode cX6_ears 140 = .ok (.ifCond .eq 7, 3) := by decide +kernel
theorem dX6_ears_143 : decode cX6_ears 143 = .ok (.iconst 1, 1) := by decide +kernel
theorem dX6_ears_144 : decode cX6_ears 144 = .ok (.goto 4, 3) := by decide +kernel
theorem dX6_ears_147 : decode cX6_ears 147 = .ok (.iconst 0, 1) := by decide +kernel
theorem dX6_ears_148 : decode cX6_ears 148 = .ok (.iadd, 1) := by decide +kernel
theorem dX6_ears_149 : decode cX6_ears 149 = .ok (.istore_n 2, 1) := by decide +kernel
theorem dX6_ears_150 : decode cX6_ears 150 = .ok (.iinc 4 1, 3) := by decide +kernel
theorem dX6_ears_153 : decode cX6_ears 153 = .ok (.goto (-132), 3) := by decide +kernel
theorem dX6_ears_156 : decode cX6_ears 156 = .ok (.iload_n 1, 1) := by decide +kernel
theorem dX6_ears_157 : decode cX6_ears 157 = .ok (.ifCond .ne 7, 3) := by decide +kernel
theorem dX6_ears_160 : decode cX6_ears 160 = .ok (.iload_n 2, 1) := by decide +kernel
theorem dX6_ears_161 : decode cX6_ears 161 = .ok (.goto 4, 3) := by decide +kernel
theorem dX6_ears_164 : decode cX6_ears 164 = .ok (.iload_n 3, 1) := by decide +kernel
theorem dX6_ears_165 : decode cX6_ears 165 = .ok (.ireturn, 1) := by decide +kernel
theorem dX6_factorial_0 : decode cX6_factorial 0 = .ok (.iconst 1, 1) := by decide +kernel
theorem dX6_factorial_1 : decode cX6_factorial 1 = .ok (.istore_n 1, 1) := by decide +kernel
theorem dX6_factorial_2 : decode cX6_factorial 2 = .ok (.iconst 2, 1) := by decide +kernel
theorem dX6_factorial_3 : decode cX6_factorial 3 = .ok (.istore_n 2, 1) := by decide +kernel
theorem dX6_factorial_4 : decode cX6_factorial 4 = .ok (.iload_n 2, 1) := by decide +kernel
theorem dX6_factorial_5 : decode cX6_factorial 5 = .ok (.iload_n 0, 1) := by decide +kernel
theorem dX6_factorial_6 : decode cX6_factorial 6 = .ok (.if_icmp .gt 13, 3) := by decide +kernel
theorem dX6_factorial_9 : decode cX6_factorial 9 = .ok (.iload_n 1, 1) := by decide +kernel
theorem dX6_factorial_10 : decode cX6_factorial 10 = .ok (.iload_n 2, 1) := by decide +kernel
theorem dX6_factorial_11 : decode cX6_factorial 11 = .ok (.imul, 1) := by decide +kernel
theorem dX6_factorial_12 : decode cX6_factorial 12 = .ok (.istore_n 1, 1) := by decide +kernel
theorem dX6_factorial_13 : decode cX6_factorial 13 = .ok (.iinc 2 1, 3) := by decide +kernel
theorem dX6_factorial_16 : decode cX6_factorial 16 = .ok (.goto (-12), 3) := by decide +kernel
theorem dX6_factorial_19 : decode cX6_factorial 19 = .ok (.iload_n 1, 1) := by decide +kernel
theorem dX6_factorial_20 : decode cX6_factorial 20 = .ok (.ireturn, 1) := by decide +kernel
theorem dX6_common_0 : decode cX6_common 0 = .ok (.iload_n 0, 1) := by decide +kernel
theorem dX6_common_1 : decode cX6_common 1 = .ok (.ifCond .ge 8, 3) := by decide +kernel
theorem dX6_common_4 : decode cX6_common 4 = .ok (.iload_n 0, 1) := by decide +kernel
theorem dX6_common_5 : decode cX6_common 5 = .ok (.ineg, 1) := by decide +kernel
theorem dX6_common_6 : decode cX6_common 6 = .ok (.goto 4, 3) := by decide +kernel
theorem dX6_common_9 : decode cX6_common 9 = .ok (.iload_n 0, 1) := by decide +kernel
theorem dX6_common_10 : decode cX6_common 10 = .ok (.istore_n 2, 1) := by decide +kernel
theorem dX6_common_11 : decode cX6_common 11 = .ok (.iload_n 1, 1) := by decide +kernel
theorem dX6_common_12 : decode cX6_common 12 = .ok (.istore_n 3, 1) := by decide +kernel
theorem dX6_common_13 : decode cX6_common 13 = .ok (.iload_n 3, 1) := by decide +kernel
theorem dX6_common_14 : decode cX6_common 14 = .ok (.ifCond .eq 16, 3) := by decide +kernel
theorem dX6_common_17 : decode cX6_common 17 = .ok (.iload_n 2, 1) := by decide +kernel
theorem dX6_common_18 : decode cX6_common 18 = .ok (.iload_n 3, 1) := by decide +kernel
theorem dX6_common_19 : decode cX6_common 19 = .ok (.irem, 1) := by decide +kernel
theorem dX6_common_20 : decode cX6_common 20 = .ok (.istore 4, 2) := by decide +kernel
theorem dX6_common_22 : decode cX6_common 22 = .ok (.iload_n 3, 1) := by decide +kernel
theorem dX6_common_23 : decode cX6_common 23 = .ok (.istore_n 2, 1) := by decide +kernel
theorem dX6_common_24 : decode cX6_common 24 = .ok (.iload 4, 2) := by decide +kernel
theorem dX6_common_26 : decode cX6_common 26 = .ok (.istore_n 3, 1) := by decide +kernel
theorem dX6_common_27 : decode cX6_common 27 = .ok (.goto (-14), 3) := by decide +kernel
theorem dX6_common_30 : decode cX6_common 30 = .ok (.iload_n 2, 1) := by decide +kernel
theorem dX6_common_31 : decode cX6_common 31 = .ok (.ireturn, 1) := by decide +kernel
set_option maxRecDepth 20000 in
theorem ggX6_share_X6_isHouse : GoodIn wsX6_share wsX6_isHouse := goodIn_r _ [6, 1, 7, 8, 5, 9, 31, 32, 33, 34, 35, 36, 37, 38, 39, 40, 41, 42, 43, 44, 45, 46, 47, 48, 49, 50, 51, 52, 53, 54, 55, 56, 57, 58] (by decide +kernel) (by decide +kernel)
set_option maxRecDepth 20000 in
theorem gX6_share_X6_isHouse : GoodIn wsX6_share (wsV RX6 131 RX6 yX6_isHouse wsX6_isHouse) := goodIn_app (goodIn_of _ (by decide +kernel)) ggX6_share_X6_isHouse
set_option maxRecDepth 20000 in
theorem ggX6_share_X6_has : GoodIn wsX6_share wsX6_has := goodIn_r _ [12] (by decide +kernel) (by decide +kernel)
set_option maxRecDepth 20000 in
theorem gX6_share_X6_has : GoodIn wsX6_share (va_wsS RX6 121 yX6_has wsX6_has) := goodIn_app (goodIn_of _ (by decide +kernel)) ggX6_share_X6_has
set_option maxRecDepth 20000 in
theorem ggX6_share_X6_ones : GoodIn wsX6_share wsX6_ones := goodIn_r _ [15] (by decide +kernel) (by decide +kernel)
set_option maxRecDepth 20000 in
theorem gX6_share_X6_ones : GoodIn wsX6_share (va_wsS RX6 128 yX6_ones wsX6_ones) := goodIn_app (goodIn_of _ (by decide +kernel)) ggX6_share_X6_ones
set_option maxRecDepth 20000 in
theorem ggX6_share_X6_factorial : GoodIn wsX6_share wsX6_factorial := goodIn_r _ [18] (by decide +kernel) (by decide +kernel)
set_option maxRecDepth 20000 in
theorem gX6_share_X6_factorial : GoodIn wsX6_share (va_wsS RX6 202 yX6_factorial wsX6_factorial) := goodIn_app (goodIn_of _ (by decide +kernel)) ggX6_share_X6_factorial
set_option maxRecDepth 20000 in
theorem ggX6_share_X6_knownBy : GoodIn wsX6_share wsX6_knownBy := goodIn_r _ [22, 1, 10, 11, 5, 12, 23, 24, 25, 26, 27, 31, 32, 33, 34, 35, 36, 37, 38, 39, 40, 41, 42, 43, 44, 45, 46, 47, 48, 49, 50, 51, 52, 53, 54, 55, 56, 57, 58] (by decide +kernel) (by decide +kernel)
set_option maxRecDepth 20000 in
theorem gX6_share_X6_knownBy : GoodIn wsX6_share (wsV RX6 182 RX6 yX6_knownBy wsX6_knownBy) := goodIn_app (goodIn_of _ (by decide +kernel)) ggX6_share_X6_knownBy
set_option maxRecDepth 20000 in
theorem ggX6_share_X6_common : GoodIn wsX6_share wsX6_common := goodIn_r _ [30] (by decide +kernel) (by decide +kernel)
set_option maxRecDepth 20000 in
theorem gX6_share_X6_common : GoodIn wsX6_share (va_wsS RX6 205 yX6_common wsX6_common) := goodIn_app (goodIn_of _ (by decide +kernel)) ggX6_share_X6_common
theorem dX6_share_0 : decode cX6_share 0 = .ok (.aload_n 0, 1) := by decide +kernel
theorem dX6_share_1 : decode cX6_share 1 = .ok (.iload_n 1, 1) := by decide +kernel
theorem dX6_share_2 : decode cX6_share 2 = .ok (.invokevirtual 131, 3) := by decide +kernel
theorem dX6_share_5 : decode cX6_share 5 = .ok (.ifCond .ne 5, 3) := by decide +kernel
theorem dX6_share_8 : decode cX6_share 8 = .ok (.iconst (-1), 1) := by decide +kernel
theorem dX6_share_9 : decode cX6_share 9 = .ok (.ireturn, 1) := by decide +kernel
theorem dX6_share_10 : decode cX6_share 10 = .ok (.iconst 0, 1) := by decide +kernel
theorem dX6_share_11 : decode cX6_share 11 = .ok (.istore_n 3, 1) := by decide +kernel
theorem dX6_share_12 : decode cX6_share 12 = .ok (.iconst 0, 1) := by decide +kernel
theorem dX6_share_13 : decode cX6_share 13 = .ok (.istore 4, 2) := by decide +kernel
theorem dX6_share_15 : decode cX6_share 15 = .ok (.iload 4, 2) := by decide +kernel
theorem dX6_share_17 : decode cX6_share 17 = .ok (.iconst 1, 1) := by decide +kernel
theorem dX6_share_18 : decode cX6_share 18 = .ok (.aload_n 0, 1) := by decide +kernel
theorem dX6_share_19 : decode cX6_share 19 = .ok (.getfield 93, 3) := by decide +kernel
theorem dX6_share_22 : decode cX6_share 22 = .ok (.ishl, 1) := by decide +kernel
theorem dX6_share_23 : decode cX6_share 23 = .ok (.if_icmp .ge 73, 3) := by decide +kernel
theorem dX6_share_26 : decode cX6_share 26 = .ok (.iload 4, 2) := by decide +kernel
theorem dX6_share_28 : decode cX6_share 28 = .ok (.iload_n 1, 1) := by decide +kernel
theorem dX6_share_29 : decode cX6_share 29 = .ok (.invokestatic 121, 3) := by decide +kernel
theorem dX6_share_32 : decode cX6_share 32 = .ok (.ifCond .ne 58, 3) := by decide +kernel
theorem dX6_share_35 : decode cX6_share 35 = .ok (.iload 4, 2) := by decide +kernel
theorem dX6_share_37 : decode cX6_share 37 = .ok (.invokestatic 128, 3) := by decide +kernel
theorem dX6_share_40 : decode cX6_share 40 = .ok (.invokestatic 202, 3) := by decide +kernel
theorem dX6_share_43 : decode cX6_share 43 = .ok (.aload_n 0, 1) := by decide +kernel
theorem dX6_share_44 : decode cX6_share 44 = .ok (.getfield 93, 3) := by decide +kernel
theorem dX6_share_47 : decode cX6_share 47 = .ok (.iconst 1, 1) := by decide +kernel
theorem dX6_share_48 : decode cX6_share 48 = .ok (.isub, 1) := by decide +kernel
theorem dX6_share_49 : decode cX6_share 49 = .ok (.iload 4, 2) := by decide +kernel
theorem dX6_share_51 : decode cX6_share 51 = .ok (.invokestatic 128, 3) := by decide +kernel
theorem dX6_share_54 : decode cX6_share 54 = .ok (.isub, 1) := by decide +kernel
theorem dX6_share_55 : decode cX6_share 55 = .ok (.invokestatic 202, 3) := by decide +kernel
theorem dX6_share_58 : decode cX6_share 58 = .ok (.imul, 1) := by decide +kernel
theorem dX6_share_59 : decode cX6_share 59 = .ok (.istore 5, 2) := by decide +kernel
theorem dX6_share_61 : decode cX6_share 61 = .ok (.iload_n 3, 1) := by decide +kernel
theorem dX6_share_62 : decode cX6_share 62 = .ok (.iload 5, 2) := by decide +kernel
theorem dX6_share_64 : decode cX6_share 64 = .ok (.aload_n 0, 1) := by decide +kernel
theorem dX6_share_65 : decode cX6_share 65 = .ok (.iload 4, 2) := by decide +kernel
theorem dX6_share_67 : decode cX6_share 67 = .ok (.iconst 1, 1) := by decide +kernel
theorem dX6_share_68 : decode cX6_share 68 = .ok (.iload_n 1, 1) := by decide +kernel
theorem dX6_share_69 : decode cX6_share 69 = .ok (.ishl, 1) := by decide +kernel
theorem dX6_share_70 : decode cX6_share 70 = .ok (.ior, 1) := by decide +kernel
theorem dX6_share_71 : decode cX6_share 71 = .ok (.invokevirtual 182, 3) := by decide +kernel
theorem dX6_share_74 : decode cX6_share 74 = .ok (.invokestatic 128, 3) := by decide +kernel
theorem dX6_share_77 : decode cX6_share 77 = .ok (.aload_n 0, 1) := by decide +kernel
theorem dX6_share_78 : decode cX6_share 78 = .ok (.iload 4, 2) := by decide +kernel
theorem dX6_share_80 : decode cX6_share 80 = .ok (.invokevirtual 182, 3) := by decide +kernel
theorem dX6_share_83 : decode cX6_share 83 = .ok (.invokestatic 128, 3) := by decide +kernel
theorem dX6_share_86 : decode cX6_share 86 = .ok (.isub, 1) := by decide +kernel
theorem dX6_share_87 : decode cX6_share 87 = .ok (.imul, 1) := by decide +kernel
theorem dX6_share_88 : decode cX6_share 88 = .ok (.iadd, 1) := by decide +kernel
theorem dX6_share_89 : decode cX6_share 89 = .ok (.istore_n 3, 1) := by decide +kernel
theorem dX6_share_90 : decode cX6_share 90 = .ok (.iinc 4 1, 3) := by decide +kernel
theorem dX6_share_93 : decode cX6_share 93 = .ok (.goto (-78), 3) := by decide +kernel
theorem dX6_share_96 : decode cX6_share 96 = .ok (.iload_n 3, 1) := by decide +kernel
theorem dX6_share_97 : decode cX6_share 97 = .ok (.aload_n 0, 1) := by decide +kernel
theorem dX6_share_98 : decode cX6_share 98 = .ok (.getfield 93, 3) := by decide +kernel
theorem dX6_share_101 : decode cX6_share 101 = .ok (.invokestatic 202, 3) := by decide +kernel
theorem dX6_share_104 : decode cX6_share 104 = .ok (.invokestatic 205, 3) := by decide +kernel
theorem dX6_share_107 : decode cX6_share 107 = .ok (.istore 4, 2) := by decide +kernel
theorem dX6_share_109 : decode cX6_share 109 = .ok (.iload_n 2, 1) := by decide +kernel
theorem dX6_share_110 : decode cX6_share 110 = .ok (.ifCond .eq 10, 3) := by decide +kernel
theorem dX6_share_113 : decode cX6_share 113 = .ok (.iload_n 3, 1) := by decide +kernel
theorem dX6_share_114 : decode cX6_share 114 = .ok (.iload 4, 2) := by decide +kernel
theorem dX6_share_116 : decode cX6_share 116 = .ok (.idiv, 1) := by decide +kernel
theorem dX6_share_117 : decode cX6_share 117 = .ok (.goto 13, 3) := by decide +kernel
theorem dX6_share_120 : decode cX6_share 120 = .ok (.aload_n 0, 1) := by decide +kernel
theorem dX6_share_121 : decode cX6_share 121 = .ok (.getfield 93, 3) := by decide +kernel
theorem dX6_share_124 : decode cX6_share 124 = .ok (.invokestatic 202, 3) := by decide +kernel
theorem dX6_share_127 : decode cX6_share 127 = .ok (.iload 4, 2) := by decide +kernel
theorem dX6_share_129 : decode cX6_share 129 = .ok (.idiv, 1) := by decide +kernel
theorem dX6_share_130 : decode cX6_share 130 = .ok (.ireturn, 1) := by decide +kernel
set_option maxRecDepth 20000 in
theorem ggX6_gain_X6_layTrial : GoodIn wsX6_gain wsX6_layTrial := goodIn_r _ [6, 1, 55, 56, 57, 58, 59, 60, 61, 62, 63, 64, 65, 66, 67, 68, 69, 70, 71, 72, 73, 74, 75, 76, 77, 78, 79, 80, 81, 82] (by decide +kernel) (by decide +kernel)
set_option maxRecDepth 20000 in
theorem gX6_gain_X6_layTrial : GoodIn wsX6_gain (wsV RX6 162 RX6 yX6_layTrial wsX6_layTrial) := goodIn_app (goodIn_of _ (by decide +kernel)) ggX6_gain_X6_layTrial
set_option maxRecDepth 20000 in
theorem ggX6_gain_X6_goOn : GoodIn wsX6_gain wsX6_goOn := goodIn_r _ [10, 11, 12, 13, 5, 14, 15, 16, 1, 17, 18, 19, 20, 21, 22, 23, 24, 25, 26, 27, 28, 29, 30, 31, 32, 33, 34, 35, 36, 37, 38, 39, 40, 41, 42, 43, 44, 45, 46, 47, 48, 49, 50, 55, 56, 57, 58, 59, 60, 61, 62, 63, 64, 65, 66, 67, 68, 69, 70, 71, 72, 73, 74, 75, 76, 77, 78, 79, 80, 81, 82] (by decide +kernel) (by decide +kernel)
set_option maxRecDepth 20000 in
theorem gX6_gain_X6_goOn : GoodIn wsX6_gain (wsV RX6 165 RX6 yX6_goOn wsX6_goOn) := goodIn_app (goodIn_of _ (by decide +kernel)) ggX6_gain_X6_goOn
set_option maxRecDepth 20000 in
theorem ggX6_gain_X6_knowsAt : GoodIn wsX6_gain wsX6_knowsAt := goodIn_r _ [54, 1, 55, 56, 57, 58, 59, 60, 61, 62, 63, 64, 65, 66, 67, 68, 69, 70, 71, 72, 73, 74, 75, 76, 77, 78, 79, 80, 81, 82] (by decide +kernel) (by decide +kernel)
set_option maxRecDepth 20000 in
theorem gX6_gain_X6_knowsAt : GoodIn wsX6_gain (wsV RX6 134 RX6 yX6_knowsAt wsX6_knowsAt) := goodIn_app (goodIn_of _ (by decide +kernel)) ggX6_gain_X6_knowsAt
set_option maxRecDepth 20000 in
theorem ggX6_gain_X6_ones : GoodIn wsX6_gain wsX6_ones := goodIn_r _ [50] (by decide +kernel) (by decide +kernel)
set_option maxRecDepth 20000 in
theorem gX6_gain_X6_ones : GoodIn wsX6_gain (va_wsS RX6 128 yX6_ones wsX6_ones) := goodIn_app (goodIn_of _ (by decide +kernel)) ggX6_gain_X6_ones
theorem dX6_gain_0 : decode cX6_gain 0 = .ok (.aload_n 0, 1) := by decide +kernel
theorem dX6_gain_1 : decode cX6_gain 1 = .ok (.invokevirtual 162, 3) := by decide +kernel
theorem dX6_gain_4 : decode cX6_gain 4 = .ok (.aload_n 0, 1) := by decide +kernel
theorem dX6_gain_5 : decode cX6_gain 5 = .ok (.getfield 22, 3) := by decide +kernel
theorem dX6_gain_8 : decode cX6_gain 8 = .ok (.bipush 27, 2) := by decide +kernel
theorem dX6_gain_10 : decode cX6_gain 10 = .ok (.iload_n 1, 1) := by decide +kernel
theorem dX6_gain_11 : decode cX6_gain 11 = .ok (.iadd, 1) := by decide +kernel
theorem dX6_gain_12 : decode cX6_gain 12 = .ok (.dup2, 1) := by decide +kernel
theorem dX6_gain_13 : decode cX6_gain 13 = .ok (.iaload, 1) := by decide +kernel
theorem dX6_gain_14 : decode cX6_gain 14 = .ok (.iload_n 3, 1) := by decide +kernel
theorem dX6_gain_15 : decode cX6_gain 15 = .ok (.iconst 1, 1) := by decide +kernel
theorem dX6_gain_16 : decode cX6_gain 16 = .ok (.if_icmp .ne 21, 3) := by decide +kernel
theorem dX6_gain_19 : decode cX6_gain 19 = .ok (.aload_n 0, 1) := by decide +kernel
theorem dX6_gain_20 : decode cX6_gain 20 = .ok (.getfield 22, 3) := by decide +kernel
theorem dX6_gain_23 : decode cX6_gain 23 = .ok (.bipush 10, 2) := by decide +kernel
theorem dX6_gain_25 : decode cX6_gain 25 = .ok (.iload_n 1, 1) := by decide +kernel
theorem dX6_gain_26 : decode cX6_gain 26 = .ok (.iadd, 1) := by decide +kernel
theorem dX6_gain_27 : decode cX6_gain 27 = .ok (.iaload, 1) := by decide +kernel
theorem dX6_gain_28 : decode cX6_gain 28 = .ok (.bipush (-3), 2) := by decide +kernel
theorem dX6_gain_30 : decode cX6_gain 30 = .ok (.if_icmp .le 7, 3) := by decide +kernel
theorem dX6_gain_33 : decode cX6_gain 33 = .ok (.iconst 1, 1) := by decide +kernel
theorem dX6_gain_34 : decode cX6_gain 34 = .ok (.goto 4, 3) := by decide +kernel
theorem dX6_gain_37 : decode cX6_gain 37 = .ok (.iconst 0, 1) := by decide +kernel
theorem dX6_gain_38 : decode cX6_gain 38 = .ok (.isub, 1) := by decide +kernel
theorem dX6_gain_39 : decode cX6_gain 39 = .ok (.iastore, 1) := by decide +kernel
theorem dX6_gain_40 : decode cX6_gain 40 = .ok (.aload_n 0, 1) := by decide +kernel
theorem dX6_gain_41 : decode cX6_gain 41 = .ok (.getfield 22, 3) := by decide +kernel
theorem dX6_gain_44 : decode cX6_gain 44 = .ok (.bipush 27, 2) := by decide +kernel
theorem dX6_gain_46 : decode cX6_gain 46 = .ok (.iload_n 2, 1) := by decide +kernel
theorem dX6_gain_47 : decode cX6_gain 47 = .ok (.iadd, 1) := by decide +kernel
theorem dX6_gain_48 : decode cX6_gain 48 = .ok (.dup2, 1) := by decide +kernel
theorem dX6_gain_49 : decode cX6_gain 49 = .ok (.iaload, 1) := by decide +kernel
theorem dX6_gain_50 : decode cX6_gain 50 = .ok (.iload 4, 2) := by decide +kernel
theorem dX6_gain_52 : decode cX6_gain 52 = .ok (.iconst 1, 1) := by decide +kernel
theorem dX6_gain_53 : decode cX6_gain 53 = .ok (.if_icmp .ne 21, 3) := by decide +kernel
theorem dX6_gain_56 : decode cX6_gain 56 = .ok (.aload_n 0, 1) := by decide +kernel
theorem dX6_gain_57 : decode cX6_gain 57 = .ok (.getfield 22, 3) := by decide +kernel
theorem dX6_gain_60 : decode cX6_gain 60 = .ok (.bipush 10, 2) := by decide +kernel
theorem dX6_gain_62 : decode cX6_gain 62 = .ok (.iload_n 2, 1) := by decide +kernel
theorem dX6_gain_63 : decode cX6_gain 63 = .ok (.iadd, 1) := by decide +kernel
theorem dX6_gain_64 : decode cX6_gain 64 = .ok (.iaload, 1) := by decide +kernel
theorem dX6_gain_65 : decode cX6_gain 65 = .ok (.bipush (-3), 2) := by decide +kernel
theorem dX6_gain_67 : decode cX6_gain 67 = .ok (.if_icmp .le 7, 3) := by decide +kernel
theorem dX6_gain_70 : decode cX6_gain 70 = .ok (.iconst 1, 1) := by decide +kernel
theorem dX6_gain_71 : decode cX6_gain 71 = .ok (.goto 4, 3) := by decide +kernel
theorem dX6_gain_74 : decode cX6_gain 74 = .ok (.iconst 0, 1) := by decide +kernel
theorem dX6_gain_75 : decode cX6_gain 75 = .ok (.isub, 1) := by decide +kernel
theorem dX6_gain_76 : decode cX6_gain 76 = .ok (.iastore, 1) := by decide +kernel
theorem dX6_gain_77 : decode cX6_gain 77 = .ok (.aload_n 0, 1) := by decide +kernel
theorem dX6_gain_78 : decode cX6_gain 78 = .ok (.iconst 4, 1) := by decide +kernel
theorem dX6_gain_79 : decode cX6_gain 79 = .ok (.invokevirtual 165, 3) := by decide +kernel
theorem dX6_gain_82 : decode cX6_gain 82 = .ok (.bipush 6, 2) := by decide +kernel
theorem dX6_gain_84 : decode cX6_gain 84 = .ok (.aload_n 0, 1) := by decide +kernel
theorem dX6_gain_85 : decode cX6_gain 85 = .ok (.iconst 1, 1) := by decide +kernel
theorem dX6_gain_86 : decode cX6_gain 86 = .ok (.iload_n 1, 1) := by decide +kernel
theorem dX6_gain_87 : decode cX6_gain 87 = .ok (.invokevirtual 134, 3) := by decide +kernel
theorem dX6_gain_90 : decode cX6_gain 90 = .ok (.invokestatic 128, 3) := by decide +kernel
theorem dX6_gain_93 : decode cX6_gain 93 = .ok (.isub, 1) := by decide +kernel
theorem dX6_gain_94 : decode cX6_gain 94 = .ok (.iload_n 3, 1) := by decide +kernel
theorem dX6_gain_95 : decode cX6_gain 95 = .ok (.isub, 1) := by decide +kernel
theorem dX6_gain_96 : decode cX6_gain 96 = .ok (.ireturn, 1) := by decide +kernel
set_option maxRecDepth 20000 in
theorem ggX6_isRest_X6_gain : GoodIn wsX6_isRest wsX6_gain := goodIn_r _ [5, 6, 7, 8, 9, 4, 10, 11, 12, 13, 14, 15, 16, 17, 18, 19, 20, 21, 22, 23, 24, 25, 26, 27, 28, 29, 30, 31, 32, 33, 34, 35, 36, 37, 38, 39, 40, 41, 42, 43, 44, 45, 46, 47, 48, 49, 50, 51, 52, 53, 54, 55, 56, 57, 58, 59, 60, 61, 62, 63, 64, 65, 66, 67, 68, 69, 70, 71, 72, 73, 74, 75, 76, 77, 78, 79, 80, 81, 82, 83, 84, 85, 86] (by decide +kernel) (by decide +kernel)
set_option maxRecDepth 20000 in
theorem gX6_isRest_X6_gain : GoodIn wsX6_isRest (wsV RX6 208 RX6 yX6_gain wsX6_gain) := goodIn_app (goodIn_of _ (by decide +kernel)) ggX6_isRest_X6_gain
theorem dX6_isRest_0 : decode cX6_isRest 0 = .ok (.aload_n 0, 1) := by decide +kernel
theorem dX6_isRest_1 : decode cX6_isRest 1 = .ok (.iload_n 1, 1) := by decide +kernel
theorem dX6_isRest_2 : decode cX6_isRest 2 = .ok (.iload_n 2, 1) := by decide +kernel
theorem dX6_isRest_3 : decode cX6_isRest 3 = .ok (.iconst 1, 1) := by decide +kernel
theorem dX6_isRest_4 : decode cX6_isRest 4 = .ok (.iload_n 3, 1) := by decide +kernel
theorem dX6_isRest_5 : decode cX6_isRest 5 = .ok (.isub, 1) := by decide +kernel
theorem dX6_isRest_6 : decode cX6_isRest 6 = .ok (.iload 4, 2) := by decide +kernel
theorem dX6_isRest_8 : decode cX6_isRest 8 = .ok (.invokevirtual 208, 3) := by decide +kernel
theorem dX6_isRest_11 : decode cX6_isRest 11 = .ok (.aload_n 0, 1) := by decide +kernel
theorem dX6_isRest_12 : decode cX6_isRest 12 = .ok (.iload_n 1, 1) := by decide +kernel
theorem dX6_isRest_13 : decode cX6_isRest 13 = .ok (.iload_n 2, 1) := by decide +kernel
theorem dX6_isRest_14 : decode cX6_isRest 14 = .ok (.iload_n 3, 1) := by decide +kernel
theorem dX6_isRest_15 : decode cX6_isRest 15 = .ok (.iload 4, 2) := by decide +kernel
theorem dX6_isRest_17 : decode cX6_isRest 17 = .ok (.invokevirtual 208, 3) := by decide +kernel
theorem dX6_isRest_20 : decode cX6_isRest 20 = .ok (.if_icmp .gt 30, 3) := by decide +kernel
theorem dX6_isRest_23 : decode cX6_isRest 23 = .ok (.aload_n 0, 1) := by decide +kernel
theorem dX6_isRest_24 : decode cX6_isRest 24 = .ok (.iload_n 2, 1) := by decide +kernel
theorem dX6_isRest_25 : decode cX6_isRest 25 = .ok (.iload_n 1, 1) := by decide +kernel
theorem dX6_isRest_26 : decode cX6_isRest 26 = .ok (.iconst 1, 1) := by decide +kernel
theorem dX6_isRest_27 : decode cX6_isRest 27 = .ok (.iload 4, 2) := by decide +kernel
theorem dX6_isRest_29 : decode cX6_isRest 29 = .ok (.isub, 1) := by decide +kernel
theorem dX6_isRest_30 : decode cX6_isRest 30 = .ok (.iload_n 3, 1) := by decide +kernel
theorem dX6_isRest_31 : decode cX6_isRest 31 = .ok (.invokevirtual 208, 3) := by decide +kernel
theorem dX6_isRest_34 : decode cX6_isRest 34 = .ok (.aload_n 0, 1) := by decide +kernel
theorem dX6_isRest_35 : decode cX6_isRest 35 = .ok (.iload_n 2, 1) := by decide +kernel
theorem dX6_isRest_36 : decode cX6_isRest 36 = .ok (.iload_n 1, 1) := by decide +kernel
theorem dX6_isRest_37 : decode cX6_isRest 37 = .ok (.iload 4, 2) := by decide +kernel
theorem dX6_isRest_39 : decode cX6_isRest 39 = .ok (.iload_n 3, 1) := by decide +kernel
theorem dX6_isRest_40 : decode cX6_isRest 40 = .ok (.invokevirtual 208, 3) := by decide +kernel
theorem dX6_isRest_43 : decode cX6_isRest 43 = .ok (.if_icmp .gt 7, 3) := by decide +kernel
theorem dX6_isRest_46 : decode cX6_isRest 46 = .ok (.iconst 1, 1) := by decide +kernel
theorem dX6_isRest_47 : decode cX6_isRest 47 = .ok (.goto 4, 3) := by decide +kernel
theorem dX6_isRest_50 : decode cX6_isRest 50 = .ok (.iconst 0, 1) := by decide +kernel
theorem dX6_isRest_51 : decode cX6_isRest 51 = .ok (.ireturn, 1) := by decide +kernel
set_option maxRecDepth 20000 in
theorem ggX6_rests_X6_isHouse : GoodIn wsX6_rests wsX6_isHouse := goodIn_r _ [5, 6, 7, 8, 4, 9, 70, 71, 72, 73, 74, 75, 76, 77, 78, 79, 80, 81, 82, 83, 84, 85, 86, 87, 88, 89, 90, 91, 92, 93, 94, 95, 96, 97] (by decide +kernel) (by decide +kernel)
set_option maxRecDepth 20000 in
theorem gX6_rests_X6_isHouse : GoodIn wsX6_rests (wsV RX6 131 RX6 yX6_isHouse wsX6_isHouse) := goodIn_app (goodIn_of _ (by decide +kernel)) ggX6_rests_X6_isHouse
set_option maxRecDepth 20000 in
theorem ggX6_rests_X6_in : GoodIn wsX6_rests wsX6_in := goodIn_r _ [9] (by decide +kernel) (by decide +kernel)
set_option maxRecDepth 20000 in
theorem gX6_rests_X6_in : GoodIn wsX6_rests (va_wsS RX6 58 yX6_in wsX6_in) := goodIn_app (goodIn_of _ (by decide +kernel)) ggX6_rests_X6_in
set_option maxRecDepth 20000 in
theorem ggX6_rests_X6_isRest : GoodIn wsX6_rests wsX6_isRest := goodIn_r _ [13, 14, 15, 16, 4, 17, 18, 19, 20, 21, 22, 23, 24, 25, 26, 27, 28, 29, 30, 31, 32, 33, 34, 35, 36, 6, 37, 38, 39, 40, 41, 42, 43, 44, 45, 46, 47, 48, 49, 50, 51, 52, 53, 54, 55, 56, 57, 58, 59, 60, 61, 62, 63, 64, 65, 66, 67, 68, 69, 70, 71, 72, 73, 74, 75, 76, 77, 78, 79, 80, 81, 82, 83, 84, 85, 86, 87, 88, 89, 90, 91, 92, 93, 94, 95, 96, 97] (by decide +kernel) (by decide +kernel)
set_option maxRecDepth 20000 in
theorem gX6_rests_X6_isRest : GoodIn wsX6_rests (wsV RX6 211 RX6 yX6_isRest wsX6_isRest) := goodIn_app (goodIn_of _ (by decide +kernel)) ggX6_rests_X6_isRest
theorem dX6_rests_0 : decode cX6_rests 0 = .ok (.aload_n 0, 1) := by decide +kernel
theorem dX6_rests_1 : decode cX6_rests 1 = .ok (.iload_n 1, 1) := by decide +kernel
theorem dX6_rests_2 : decode cX6_rests 2 = .ok (.invokevirtual 131, 3) := by decide +kernel
theorem dX6_rests_5 : decode cX6_rests 5 = .ok (.ifCond .eq 11, 3) := by decide +kernel
theorem dX6_rests_8 : decode cX6_rests 8 = .ok (.aload_n 0, 1) := by decide +kernel
theorem dX6_rests_9 : decode cX6_rests 9 = .ok (.iload_n 2, 1) := by decide +kernel
theorem dX6_rests_10 : decode cX6_rests 10 = .ok (.invokevirtual 131, 3) := by decide +kernel
theorem dX6_rests_13 : decode cX6_rests 13 = .ok (.ifCond .ne 5, 3) := by decide +kernel
theorem dX6_rests_16 : decode cX6_rests 16 = .ok (.iconst (-1), 1) := by decide +kernel
theorem dX6_rests_17 : decode cX6_rests 17 = .ok (.ireturn, 1) := by decide +kernel
theorem dX6_rests_18 : decode cX6_rests 18 = .ok (.iload_n 1, 1) := by decide +kernel
theorem dX6_rests_19 : decode cX6_rests 19 = .ok (.iload_n 2, 1) := by decide +kernel
theorem dX6_rests_20 : decode cX6_rests 20 = .ok (.if_icmp .eq 13, 3) := by decide +kernel
theorem dX6_rests_23 : decode cX6_rests 23 = .ok (.iload_n 3, 1) := by decide +kernel
theorem dX6_rests_24 : decode cX6_rests 24 = .ok (.i2l, 1) := by decide +kernel
theorem dX6_rests_25 : decode cX6_rests 25 = .ok (.lconst 0, 1) := by decide +kernel
theorem dX6_rests_26 : decode cX6_rests 26 = .ok (.lconst 1, 1) := by decide +kernel
theorem dX6_rests_27 : decode cX6_rests 27 = .ok (.invokestatic 58, 3) := by decide +kernel
theorem dX6_rests_30 : decode cX6_rests 30 = .ok (.ifCond .ne 6, 3) := by decide +kernel
theorem dX6_rests_33 : decode cX6_rests 33 = .ok (.bipush (-2), 2) := by decide +kernel
theorem dX6_rests_35 : decode cX6_rests 35 = .ok (.ireturn, 1) := by decide +kernel
theorem dX6_rests_36 : decode cX6_rests 36 = .ok (.iconst 0, 1) := by decide +kernel
theorem dX6_rests_37 : decode cX6_rests 37 = .ok (.istore 4, 2) := by decide +kernel
theorem dX6_rests_39 : decode cX6_rests 39 = .ok (.bipush (-9), 2) := by decide +kernel
theorem dX6_rests_41 : decode cX6_rests 41 = .ok (.istore 5, 2) := by decide +kernel
theorem dX6_rests_43 : decode cX6_rests 43 = .ok (.iconst 0, 1) := by decide +kernel
theorem dX6_rests_44 : decode cX6_rests 44 = .ok (.istore 6, 2) := by decide +kernel
theorem dX6_rests_46 : decode cX6_rests 46 = .ok (.iload 6, 2) := by decide +kernel
theorem dX6_rests_48 : decode cX6_rests 48 = .ok (.iconst 4, 1) := by decide +kernel
theorem dX6_rests_49 : decode cX6_rests 49 = .ok (.if_icmp .ge 53, 3) := by decide +kernel
theorem dX6_rests_52 : decode cX6_rests 52 = .ok (.aload_n 0, 1) := by decide +kernel
theorem dX6_rests_53 : decode cX6_rests 53 = .ok (.iload_n 1, 1) := by decide +kernel
theorem dX6_rests_54 : decode cX6_rests 54 = .ok (.iload_n 2, 1) := by decide +kernel
theorem dX6_rests_55 : decode cX6_rests 55 = .ok (.iload 6, 2) := by decide +kernel
theorem dX6_rests_57 : decode cX6_rests 57 = .ok (.iconst 2, 1) := by decide +kernel
theorem dX6_rests_58 : decode cX6_rests 58 = .ok (.idiv, 1) := by decide +kernel
theorem dX6_rests_59 : decode cX6_rests 59 = .ok (.iload 6, 2) := by decide +kernel
theorem dX6_rests_61 : decode cX6_rests 61 = .ok (.iconst 2, 1) := by decide +kernel
theorem dX6_rests_62 : decode cX6_rests 62 = .ok (.irem, 1) := by decide +kernel
theorem dX6_rests_63 : decode cX6_rests 63 = .ok (.invokevirtual 211, 3) := by decide +kernel
theorem dX6_rests_66 : decode cX6_rests 66 = .ok (.ifCond .eq 30, 3) := by decide +kernel
theorem dX6_rests_69 : decode cX6_rests 69 = .ok (.iload 4, 2) := by decide +kernel
theorem dX6_rests_71 : decode cX6_rests 71 = .ok (.ifCond .ne 18, 3) := by decide +kernel
theorem dX6_rests_74 : decode cX6_rests 74 = .ok (.bipush 10, 2) := by decide +kernel
theorem dX6_rests_76 : decode cX6_rests 76 = .ok (.iload 6, 2) := by decide +kernel
theorem dX6_rests_78 : decode cX6_rests 78 = .ok (.iconst 2, 1) := by decide +kernel
theorem dX6_rests_79 : decode cX6_rests 79 = .ok (.idiv, 1) := by decide +kernel
theorem dX6_rests_80 : decode cX6_rests 80 = .ok (.imul, 1) := by decide +kernel
theorem dX6_rests_81 : decode cX6_rests 81 = .ok (.iload 6, 2) := by decide +kernel
theorem dX6_rests_83 : decode cX6_rests 83 = .ok (.iconst 2, 1) := by decide +kernel
theorem dX6_rests_84 : decode cX6_rests 84 = .ok (.irem, 1) := by decide +kernel
theorem dX6_rests_85 : decode cX6_rests 85 = .ok (.iadd, 1) := by decide +kernel
theorem dX6_rests_86 : decode cX6_rests 86 = .ok (.goto 5, 3) := by decide +kernel
theorem dX6_rests_89 : decode cX6_rests 89 = .ok (.iload 5, 2) := by decide +kernel
theorem dX6_rests_91 : decode cX6_rests 91 = .ok (.istore 5, 2) := by decide +kernel
theorem dX6_rests_93 : decode cX6_rests 93 = .ok (.iinc 4 1, 3) := by decide +kernel
theorem dX6_rests_96 : decode cX6_rests 96 = .ok (.iinc 6 1, 3) := by decide +kernel
theorem dX6_rests_99 : decode cX6_rests 99 = .ok (.goto (-53), 3) := by decide +kernel
theorem dX6_rests_102 : decode cX6_rests 102 = .ok (.iload_n 3, 1) := by decide +kernel
theorem dX6_rests_103 : decode cX6_rests 103 = .ok (.ifCond .ne 8, 3) := by decide +kernel
theorem dX6_rests_106 : decode cX6_rests 106 = .ok (.iload 4, 2) := by decide +kernel
theorem dX6_rests_108 : decode cX6_rests 108 = .ok (.goto 5, 3) := by decide +kernel
theorem dX6_rests_111 : decode cX6_rests 111 = .ok (.iload 5, 2) := by decide +kernel
theorem dX6_rests_113 : decode cX6_rests 113 = .ok (.ireturn, 1) := by decide +kernel
set_option maxRecDepth 20000 in
theorem ggX6_dries_X6_isHouse : GoodIn wsX6_dries wsX6_isHouse := goodIn_r _ [7, 8, 9, 10, 6, 11, 67, 68, 69, 70, 71, 72, 73, 74, 75, 76, 77, 78, 79, 80, 81, 82, 83, 84, 85, 86, 87, 88, 89, 90, 91, 92, 93, 94] (by decide +kernel) (by decide +kernel)
set_option maxRecDepth 20000 in
theorem gX6_dries_X6_isHouse : GoodIn wsX6_dries (wsV RX6 131 RX6 yX6_isHouse wsX6_isHouse) := goodIn_app (goodIn_of _ (by decide +kernel)) ggX6_dries_X6_isHouse
set_option maxRecDepth 20000 in
theorem ggX6_dries_X6_isThing : GoodIn wsX6_dries wsX6_isThing := goodIn_r _ [14, 15, 9, 10, 6, 11] (by decide +kernel) (by decide +kernel)
set_option maxRecDepth 20000 in
theorem gX6_dries_X6_isThing : GoodIn wsX6_dries (va_wsS RX6 168 yX6_isThing wsX6_isThing) := goodIn_app (goodIn_of _ (by decide +kernel)) ggX6_dries_X6_isThing
set_option maxRecDepth 20000 in
theorem ggX6_dries_X6_in : GoodIn wsX6_dries wsX6_in := goodIn_r _ [11] (by decide +kernel) (by decide +kernel)
set_option maxRecDepth 20000 in
theorem gX6_dries_X6_in : GoodIn wsX6_dries (va_wsS RX6 58 yX6_in wsX6_in) := goodIn_app (goodIn_of _ (by decide +kernel)) ggX6_dries_X6_in
set_option maxRecDepth 20000 in
theorem ggX6_dries_X6_layTrial : GoodIn wsX6_dries wsX6_layTrial := goodIn_r _ [19, 20, 67, 68, 69, 70, 71, 72, 73, 74, 75, 76, 77, 78, 79, 80, 81, 82, 83, 84, 85, 86, 87, 88, 89, 90, 91, 92, 93, 94] (by decide +kernel) (by decide +kernel)
set_option maxRecDepth 20000 in
theorem gX6_dries_X6_layTrial : GoodIn wsX6_dries (wsV RX6 162 RX6 yX6_layTrial wsX6_layTrial) := goodIn_app (goodIn_of _ (by decide +kernel)) ggX6_dries_X6_layTrial
set_option maxRecDepth 20000 in
theorem ggX6_dries_X6_has : GoodIn wsX6_dries wsX6_has := goodIn_r _ [23] (by decide +kernel) (by decide +kernel)
set_option maxRecDepth 20000 in
theorem gX6_dries_X6_has : GoodIn wsX6_dries (va_wsS RX6 121 yX6_has wsX6_has) := goodIn_app (goodIn_of _ (by decide +kernel)) ggX6_dries_X6_has
set_option maxRecDepth 20000 in
theorem ggX6_dries_X6_rainOn : GoodIn wsX6_dries wsX6_rainOn := goodIn_r _ [27, 28, 29, 20, 67, 68, 69, 70, 71, 72, 73, 74, 75, 76, 77, 78, 79, 80, 81, 82, 83, 84, 85, 86, 87, 88, 89, 90, 91, 92, 93, 94] (by decide +kernel) (by decide +kernel)
set_option maxRecDepth 20000 in
theorem gX6_dries_X6_rainOn : GoodIn wsX6_dries (wsV RX6 138 RX6 yX6_rainOn wsX6_rainOn) := goodIn_app (goodIn_of _ (by decide +kernel)) ggX6_dries_X6_rainOn
set_option maxRecDepth 20000 in
theorem ggX6_dries_X6_hourBy : GoodIn wsX6_dries wsX6_hourBy := goodIn_r _ [33, 8, 20, 34, 35, 36, 37, 6, 38, 39, 40, 41, 42, 43, 44, 45, 46, 47, 48, 49, 50, 51, 52, 21, 22, 23, 53, 54, 55, 56, 57, 58, 59, 67, 68, 69, 70, 71, 72, 73, 74, 75, 76, 77, 78, 79, 80, 81, 82, 83, 84, 85, 86, 87, 88, 89, 90, 91, 92, 93, 94] (by decide +kernel) (by decide +kernel)
set_option maxRecDepth 20000 in
theorem gX6_dries_X6_hourBy : GoodIn wsX6_dries (wsV RX6 149 RX6 yX6_hourBy wsX6_hourBy) := goodIn_app (goodIn_of _ (by decide +kernel)) ggX6_dries_X6_hourBy
set_option maxRecDepth 20000 in
theorem ggX6_dries_X6_knowsAt : GoodIn wsX6_dries wsX6_knowsAt := goodIn_r _ [63, 20, 67, 68, 69, 70, 71, 72, 73, 74, 75, 76, 77, 78, 79, 80, 81, 82, 83, 84, 85, 86, 87, 88, 89, 90, 91, 92, 93, 94] (by decide +kernel) (by decide +kernel)
set_option maxRecDepth 20000 in
theorem gX6_dries_X6_knowsAt : GoodIn wsX6_dries (wsV RX6 134 RX6 yX6_knowsAt wsX6_knowsAt) := goodIn_app (goodIn_of _ (by decide +kernel)) ggX6_dries_X6_knowsAt
set_option maxRecDepth 20000 in
theorem ggX6_dries_X6_common : GoodIn wsX6_dries wsX6_common := goodIn_r _ [66] (by decide +kernel) (by decide +kernel)
set_option maxRecDepth 20000 in
theorem gX6_dries_X6_common : GoodIn wsX6_dries (va_wsS RX6 205 yX6_common wsX6_common) := goodIn_app (goodIn_of _ (by decide +kernel)) ggX6_dries_X6_common
theorem dX6_dries_0 : decode cX6_dries 0 = .ok (.aload_n 0, 1) := by decide +kernel
theorem dX6_dries_1 : decode cX6_dries 1 = .ok (.iload_n 1, 1) := by decide +kernel
theorem dX6_dries_2 : decode cX6_dries 2 = .ok (.invokevirtual 131, 3) := by decide +kernel
theorem dX6_dries_5 : decode cX6_dries 5 = .ok (.ifCond .eq 10, 3) := by decide +kernel
theorem dX6_dries_8 : decode cX6_dries 8 = .ok (.iload_n 2, 1) := by decide +kernel
theorem dX6_dries_9 : decode cX6_dries 9 = .ok (.invokestatic 168, 3) := by decide +kernel
theorem dX6_dries_12 : decode cX6_dries 12 = .ok (.ifCond .ne 5, 3) := by decide +kernel
theorem dX6_dries_15 : decode cX6_dries 15 = .ok (.iconst (-1), 1) := by decide +kernel
theorem dX6_dries_16 : decode cX6_dries 16 = .ok (.ireturn, 1) := by decide +kernel
theorem dX6_dries_17 : decode cX6_dries 17 = .ok (.iload_n 3, 1) := by decide +kernel
theorem dX6_dries_18 : decode cX6_dries 18 = .ok (.i2l, 1) := by decide +kernel
theorem dX6_dries_19 : decode cX6_dries 19 = .ok (.lconst 1, 1) := by decide +kernel
theorem dX6_dries_20 : decode cX6_dries 20 = .ok (.ldc2_w 214, 3) := by decide +kernel
theorem dX6_dries_23 : decode cX6_dries 23 = .ok (.invokestatic 58, 3) := by decide +kernel
theorem dX6_dries_26 : decode cX6_dries 26 = .ok (.ifCond .eq 16, 3) := by decide +kernel
theorem dX6_dries_29 : decode cX6_dries 29 = .ok (.iload 4, 2) := by decide +kernel
theorem dX6_dries_31 : decode cX6_dries 31 = .ok (.i2l, 1) := by decide +kernel
theorem dX6_dries_32 : decode cX6_dries 32 = .ok (.lconst 0, 1) := by decide +kernel
theorem dX6_dries_33 : decode cX6_dries 33 = .ok (.ldc2_w 216, 3) := by decide +kernel
theorem dX6_dries_36 : decode cX6_dries 36 = .ok (.invokestatic 58, 3) := by decide +kernel
theorem dX6_dries_39 : decode cX6_dries 39 = .ok (.ifCond .ne 6, 3) := by decide +kernel
theorem dX6_dries_42 : decode cX6_dries 42 = .ok (.bipush (-2), 2) := by decide +kernel
theorem dX6_dries_44 : decode cX6_dries 44 = .ok (.ireturn, 1) := by decide +kernel
theorem dX6_dries_45 : decode cX6_dries 45 = .ok (.iconst 0, 1) := by decide +kernel
theorem dX6_dries_46 : decode cX6_dries 46 = .ok (.istore 6, 2) := by decide +kernel
theorem dX6_dries_48 : decode cX6_dries 48 = .ok (.iconst 0, 1) := by decide +kernel
theorem dX6_dries_49 : decode cX6_dries 49 = .ok (.istore 7, 2) := by decide +kernel
theorem dX6_dries_51 : decode cX6_dries 51 = .ok (.iconst 0, 1) := by decide +kernel
theorem dX6_dries_52 : decode cX6_dries 52 = .ok (.istore 8, 2) := by decide +kernel
theorem dX6_dries_54 : decode cX6_dries 54 = .ok (.iload 8, 2) := by decide +kernel
theorem dX6_dries_56 : decode cX6_dries 56 = .ok (.iconst 1, 1) := by decide +kernel
theorem dX6_dries_57 : decode cX6_dries 57 = .ok (.iload_n 3, 1) := by decide +kernel
theorem dX6_dries_58 : decode cX6_dries 58 = .ok (.ishl, 1) := by decide +kernel
theorem dX6_dries_59 : decode cX6_dries 59 = .ok (.if_icmp .ge 112, 3) := by decide +kernel
theorem dX6_dries_62 : decode cX6_dries 62 = .ok (.aload_n 0, 1) := by decide +kernel
theorem dX6_dries_63 : decode cX6_dries 63 = .ok (.invokevirtual 162, 3) := by decide +kernel
theorem dX6_dries_66 : decode cX6_dries 66 = .ok (.iconst 1, 1) := by decide +kernel
theorem dX6_dries_67 : decode cX6_dries 67 = .ok (.istore 9, 2) := by decide +kernel
theorem dX6_dries_69 : decode cX6_dries 69 = .ok (.iconst 0, 1) := by decide +kernel
theorem dX6_dries_70 : decode cX6_dries 70 = .ok (.istore 10, 2) := by decide +kernel
theorem dX6_dries_72 : decode cX6_dries 72 = .ok (.iload 10, 2) := by decide +kernel
theorem dX6_dries_74 : decode cX6_dries 74 = .ok (.iload_n 3, 1) := by decide +kernel
theorem dX6_dries_75 : decode cX6_dries 75 = .ok (.if_icmp .ge 59, 3) := by decide +kernel
theorem dX6_dries_78 : decode cX6_dries 78 = .ok (.iload 9, 2) := by decide +kernel
theorem dX6_dries_80 : decode cX6_dries 80 = .ok (.iload 8, 2) := by decide +kernel
theorem dX6_dries_82 : decode cX6_dries 82 = .ok (.iload 10, 2) := by decide +kernel
theorem dX6_dries_84 : decode cX6_dries 84 = .ok (.invokestatic 121, 3) := by decide +kernel
theorem dX6_dries_87 : decode cX6_dries 87 = .ok (.ifCond .eq 8, 3) := by decide +kernel
theorem dX6_dries_90 : decode cX6_dries 90 = .ok (.iload 4, 2) := by decide +kernel
theorem dX6_dries_92 : decode cX6_dries 92 = .ok (.goto 8, 3) := by decide +kernel
theorem dX6_dries_95 : decode cX6_dries 95 = .ok (.bipush 10, 2) := by decide +kernel
theorem dX6_dries_97 : decode cX6_dries 97 = .ok (.iload 4, 2) := by decide +kernel
theorem dX6_dries_99 : decode cX6_dries 99 = .ok (.isub, 1) := by decide +kernel
theorem dX6_dries_100 : decode cX6_dries 100 = .ok (.imul, 1) := by decide +kernel
theorem dX6_dries_101 : decode cX6_dries 101 = .ok (.istore 9, 2) := by decide +kernel
theorem dX6_dries_103 : decode cX6_dries 103 = .ok (.aload_n 0, 1) := by decide +kernel
theorem dX6_dries_104 : decode cX6_dries 104 = .ok (.iconst 1, 1) := by decide +kernel
theorem dX6_dries_105 : decode cX6_dries 105 = .ok (.iload 8, 2) := by decide +kernel
theorem dX6_dries_107 : decode cX6_dries 107 = .ok (.iload 10, 2) := by decide +kernel
theorem dX6_dries_109 : decode cX6_dries 109 = .ok (.invokestatic 121, 3) := by decide +kernel
theorem dX6_dries_112 : decode cX6_dries 112 = .ok (.ifCond .eq 7, 3) := by decide +kernel
theorem dX6_dries_115 : decode cX6_dries 115 = .ok (.iconst 0, 1) := by decide +kernel
theorem dX6_dries_116 : decode cX6_dries 116 = .ok (.goto 8, 3) := by decide +kernel
theorem dX6_dries_119 : decode cX6_dries 119 = .ok (.aload_n 0, 1) := by decide +kernel
theorem dX6_dries_120 : decode cX6_dries 120 = .ok (.iconst 1, 1) := by decide +kernel
theorem dX6_dries_121 : decode cX6_dries 121 = .ok (.invokevirtual 138, 3) := by decide +kernel
theorem dX6_dries_124 : decode cX6_dries 124 = .ok (.invokevirtual 149, 3) := by decide +kernel
theorem dX6_dries_127 : decode cX6_dries 127 = .ok (.pop, 1) := by decide +kernel
