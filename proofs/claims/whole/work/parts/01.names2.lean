theorem dX0_init_0 : decode cX0_init 0 = .ok (.aload_n 0, 1) := by decide +kernel
theorem dX0_init_1 : decode cX0_init 1 = .ok (.invokespecial 3, 3) := by decide +kernel
theorem dX0_init_4 : decode cX0_init 4 = .ok (.aload_n 0, 1) := by decide +kernel
theorem dX0_init_5 : decode cX0_init 5 = .ok (.bipush 14, 2) := by decide +kernel
theorem dX0_init_7 : decode cX0_init 7 = .ok (.anewarray 9, 3) := by decide +kernel
theorem dX0_init_10 : decode cX0_init 10 = .ok (.putfield 11, 3) := by decide +kernel
theorem dX0_init_13 : decode cX0_init 13 = .ok (.iconst 0, 1) := by decide +kernel
theorem dX0_init_14 : decode cX0_init 14 = .ok (.istore_n 2, 1) := by decide +kernel
theorem dX0_init_15 : decode cX0_init 15 = .ok (.iload_n 2, 1) := by decide +kernel
theorem dX0_init_16 : decode cX0_init 16 = .ok (.bipush 14, 2) := by decide +kernel
theorem dX0_init_18 : decode cX0_init 18 = .ok (.if_icmp .ge 23, 3) := by decide +kernel
theorem dX0_init_21 : decode cX0_init 21 = .ok (.aload_n 0, 1) := by decide +kernel
theorem dX0_init_22 : decode cX0_init 22 = .ok (.getfield 11, 3) := by decide +kernel
theorem dX0_init_25 : decode cX0_init 25 = .ok (.iload_n 2, 1) := by decide +kernel
theorem dX0_init_26 : decode cX0_init 26 = .ok (.new 9, 3) := by decide +kernel
theorem dX0_init_29 : decode cX0_init 29 = .ok (.dup, 1) := by decide +kernel
theorem dX0_init_30 : decode cX0_init 30 = .ok (.aload_n 1, 1) := by decide +kernel
theorem dX0_init_31 : decode cX0_init 31 = .ok (.invokespecial 17, 3) := by decide +kernel
theorem dX0_init_34 : decode cX0_init 34 = .ok (.aastore, 1) := by decide +kernel
theorem dX0_init_35 : decode cX0_init 35 = .ok (.iinc 2 1, 3) := by decide +kernel
theorem dX0_init_38 : decode cX0_init 38 = .ok (.goto (-23), 3) := by decide +kernel
theorem dX0_init_41 : decode cX0_init 41 = .ok (.return_, 1) := by decide +kernel
theorem dX0_forget_0 : decode cX0_forget 0 = .ok (.aload_n 0, 1) := by decide +kernel
theorem dX0_forget_1 : decode cX0_forget 1 = .ok (.iconst 0, 1) := by decide +kernel
theorem dX0_forget_2 : decode cX0_forget 2 = .ok (.putfield 20, 3) := by decide +kernel
theorem dX0_forget_5 : decode cX0_forget 5 = .ok (.aload_n 0, 1) := by decide +kernel
theorem dX0_forget_6 : decode cX0_forget 6 = .ok (.iconst 0, 1) := by decide +kernel
theorem dX0_forget_7 : decode cX0_forget 7 = .ok (.putfield 24, 3) := by decide +kernel
theorem dX0_forget_10 : decode cX0_forget 10 = .ok (.return_, 1) := by decide +kernel
set_option maxRecDepth 20000 in
theorem ggX0_note_X4_take : GoodIn wsX0_note wsX4_take := goodIn_r _ [8, 9, 10, 11, 12, 13, 14, 15, 16, 17, 21, 22, 23, 24, 25, 26] (by decide +kernel) (by decide +kernel)
set_option maxRecDepth 20000 in
theorem gX0_note_X4_take : GoodIn wsX0_note (wsV RX0 27 RX4 yX4_take wsX4_take) := goodIn_app (goodIn_of _ (by decide +kernel)) ggX0_note_X4_take
theorem dX0_note_0 : decode cX0_note 0 = .ok (.aload_n 0, 1) := by decide +kernel
theorem dX0_note_1 : decode cX0_note 1 = .ok (.getfield 11, 3) := by decide +kernel
theorem dX0_note_4 : decode cX0_note 4 = .ok (.aload_n 0, 1) := by decide +kernel
theorem dX0_note_5 : decode cX0_note 5 = .ok (.getfield 20, 3) := by decide +kernel
theorem dX0_note_8 : decode cX0_note 8 = .ok (.aload_n 0, 1) := by decide +kernel
theorem dX0_note_9 : decode cX0_note 9 = .ok (.getfield 24, 3) := by decide +kernel
theorem dX0_note_12 : decode cX0_note 12 = .ok (.iadd, 1) := by decide +kernel
theorem dX0_note_13 : decode cX0_note 13 = .ok (.bipush 14, 2) := by decide +kernel
theorem dX0_note_15 : decode cX0_note 15 = .ok (.irem, 1) := by decide +kernel
theorem dX0_note_16 : decode cX0_note 16 = .ok (.aaload, 1) := by decide +kernel
theorem dX0_note_17 : decode cX0_note 17 = .ok (.aload_n 1, 1) := by decide +kernel
theorem dX0_note_18 : decode cX0_note 18 = .ok (.invokevirtual 27, 3) := by decide +kernel
theorem dX0_note_21 : decode cX0_note 21 = .ok (.aload_n 0, 1) := by decide +kernel
theorem dX0_note_22 : decode cX0_note 22 = .ok (.getfield 24, 3) := by decide +kernel
theorem dX0_note_25 : decode cX0_note 25 = .ok (.bipush 14, 2) := by decide +kernel
theorem dX0_note_27 : decode cX0_note 27 = .ok (.if_icmp .ge 16, 3) := by decide +kernel
theorem dX0_note_30 : decode cX0_note 30 = .ok (.aload_n 0, 1) := by decide +kernel
theorem dX0_note_31 : decode cX0_note 31 = .ok (.dup, 1) := by decide +kernel
theorem dX0_note_32 : decode cX0_note 32 = .ok (.getfield 24, 3) := by decide +kernel
theorem dX0_note_35 : decode cX0_note 35 = .ok (.iconst 1, 1) := by decide +kernel
theorem dX0_note_36 : decode cX0_note 36 = .ok (.iadd, 1) := by decide +kernel
theorem dX0_note_37 : decode cX0_note 37 = .ok (.putfield 24, 3) := by decide +kernel
theorem dX0_note_40 : decode cX0_note 40 = .ok (.goto 16, 3) := by decide +kernel
theorem dX0_note_43 : decode cX0_note 43 = .ok (.aload_n 0, 1) := by decide +kernel
theorem dX0_note_44 : decode cX0_note 44 = .ok (.aload_n 0, 1) := by decide +kernel
theorem dX0_note_45 : decode cX0_note 45 = .ok (.getfield 20, 3) := by decide +kernel
theorem dX0_note_48 : decode cX0_note 48 = .ok (.iconst 1, 1) := by decide +kernel
theorem dX0_note_49 : decode cX0_note 49 = .ok (.iadd, 1) := by decide +kernel
theorem dX0_note_50 : decode cX0_note 50 = .ok (.bipush 14, 2) := by decide +kernel
theorem dX0_note_52 : decode cX0_note 52 = .ok (.irem, 1) := by decide +kernel
theorem dX0_note_53 : decode cX0_note 53 = .ok (.putfield 20, 3) := by decide +kernel
theorem dX0_note_56 : decode cX0_note 56 = .ok (.return_, 1) := by decide +kernel
set_option maxRecDepth 20000 in
theorem ggX0_takeBack_X4_take : GoodIn wsX0_takeBack wsX4_take := goodIn_r _ [8, 9, 10, 11, 12, 13, 14, 15, 16, 17, 21, 22, 23, 24, 25, 26] (by decide +kernel) (by decide +kernel)
set_option maxRecDepth 20000 in
theorem gX0_takeBack_X4_take : GoodIn wsX0_takeBack (wsV RX0 27 RX4 yX4_take wsX4_take) := goodIn_app (goodIn_of _ (by decide +kernel)) ggX0_takeBack_X4_take
theorem dX0_takeBack_0 : decode cX0_takeBack 0 = .ok (.aload_n 0, 1) := by decide +kernel
theorem dX0_takeBack_1 : decode cX0_takeBack 1 = .ok (.getfield 24, 3) := by decide +kernel
theorem dX0_takeBack_4 : decode cX0_takeBack 4 = .ok (.ifCond .le 34, 3) := by decide +kernel
theorem dX0_takeBack_7 : decode cX0_takeBack 7 = .ok (.aload_n 0, 1) := by decide +kernel
theorem dX0_takeBack_8 : decode cX0_takeBack 8 = .ok (.dup, 1) := by decide +kernel
theorem dX0_takeBack_9 : decode cX0_takeBack 9 = .ok (.getfield 24, 3) := by decide +kernel
theorem dX0_takeBack_12 : decode cX0_takeBack 12 = .ok (.iconst 1, 1) := by decide +kernel
theorem dX0_takeBack_13 : decode cX0_takeBack 13 = .ok (.isub, 1) := by decide +kernel
theorem dX0_takeBack_14 : decode cX0_takeBack 14 = .ok (.putfield 24, 3) := by decide +kernel
theorem dX0_takeBack_17 : decode cX0_takeBack 17 = .ok (.aload_n 1, 1) := by decide +kernel
theorem dX0_takeBack_18 : decode cX0_takeBack 18 = .ok (.aload_n 0, 1) := by decide +kernel
theorem dX0_takeBack_19 : decode cX0_takeBack 19 = .ok (.getfield 11, 3) := by decide +kernel
theorem dX0_takeBack_22 : decode cX0_takeBack 22 = .ok (.aload_n 0, 1) := by decide +kernel
theorem dX0_takeBack_23 : decode cX0_takeBack 23 = .ok (.getfield 20, 3) := by decide +kernel
theorem dX0_takeBack_26 : decode cX0_takeBack 26 = .ok (.aload_n 0, 1) := by decide +kernel
theorem dX0_takeBack_27 : decode cX0_takeBack 27 = .ok (.getfield 24, 3) := by decide +kernel
theorem dX0_takeBack_30 : decode cX0_takeBack 30 = .ok (.iadd, 1) := by decide +kernel
theorem dX0_takeBack_31 : decode cX0_takeBack 31 = .ok (.bipush 14, 2) := by decide +kernel
theorem dX0_takeBack_33 : decode cX0_takeBack 33 = .ok (.irem, 1) := by decide +kernel
theorem dX0_takeBack_34 : decode cX0_takeBack 34 = .ok (.aaload, 1) := by decide +kernel
theorem dX0_takeBack_35 : decode cX0_takeBack 35 = .ok (.invokevirtual 27, 3) := by decide +kernel
theorem dX0_takeBack_38 : decode cX0_takeBack 38 = .ok (.return_, 1) := by decide +kernel
theorem dX1_init_0 : decode cX1_init 0 = .ok (.aload_n 0, 1) := by decide +kernel
theorem dX1_init_1 : decode cX1_init 1 = .ok (.invokespecial 3, 3) := by decide +kernel
theorem dX1_init_4 : decode cX1_init 4 = .ok (.aload_n 0, 1) := by decide +kernel
theorem dX1_init_5 : decode cX1_init 5 = .ok (.bipush 6, 2) := by decide +kernel
theorem dX1_init_7 : decode cX1_init 7 = .ok (.newarray .int, 2) := by decide +kernel
theorem dX1_init_9 : decode cX1_init 9 = .ok (.putfield 9, 3) := by decide +kernel
theorem dX1_init_12 : decode cX1_init 12 = .ok (.aload_n 0, 1) := by decide +kernel
theorem dX1_init_13 : decode cX1_init 13 = .ok (.bipush 6, 2) := by decide +kernel
theorem dX1_init_15 : decode cX1_init 15 = .ok (.newarray .int, 2) := by decide +kernel
theorem dX1_init_17 : decode cX1_init 17 = .ok (.putfield 15, 3) := by decide +kernel
theorem dX1_init_20 : decode cX1_init 20 = .ok (.aload_n 0, 1) := by decide +kernel
theorem dX1_init_21 : decode cX1_init 21 = .ok (.bipush 6, 2) := by decide +kernel
theorem dX1_init_23 : decode cX1_init 23 = .ok (.newarray .boolean, 2) := by decide +kernel
theorem dX1_init_25 : decode cX1_init 25 = .ok (.putfield 18, 3) := by decide +kernel
theorem dX1_init_28 : decode cX1_init 28 = .ok (.return_, 1) := by decide +kernel
theorem dX1_add_0 : decode cX1_add 0 = .ok (.aload_n 0, 1) := by decide +kernel
theorem dX1_add_1 : decode cX1_add 1 = .ok (.getfield 22, 3) := by decide +kernel
theorem dX1_add_4 : decode cX1_add 4 = .ok (.bipush 6, 2) := by decide +kernel
theorem dX1_add_6 : decode cX1_add 6 = .ok (.if_icmp .ge 43, 3) := by decide +kernel
theorem dX1_add_9 : decode cX1_add 9 = .ok (.aload_n 0, 1) := by decide +kernel
theorem dX1_add_10 : decode cX1_add 10 = .ok (.getfield 9, 3) := by decide +kernel
theorem dX1_add_13 : decode cX1_add 13 = .ok (.aload_n 0, 1) := by decide +kernel
theorem dX1_add_14 : decode cX1_add 14 = .ok (.getfield 22, 3) := by decide +kernel
theorem dX1_add_17 : decode cX1_add 17 = .ok (.iload_n 1, 1) := by decide +kernel
theorem dX1_add_18 : decode cX1_add 18 = .ok (.iastore, 1) := by decide +kernel
theorem dX1_add_19 : decode cX1_add 19 = .ok (.aload_n 0, 1) := by decide +kernel
theorem dX1_add_20 : decode cX1_add 20 = .ok (.getfield 15, 3) := by decide +kernel
theorem dX1_add_23 : decode cX1_add 23 = .ok (.aload_n 0, 1) := by decide +kernel
theorem dX1_add_24 : decode cX1_add 24 = .ok (.getfield 22, 3) := by decide +kernel
theorem dX1_add_27 : decode cX1_add 27 = .ok (.iload_n 2, 1) := by decide +kernel
theorem dX1_add_28 : decode cX1_add 28 = .ok (.iastore, 1) := by decide +kernel
theorem dX1_add_29 : decode cX1_add 29 = .ok (.aload_n 0, 1) := by decide +kernel
theorem dX1_add_30 : decode cX1_add 30 = .ok (.getfield 18, 3) := by decide +kernel
theorem dX1_add_33 : decode cX1_add 33 = .ok (.aload_n 0, 1) := by decide +kernel
theorem dX1_add_34 : decode cX1_add 34 = .ok (.getfield 22, 3) := by decide +kernel
theorem dX1_add_37 : decode cX1_add 37 = .ok (.iload_n 3, 1) := by decide +kernel
theorem dX1_add_38 : decode cX1_add 38 = .ok (.bastore, 1) := by decide +kernel
theorem dX1_add_39 : decode cX1_add 39 = .ok (.aload_n 0, 1) := by decide +kernel
theorem dX1_add_40 : decode cX1_add 40 = .ok (.dup, 1) := by decide +kernel
theorem dX1_add_41 : decode cX1_add 41 = .ok (.getfield 22, 3) := by decide +kernel
theorem dX1_add_44 : decode cX1_add 44 = .ok (.iconst 1, 1) := by decide +kernel
theorem dX1_add_45 : decode cX1_add 45 = .ok (.iadd, 1) := by decide +kernel
theorem dX1_add_46 : decode cX1_add 46 = .ok (.putfield 22, 3) := by decide +kernel
theorem dX1_add_49 : decode cX1_add 49 = .ok (.return_, 1) := by decide +kernel
theorem dX1_fits_0 : decode cX1_fits 0 = .ok (.iconst 0, 1) := by decide +kernel
theorem dX1_fits_1 : decode cX1_fits 1 = .ok (.istore_n 3, 1) := by decide +kernel
theorem dX1_fits_2 : decode cX1_fits 2 = .ok (.iload_n 3, 1) := by decide +kernel
theorem dX1_fits_3 : decode cX1_fits 3 = .ok (.aload_n 0, 1) := by decide +kernel
theorem dX1_fits_4 : decode cX1_fits 4 = .ok (.getfield 22, 3) := by decide +kernel
theorem dX1_fits_7 : decode cX1_fits 7 = .ok (.if_icmp .ge 52, 3) := by decide +kernel
theorem dX1_fits_10 : decode cX1_fits 10 = .ok (.aload_n 0, 1) := by decide +kernel
theorem dX1_fits_11 : decode cX1_fits 11 = .ok (.getfield 9, 3) := by decide +kernel
theorem dX1_fits_14 : decode cX1_fits 14 = .ok (.iload_n 3, 1) := by decide +kernel
theorem dX1_fits_15 : decode cX1_fits 15 = .ok (.iaload, 1) := by decide +kernel
theorem dX1_fits_16 : decode cX1_fits 16 = .ok (.getstatic 26, 3) := by decide +kernel
theorem dX1_fits_19 : decode cX1_fits 19 = .ok (.iload_n 1, 1) := by decide +kernel
theorem dX1_fits_20 : decode cX1_fits 20 = .ok (.iaload, 1) := by decide +kernel
theorem dX1_fits_21 : decode cX1_fits 21 = .ok (.iadd, 1) := by decide +kernel
theorem dX1_fits_22 : decode cX1_fits 22 = .ok (.iload_n 2, 1) := by decide +kernel
theorem dX1_fits_23 : decode cX1_fits 23 = .ok (.aload_n 0, 1) := by decide +kernel
theorem dX1_fits_24 : decode cX1_fits 24 = .ok (.getfield 15, 3) := by decide +kernel
theorem dX1_fits_27 : decode cX1_fits 27 = .ok (.iload_n 3, 1) := by decide +kernel
theorem dX1_fits_28 : decode cX1_fits 28 = .ok (.iaload, 1) := by decide +kernel
theorem dX1_fits_29 : decode cX1_fits 29 = .ok (.iadd, 1) := by decide +kernel
theorem dX1_fits_30 : decode cX1_fits 30 = .ok (.if_icmp .le 7, 3) := by decide +kernel
theorem dX1_fits_33 : decode cX1_fits 33 = .ok (.iconst 1, 1) := by decide +kernel
theorem dX1_fits_34 : decode cX1_fits 34 = .ok (.goto 4, 3) := by decide +kernel
theorem dX1_fits_37 : decode cX1_fits 37 = .ok (.iconst 0, 1) := by decide +kernel
theorem dX1_fits_38 : decode cX1_fits 38 = .ok (.istore 4, 2) := by decide +kernel
theorem dX1_fits_40 : decode cX1_fits 40 = .ok (.iload 4, 2) := by decide +kernel
theorem dX1_fits_42 : decode cX1_fits 42 = .ok (.aload_n 0, 1) := by decide +kernel
theorem dX1_fits_43 : decode cX1_fits 43 = .ok (.getfield 18, 3) := by decide +kernel
theorem dX1_fits_46 : decode cX1_fits 46 = .ok (.iload_n 3, 1) := by decide +kernel
theorem dX1_fits_47 : decode cX1_fits 47 = .ok (.baload, 1) := by decide +kernel
theorem dX1_fits_48 : decode cX1_fits 48 = .ok (.if_icmp .eq 5, 3) := by decide +kernel
theorem dX1_fits_51 : decode cX1_fits 51 = .ok (.iconst 0, 1) := by decide +kernel
theorem dX1_fits_52 : decode cX1_fits 52 = .ok (.ireturn, 1) := by decide +kernel
theorem dX1_fits_53 : decode cX1_fits 53 = .ok (.iinc 3 1, 3) := by decide +kernel
theorem dX1_fits_56 : decode cX1_fits 56 = .ok (.goto (-54), 3) := by decide +kernel
theorem dX1_fits_59 : decode cX1_fits 59 = .ok (.iconst 1, 1) := by decide +kernel
theorem dX1_fits_60 : decode cX1_fits 60 = .ok (.ireturn, 1) := by decide +kernel
theorem dX2_init_0 : decode cX2_init 0 = .ok (.aload_n 0, 1) := by decide +kernel
theorem dX2_init_1 : decode cX2_init 1 = .ok (.invokespecial 3, 3) := by decide +kernel
theorem dX2_init_4 : decode cX2_init 4 = .ok (.aload_n 0, 1) := by decide +kernel
theorem dX2_init_5 : decode cX2_init 5 = .ok (.iconst 5, 1) := by decide +kernel
theorem dX2_init_6 : decode cX2_init 6 = .ok (.newarray .int, 2) := by decide +kernel
theorem dX2_init_8 : decode cX2_init 8 = .ok (.putfield 9, 3) := by decide +kernel
theorem dX2_init_11 : decode cX2_init 11 = .ok (.aload_n 0, 1) := by decide +kernel
theorem dX2_init_12 : decode cX2_init 12 = .ok (.iconst 5, 1) := by decide +kernel
theorem dX2_init_13 : decode cX2_init 13 = .ok (.newarray .int, 2) := by decide +kernel
theorem dX2_init_15 : decode cX2_init 15 = .ok (.putfield 15, 3) := by decide +kernel
theorem dX2_init_18 : decode cX2_init 18 = .ok (.aload_n 0, 1) := by decide +kernel
theorem dX2_init_19 : decode cX2_init 19 = .ok (.bipush 8, 2) := by decide +kernel
theorem dX2_init_21 : decode cX2_init 21 = .ok (.newarray .int, 2) := by decide +kernel
theorem dX2_init_23 : decode cX2_init 23 = .ok (.putfield 18, 3) := by decide +kernel
theorem dX2_init_26 : decode cX2_init 26 = .ok (.aload_n 0, 1) := by decide +kernel
theorem dX2_init_27 : decode cX2_init 27 = .ok (.bipush 8, 2) := by decide +kernel
theorem dX2_init_29 : decode cX2_init 29 = .ok (.newarray .int, 2) := by decide +kernel
theorem dX2_init_31 : decode cX2_init 31 = .ok (.putfield 21, 3) := by decide +kernel
theorem dX2_init_34 : decode cX2_init 34 = .ok (.aload_n 0, 1) := by decide +kernel
theorem dX2_init_35 : decode cX2_init 35 = .ok (.bipush 8, 2) := by decide +kernel
theorem dX2_init_37 : decode cX2_init 37 = .ok (.newarray .int, 2) := by decide +kernel
theorem dX2_init_39 : decode cX2_init 39 = .ok (.putfield 24, 3) := by decide +kernel
theorem dX2_init_42 : decode cX2_init 42 = .ok (.aload_n 0, 1) := by decide +kernel
theorem dX2_init_43 : decode cX2_init 43 = .ok (.iconst 4, 1) := by decide +kernel
theorem dX2_init_44 : decode cX2_init 44 = .ok (.newarray .int, 2) := by decide +kernel
theorem dX2_init_46 : decode cX2_init 46 = .ok (.putfield 27, 3) := by decide +kernel
theorem dX2_init_49 : decode cX2_init 49 = .ok (.return_, 1) := by decide +kernel
theorem dX2_clear_0 : decode cX2_clear 0 = .ok (.aload_n 0, 1) := by decide +kernel
theorem dX2_clear_1 : decode cX2_clear 1 = .ok (.iconst 0, 1) := by decide +kernel
theorem dX2_clear_2 : decode cX2_clear 2 = .ok (.putfield 30, 3) := by decide +kernel
theorem dX2_clear_5 : decode cX2_clear 5 = .ok (.aload_n 0, 1) := by decide +kernel
theorem dX2_clear_6 : decode cX2_clear 6 = .ok (.iconst 0, 1) := by decide +kernel
theorem dX2_clear_7 : decode cX2_clear 7 = .ok (.putfield 34, 3) := by decide +kernel
theorem dX2_clear_10 : decode cX2_clear 10 = .ok (.aload_n 0, 1) := by decide +kernel
theorem dX2_clear_11 : decode cX2_clear 11 = .ok (.iconst 0, 1) := by decide +kernel
theorem dX2_clear_12 : decode cX2_clear 12 = .ok (.putfield 37, 3) := by decide +kernel
theorem dX2_clear_15 : decode cX2_clear 15 = .ok (.return_, 1) := by decide +kernel
theorem dX2_take_0 : decode cX2_take 0 = .ok (.aload_n 0, 1) := by decide +kernel
theorem dX2_take_1 : decode cX2_take 1 = .ok (.aload_n 1, 1) := by decide +kernel
theorem dX2_take_2 : decode cX2_take 2 = .ok (.getfield 30, 3) := by decide +kernel
theorem dX2_take_5 : decode cX2_take 5 = .ok (.putfield 30, 3) := by decide +kernel
theorem dX2_take_8 : decode cX2_take 8 = .ok (.aload_n 0, 1) := by decide +kernel
theorem dX2_take_9 : decode cX2_take 9 = .ok (.aload_n 1, 1) := by decide +kernel
theorem dX2_take_10 : decode cX2_take 10 = .ok (.getfield 34, 3) := by decide +kernel
theorem dX2_take_13 : decode cX2_take 13 = .ok (.putfield 34, 3) := by decide +kernel
theorem dX2_take_16 : decode cX2_take 16 = .ok (.aload_n 0, 1) := by decide +kernel
theorem dX2_take_17 : decode cX2_take 17 = .ok (.aload_n 1, 1) := by decide +kernel
theorem dX2_take_18 : decode cX2_take 18 = .ok (.getfield 37, 3) := by decide +kernel
theorem dX2_take_21 : decode cX2_take 21 = .ok (.putfield 37, 3) := by decide +kernel
theorem dX2_take_24 : decode cX2_take 24 = .ok (.aload_n 1, 1) := by decide +kernel
theorem dX2_take_25 : decode cX2_take 25 = .ok (.getfield 9, 3) := by decide +kernel
theorem dX2_take_28 : decode cX2_take 28 = .ok (.iconst 0, 1) := by decide +kernel
theorem dX2_take_29 : decode cX2_take 29 = .ok (.aload_n 0, 1) := by decide +kernel
theorem dX2_take_30 : decode cX2_take 30 = .ok (.getfield 9, 3) := by decide +kernel
theorem dX2_take_33 : decode cX2_take 33 = .ok (.iconst 0, 1) := by decide +kernel
theorem dX2_take_34 : decode cX2_take 34 = .ok (.iconst 5, 1) := by decide +kernel
theorem dX2_take_35 : decode cX2_take 35 = .ok (.invokestatic 40, 3) := by decide +kernel
theorem dX2_take_38 : decode cX2_take 38 = .ok (.aload_n 1, 1) := by decide +kernel
theorem dX2_take_39 : decode cX2_take 39 = .ok (.getfield 15, 3) := by decide +kernel
theorem dX2_take_42 : decode cX2_take 42 = .ok (.iconst 0, 1) := by decide +kernel
theorem dX2_take_43 : decode cX2_take 43 = .ok (.aload_n 0, 1) := by decide +kernel
theorem dX2_take_44 : decode cX2_take 44 = .ok (.getfield 15, 3) := by decide +kernel
theorem dX2_take_47 : decode cX2_take 47 = .ok (.iconst 0, 1) := by decide +kernel
theorem dX2_take_48 : decode cX2_take 48 = .ok (.iconst 5, 1) := by decide +kernel
theorem dX2_take_49 : decode cX2_take 49 = .ok (.invokestatic 40, 3) := by decide +kernel
theorem dX2_take_52 : decode cX2_take 52 = .ok (.aload_n 1, 1) := by decide +kernel
theorem dX2_take_53 : decode cX2_take 53 = .ok (.getfield 18, 3) := by decide +kernel
theorem dX2_take_56 : decode cX2_take 56 = .ok (.iconst 0, 1) := by decide +kernel
theorem dX2_take_57 : decode cX2_take 57 = .ok (.aload_n 0, 1) := by decide +kernel
theorem dX2_take_58 : decode cX2_take 58 = .ok (.getfield 18, 3) := by decide +kernel
theorem dX2_take_61 : decode cX2_take 61 = .ok (.iconst 0, 1) := by decide +kernel
theorem dX2_take_62 : decode cX2_take 62 = .ok (.bipush 8, 2) := by decide +kernel
theorem dX2_take_64 : decode cX2_take 64 = .ok (.invokestatic 40, 3) := by decide +kernel
theorem dX2_take_67 : decode cX2_take 67 = .ok (.aload_n 1, 1) := by decide +kernel
theorem dX2_take_68 : decode cX2_take 68 = .ok (.getfield 21, 3) := by decide +kernel
theorem dX2_take_71 : decode cX2_take 71 = .ok (.iconst 0, 1) := by decide +kernel
theorem dX2_take_72 : decode cX2_take 72 = .ok (.aload_n 0, 1) := by decide +kernel
theorem dX2_take_73 : decode cX2_take 73 = .ok (.getfield 21, 3) := by decide +kernel
theorem dX2_take_76 : decode cX2_take 76 = .ok (.iconst 0, 1) := by decide +kernel
theorem dX2_take_77 : decode cX2_take 77 = .ok (.bipush 8, 2) := by decide +kernel
theorem dX2_take_79 : decode cX2_take 79 = .ok (.invokestatic 40, 3) := by decide +kernel
theorem dX2_take_82 : decode cX2_take 82 = .ok (.aload_n 1, 1) := by decide +kernel
theorem dX2_take_83 : decode cX2_take 83 = .ok (.getfield 24, 3) := by decide +kernel
theorem dX2_take_86 : decode cX2_take 86 = .ok (.iconst 0, 1) := by decide +kernel
theorem dX2_take_87 : decode cX2_take 87 = .ok (.aload_n 0, 1) := by decide +kernel
theorem dX2_take_88 : decode cX2_take 88 = .ok (.getfield 24, 3) := by decide +kernel
theorem dX2_take_91 : decode cX2_take 91 = .ok (.iconst 0, 1) := by decide +kernel
theorem dX2_take_92 : decode cX2_take 92 = .ok (.bipush 8, 2) := by decide +kernel
theorem dX2_take_94 : decode cX2_take 94 = .ok (.invokestatic 40, 3) := by decide +kernel
theorem dX2_take_97 : decode cX2_take 97 = .ok (.aload_n 1, 1) := by decide +kernel
theorem dX2_take_98 : decode cX2_take 98 = .ok (.getfield 27, 3) := by decide +kernel
theorem dX2_take_101 : decode cX2_take 101 = .ok (.iconst 0, 1) := by decide +kernel
theorem dX2_take_102 : decode cX2_take 102 = .ok (.aload_n 0, 1) := by decide +kernel
theorem dX2_take_103 : decode cX2_take 103 = .ok (.getfield 27, 3) := by decide +kernel
theorem dX2_take_106 : decode cX2_take 106 = .ok (.iconst 0, 1) := by decide +kernel
theorem dX2_take_107 : decode cX2_take 107 = .ok (.iconst 4, 1) := by decide +kernel
theorem dX2_take_108 : decode cX2_take 108 = .ok (.invokestatic 40, 3) := by decide +kernel
theorem dX2_take_111 : decode cX2_take 111 = .ok (.return_, 1) := by decide +kernel
theorem dX2_hasHouse_0 : decode cX2_hasHouse 0 = .ok (.iload_n 1, 1) := by decide +kernel
theorem dX2_hasHouse_1 : decode cX2_hasHouse 1 = .ok (.ifCond .lt 15, 3) := by decide +kernel
theorem dX2_hasHouse_4 : decode cX2_hasHouse 4 = .ok (.iload_n 1, 1) := by decide +kernel
theorem dX2_hasHouse_5 : decode cX2_hasHouse 5 = .ok (.aload_n 0, 1) := by decide +kernel
theorem dX2_hasHouse_6 : decode cX2_hasHouse 6 = .ok (.getfield 30, 3) := by decide +kernel
theorem dX2_hasHouse_9 : decode cX2_hasHouse 9 = .ok (.if_icmp .ge 7, 3) := by decide +kernel
theorem dX2_hasHouse_12 : decode cX2_hasHouse 12 = .ok (.iconst 1, 1) := by decide +kernel
theorem dX2_hasHouse_13 : decode cX2_hasHouse 13 = .ok (.goto 4, 3) := by decide +kernel
theorem dX2_hasHouse_16 : decode cX2_hasHouse 16 = .ok (.iconst 0, 1) := by decide +kernel
theorem dX2_hasHouse_17 : decode cX2_hasHouse 17 = .ok (.ireturn, 1) := by decide +kernel
theorem dX2_hasNext_0 : decode cX2_hasNext 0 = .ok (.iload_n 1, 1) := by decide +kernel
theorem dX2_hasNext_1 : decode cX2_hasNext 1 = .ok (.ifCond .lt 17, 3) := by decide +kernel
theorem dX2_hasNext_4 : decode cX2_hasNext 4 = .ok (.iload_n 1, 1) := by decide +kernel
theorem dX2_hasNext_5 : decode cX2_hasNext 5 = .ok (.aload_n 0, 1) := by decide +kernel
theorem dX2_hasNext_6 : decode cX2_hasNext 6 = .ok (.getfield 30, 3) := by decide +kernel
theorem dX2_hasNext_9 : decode cX2_hasNext 9 = .ok (.iconst 1, 1) := by decide +kernel
theorem dX2_hasNext_10 : decode cX2_hasNext 10 = .ok (.isub, 1) := by decide +kernel
theorem dX2_hasNext_11 : decode cX2_hasNext 11 = .ok (.if_icmp .ge 7, 3) := by decide +kernel
theorem dX2_hasNext_14 : decode cX2_hasNext 14 = .ok (.iconst 1, 1) := by decide +kernel
theorem dX2_hasNext_15 : decode cX2_hasNext 15 = .ok (.goto 4, 3) := by decide +kernel
theorem dX2_hasNext_18 : decode cX2_hasNext 18 = .ok (.iconst 0, 1) := by decide +kernel
theorem dX2_hasNext_19 : decode cX2_hasNext 19 = .ok (.ireturn, 1) := by decide +kernel
theorem dX2_allHouses_0 : decode cX2_allHouses 0 = .ok (.iconst 1, 1) := by decide +kernel
theorem dX2_allHouses_1 : decode cX2_allHouses 1 = .ok (.aload_n 0, 1) := by decide +kernel
theorem dX2_allHouses_2 : decode cX2_allHouses 2 = .ok (.getfield 30, 3) := by decide +kernel
theorem dX2_allHouses_5 : decode cX2_allHouses 5 = .ok (.ishl, 1) := by decide +kernel
theorem dX2_allHouses_6 : decode cX2_allHouses 6 = .ok (.iconst 1, 1) := by decide +kernel
theorem dX2_allHouses_7 : decode cX2_allHouses 7 = .ok (.isub, 1) := by decide +kernel
theorem dX2_allHouses_8 : decode cX2_allHouses 8 = .ok (.ireturn, 1) := by decide +kernel
theorem dX2_hasSaying_0 : decode cX2_hasSaying 0 = .ok (.iload_n 1, 1) := by decide +kernel
theorem dX2_hasSaying_1 : decode cX2_hasSaying 1 = .ok (.ifCond .lt 15, 3) := by decide +kernel
theorem dX2_hasSaying_4 : decode cX2_hasSaying 4 = .ok (.iload_n 1, 1) := by decide +kernel
theorem dX2_hasSaying_5 : decode cX2_hasSaying 5 = .ok (.aload_n 0, 1) := by decide +kernel
theorem dX2_hasSaying_6 : decode cX2_hasSaying 6 = .ok (.getfield 34, 3) := by decide +kernel
theorem dX2_hasSaying_9 : decode cX2_hasSaying 9 = .ok (.if_icmp .ge 7, 3) := by decide +kernel
theorem dX2_hasSaying_12 : decode cX2_hasSaying 12 = .ok (.iconst 1, 1) := by decide +kernel
theorem dX2_hasSaying_13 : decode cX2_hasSaying 13 = .ok (.goto 4, 3) := by decide +kernel
theorem dX2_hasSaying_16 : decode cX2_hasSaying 16 = .ok (.iconst 0, 1) := by decide +kernel
theorem dX2_hasSaying_17 : decode cX2_hasSaying 17 = .ok (.ireturn, 1) := by decide +kernel
set_option maxRecDepth 20000 in
theorem ggX2_sayingAt_J9_floorMod_7cf53 : GoodIn wsX2_sayingAt wsJ9_floorMod_7cf53 := goodIn_r _ [5] (by decide +kernel) (by decide +kernel)
set_option maxRecDepth 20000 in
theorem gX2_sayingAt_J9_floorMod_7cf53 : GoodIn wsX2_sayingAt (va_wsS RX2 46 yJ9_floorMod_7cf53 wsJ9_floorMod_7cf53) := goodIn_app (goodIn_of _ (by decide +kernel)) ggX2_sayingAt_J9_floorMod_7cf53
theorem dX2_sayingAt_0 : decode cX2_sayingAt 0 = .ok (.aload_n 0, 1) := by decide +kernel
theorem dX2_sayingAt_1 : decode cX2_sayingAt 1 = .ok (.getfield 34, 3) := by decide +kernel
theorem dX2_sayingAt_4 : decode cX2_sayingAt 4 = .ok (.ifCond .le 14, 3) := by decide +kernel
theorem dX2_sayingAt_7 : decode cX2_sayingAt 7 = .ok (.iload_n 1, 1) := by decide +kernel
theorem dX2_sayingAt_8 : decode cX2_sayingAt 8 = .ok (.aload_n 0, 1) := by decide +kernel
theorem dX2_sayingAt_9 : decode cX2_sayingAt 9 = .ok (.getfield 34, 3) := by decide +kernel
theorem dX2_sayingAt_12 : decode cX2_sayingAt 12 = .ok (.invokestatic 46, 3) := by decide +kernel
theorem dX2_sayingAt_15 : decode cX2_sayingAt 15 = .ok (.goto 5, 3) := by decide +kernel
theorem dX2_sayingAt_18 : decode cX2_sayingAt 18 = .ok (.bipush (-9), 2) := by decide +kernel
theorem dX2_sayingAt_20 : decode cX2_sayingAt 20 = .ok (.ireturn, 1) := by decide +kernel
set_option maxRecDepth 20000 in
theorem ggX2_rainAt_J9_floorMod_7cf53 : GoodIn wsX2_rainAt wsJ9_floorMod_7cf53 := goodIn_r _ [6] (by decide +kernel) (by decide +kernel)
set_option maxRecDepth 20000 in
theorem gX2_rainAt_J9_floorMod_7cf53 : GoodIn wsX2_rainAt (va_wsS RX2 46 yJ9_floorMod_7cf53 wsJ9_floorMod_7cf53) := goodIn_app (goodIn_of _ (by decide +kernel)) ggX2_rainAt_J9_floorMod_7cf53
theorem dX2_rainAt_0 : decode cX2_rainAt 0 = .ok (.aload_n 0, 1) := by decide +kernel
theorem dX2_rainAt_1 : decode cX2_rainAt 1 = .ok (.getfield 37, 3) := by decide +kernel
theorem dX2_rainAt_4 : decode cX2_rainAt 4 = .ok (.ifCond .le 19, 3) := by decide +kernel
theorem dX2_rainAt_7 : decode cX2_rainAt 7 = .ok (.aload_n 0, 1) := by decide +kernel
theorem dX2_rainAt_8 : decode cX2_rainAt 8 = .ok (.getfield 27, 3) := by decide +kernel
theorem dX2_rainAt_11 : decode cX2_rainAt 11 = .ok (.iload_n 1, 1) := by decide +kernel
theorem dX2_rainAt_12 : decode cX2_rainAt 12 = .ok (.aload_n 0, 1) := by decide +kernel
theorem dX2_rainAt_13 : decode cX2_rainAt 13 = .ok (.getfield 37, 3) := by decide +kernel
theorem dX2_rainAt_16 : decode cX2_rainAt 16 = .ok (.invokestatic 46, 3) := by decide +kernel
theorem dX2_rainAt_19 : decode cX2_rainAt 19 = .ok (.iaload, 1) := by decide +kernel
theorem dX2_rainAt_20 : decode cX2_rainAt 20 = .ok (.goto 4, 3) := by decide +kernel
theorem dX2_rainAt_23 : decode cX2_rainAt 23 = .ok (.iconst 0, 1) := by decide +kernel
theorem dX2_rainAt_24 : decode cX2_rainAt 24 = .ok (.ireturn, 1) := by decide +kernel
theorem dX2_addHouse_0 : decode cX2_addHouse 0 = .ok (.aload_n 0, 1) := by decide +kernel
theorem dX2_addHouse_1 : decode cX2_addHouse 1 = .ok (.getfield 30, 3) := by decide +kernel
theorem dX2_addHouse_4 : decode cX2_addHouse 4 = .ok (.iconst 5, 1) := by decide +kernel
theorem dX2_addHouse_5 : decode cX2_addHouse 5 = .ok (.if_icmp .ge 33, 3) := by decide +kernel
theorem dX2_addHouse_8 : decode cX2_addHouse 8 = .ok (.aload_n 0, 1) := by decide +kernel
theorem dX2_addHouse_9 : decode cX2_addHouse 9 = .ok (.getfield 15, 3) := by decide +kernel
theorem dX2_addHouse_12 : decode cX2_addHouse 12 = .ok (.aload_n 0, 1) := by decide +kernel
theorem dX2_addHouse_13 : decode cX2_addHouse 13 = .ok (.getfield 30, 3) := by decide +kernel
theorem dX2_addHouse_16 : decode cX2_addHouse 16 = .ok (.iload_n 1, 1) := by decide +kernel
theorem dX2_addHouse_17 : decode cX2_addHouse 17 = .ok (.iastore, 1) := by decide +kernel
theorem dX2_addHouse_18 : decode cX2_addHouse 18 = .ok (.aload_n 0, 1) := by decide +kernel
theorem dX2_addHouse_19 : decode cX2_addHouse 19 = .ok (.getfield 9, 3) := by decide +kernel
theorem dX2_addHouse_22 : decode cX2_addHouse 22 = .ok (.aload_n 0, 1) := by decide +kernel
theorem dX2_addHouse_23 : decode cX2_addHouse 23 = .ok (.getfield 30, 3) := by decide +kernel
theorem dX2_addHouse_26 : decode cX2_addHouse 26 = .ok (.iload_n 2, 1) := by decide +kernel
theorem dX2_addHouse_27 : decode cX2_addHouse 27 = .ok (.iastore, 1) := by decide +kernel
theorem dX2_addHouse_28 : decode cX2_addHouse 28 = .ok (.aload_n 0, 1) := by decide +kernel
theorem dX2_addHouse_29 : decode cX2_addHouse 29 = .ok (.dup, 1) := by decide +kernel
theorem dX2_addHouse_30 : decode cX2_addHouse 30 = .ok (.getfield 30, 3) := by decide +kernel
theorem dX2_addHouse_33 : decode cX2_addHouse 33 = .ok (.iconst 1, 1) := by decide +kernel
theorem dX2_addHouse_34 : decode cX2_addHouse 34 = .ok (.iadd, 1) := by decide +kernel
theorem dX2_addHouse_35 : decode cX2_addHouse 35 = .ok (.putfield 30, 3) := by decide +kernel
theorem dX2_addHouse_38 : decode cX2_addHouse 38 = .ok (.return_, 1) := by decide +kernel
theorem dX2_addSaying_0 : decode cX2_addSaying 0 = .ok (.aload_n 0, 1) := by decide +kernel
theorem dX2_addSaying_1 : decode cX2_addSaying 1 = .ok (.getfield 34, 3) := by decide +kernel
theorem dX2_addSaying_4 : decode cX2_addSaying 4 = .ok (.bipush 8, 2) := by decide +kernel
theorem dX2_addSaying_6 : decode cX2_addSaying 6 = .ok (.if_icmp .ge 43, 3) := by decide +kernel
theorem dX2_addSaying_9 : decode cX2_addSaying 9 = .ok (.aload_n 0, 1) := by decide +kernel
theorem dX2_addSaying_10 : decode cX2_addSaying 10 = .ok (.getfield 18, 3) := by decide +kernel
theorem dX2_addSaying_13 : decode cX2_addSaying 13 = .ok (.aload_n 0, 1) := by decide +kernel
theorem dX2_addSaying_14 : decode cX2_addSaying 14 = .ok (.getfield 34, 3) := by decide +kernel
theorem dX2_addSaying_17 : decode cX2_addSaying 17 = .ok (.iload_n 1, 1) := by decide +kernel
theorem dX2_addSaying_18 : decode cX2_addSaying 18 = .ok (.iastore, 1) := by decide +kernel
theorem dX2_addSaying_19 : decode cX2_addSaying 19 = .ok (.aload_n 0, 1) := by decide +kernel
theorem dX2_addSaying_20 : decode cX2_addSaying 20 = .ok (.getfield 21, 3) := by decide +kernel
theorem dX2_addSaying_23 : decode cX2_addSaying 23 = .ok (.aload_n 0, 1) := by decide +kernel
theorem dX2_addSaying_24 : decode cX2_addSaying 24 = .ok (.getfield 34, 3) := by decide +kernel
theorem dX2_addSaying_27 : decode cX2_addSaying 27 = .ok (.iload_n 2, 1) := by decide +kernel
theorem dX2_addSaying_28 : decode cX2_addSaying 28 = .ok (.iastore, 1) := by decide +kernel
theorem dX2_addSaying_29 : decode cX2_addSaying 29 = .ok (.aload_n 0, 1) := by decide +kernel
theorem dX2_addSaying_30 : decode cX2_addSaying 30 = .ok (.getfield 24, 3) := by decide +kernel
theorem dX2_addSaying_33 : decode cX2_addSaying 33 = .ok (.aload_n 0, 1) := by decide +kernel
theorem dX2_addSaying_34 : decode cX2_addSaying 34 = .ok (.getfield 34, 3) := by decide +kernel
theorem dX2_addSaying_37 : decode cX2_addSaying 37 = .ok (.iload_n 3, 1) := by decide +kernel
theorem dX2_addSaying_38 : decode cX2_addSaying 38 = .ok (.iastore, 1) := by decide +kernel
theorem dX2_addSaying_39 : decode cX2_addSaying 39 = .ok (.aload_n 0, 1) := by decide +kernel
theorem dX2_addSaying_40 : decode cX2_addSaying 40 = .ok (.dup, 1) := by decide +kernel
theorem dX2_addSaying_41 : decode cX2_addSaying 41 = .ok (.getfield 34, 3) := by decide +kernel
theorem dX2_addSaying_44 : decode cX2_addSaying 44 = .ok (.iconst 1, 1) := by decide +kernel
theorem dX2_addSaying_45 : decode cX2_addSaying 45 = .ok (.iadd, 1) := by decide +kernel
theorem dX2_addSaying_46 : decode cX2_addSaying 46 = .ok (.putfield 34, 3) := by decide +kernel
theorem dX2_addSaying_49 : decode cX2_addSaying 49 = .ok (.return_, 1) := by decide +kernel
theorem dX2_addRain_0 : decode cX2_addRain 0 = .ok (.aload_n 0, 1) := by decide +kernel
theorem dX2_addRain_1 : decode cX2_addRain 1 = .ok (.getfield 37, 3) := by decide +kernel
theorem dX2_addRain_4 : decode cX2_addRain 4 = .ok (.iconst 4, 1) := by decide +kernel
theorem dX2_addRain_5 : decode cX2_addRain 5 = .ok (.if_icmp .ge 23, 3) := by decide +kernel
theorem dX2_addRain_8 : decode cX2_addRain 8 = .ok (.aload_n 0, 1) := by decide +kernel
theorem dX2_addRain_9 : decode cX2_addRain 9 = .ok (.getfield 27, 3) := by decide +kernel
theorem dX2_addRain_12 : decode cX2_addRain 12 = .ok (.aload_n 0, 1) := by decide +kernel
theorem dX2_addRain_13 : decode cX2_addRain 13 = .ok (.getfield 37, 3) := by decide +kernel
theorem dX2_addRain_16 : decode cX2_addRain 16 = .ok (.iload_n 1, 1) := by decide +kernel
theorem dX2_addRain_17 : decode cX2_addRain 17 = .ok (.iastore, 1) := by decide +kernel
theorem dX2_addRain_18 : decode cX2_addRain 18 = .ok (.aload_n 0, 1) := by decide +kernel
theorem dX2_addRain_19 : decode cX2_addRain 19 = .ok (.dup, 1) := by decide +kernel
theorem dX2_addRain_20 : decode cX2_addRain 20 = .ok (.getfield 37, 3) := by decide +kernel
theorem dX2_addRain_23 : decode cX2_addRain 23 = .ok (.iconst 1, 1) := by decide +kernel
theorem dX2_addRain_24 : decode cX2_addRain 24 = .ok (.iadd, 1) := by decide +kernel
theorem dX2_addRain_25 : decode cX2_addRain 25 = .ok (.putfield 37, 3) := by decide +kernel
theorem dX2_addRain_28 : decode cX2_addRain 28 = .ok (.return_, 1) := by decide +kernel
set_option maxRecDepth 20000 in
theorem ggX3_init_X2_init : GoodIn wsX3_init wsX2_init := goodIn_r _ [11, 12, 2, 3, 8, 13, 14, 15, 16, 17, 18, 19, 20, 21, 22, 23, 24, 25, 26, 27] (by decide +kernel) (by decide +kernel)
set_option maxRecDepth 20000 in
theorem gX3_init_X2_init_n11 : GoodIn wsX3_init (wsX2_init) := ggX3_init_X2_init
theorem dX3_init_0 : decode cX3_init 0 = .ok (.aload_n 0, 1) := by decide +kernel
theorem dX3_init_1 : decode cX3_init 1 = .ok (.invokespecial 3, 3) := by decide +kernel
theorem dX3_init_4 : decode cX3_init 4 = .ok (.aload_n 0, 1) := by decide +kernel
theorem dX3_init_5 : decode cX3_init 5 = .ok (.new 9, 3) := by decide +kernel
theorem dX3_init_8 : decode cX3_init 8 = .ok (.dup, 1) := by decide +kernel
theorem dX3_init_9 : decode cX3_init 9 = .ok (.invokespecial 11, 3) := by decide +kernel
theorem dX3_init_12 : decode cX3_init 12 = .ok (.putfield 12, 3) := by decide +kernel
theorem dX3_init_15 : decode cX3_init 15 = .ok (.aload_n 0, 1) := by decide +kernel
theorem dX3_init_16 : decode cX3_init 16 = .ok (.iconst 3, 1) := by decide +kernel
theorem dX3_init_17 : decode cX3_init 17 = .ok (.newarray .int, 2) := by decide +kernel
theorem dX3_init_19 : decode cX3_init 19 = .ok (.putfield 18, 3) := by decide +kernel
theorem dX3_init_22 : decode cX3_init 22 = .ok (.return_, 1) := by decide +kernel
set_option maxRecDepth 20000 in
theorem ggX3_firstFault_X2_clear : GoodIn wsX3_firstFault wsX2_clear := goodIn_r _ [8, 9, 10, 11, 57, 58, 59, 60, 61, 62, 63, 64, 65] (by decide +kernel) (by decide +kernel)
set_option maxRecDepth 20000 in
theorem gX3_firstFault_X2_clear : GoodIn wsX3_firstFault (wsV RX3 22 RX2 yX2_clear wsX2_clear) := goodIn_app (goodIn_of _ (by decide +kernel)) ggX3_firstFault_X2_clear
set_option maxRecDepth 20000 in
theorem ggX3_firstFault_X3_accepts : GoodIn wsX3_firstFault wsX3_accepts := goodIn_r _ [16, 2, 3, 17, 18, 19, 20, 21, 15, 22, 1, 23, 24, 25, 26, 27, 28, 29, 30, 31, 32, 33, 34, 35, 36, 7, 37, 9, 38, 39, 40, 41, 42, 43, 10, 44, 45, 46, 47, 48, 49, 50, 11, 51, 52, 53, 54, 55, 56, 57, 58, 59, 60, 61, 62, 63, 64, 65] (by decide +kernel) (by decide +kernel)
set_option maxRecDepth 20000 in
theorem gX3_firstFault_X3_accepts : GoodIn wsX3_firstFault (wsV RX3 33 RX3 yX3_accepts wsX3_accepts) := goodIn_app (goodIn_of _ (by decide +kernel)) ggX3_firstFault_X3_accepts
theorem dX3_firstFault_0 : decode cX3_firstFault 0 = .ok (.aload_n 0, 1) := by decide +kernel
theorem dX3_firstFault_1 : decode cX3_firstFault 1 = .ok (.getfield 12, 3) := by decide +kernel
theorem dX3_firstFault_4 : decode cX3_firstFault 4 = .ok (.invokevirtual 22, 3) := by decide +kernel
theorem dX3_firstFault_7 : decode cX3_firstFault 7 = .ok (.aload_n 0, 1) := by decide +kernel
theorem dX3_firstFault_8 : decode cX3_firstFault 8 = .ok (.iconst 0, 1) := by decide +kernel
theorem dX3_firstFault_9 : decode cX3_firstFault 9 = .ok (.putfield 25, 3) := by decide +kernel
theorem dX3_firstFault_12 : decode cX3_firstFault 12 = .ok (.aload_n 0, 1) := by decide +kernel
theorem dX3_firstFault_13 : decode cX3_firstFault 13 = .ok (.iconst 0, 1) := by decide +kernel
theorem dX3_firstFault_14 : decode cX3_firstFault 14 = .ok (.putfield 29, 3) := by decide +kernel
theorem dX3_firstFault_17 : decode cX3_firstFault 17 = .ok (.iconst 0, 1) := by decide +kernel
theorem dX3_firstFault_18 : decode cX3_firstFault 18 = .ok (.istore_n 3, 1) := by decide +kernel
theorem dX3_firstFault_19 : decode cX3_firstFault 19 = .ok (.iload_n 3, 1) := by decide +kernel
theorem dX3_firstFault_20 : decode cX3_firstFault 20 = .ok (.iload_n 2, 1) := by decide +kernel
theorem dX3_firstFault_21 : decode cX3_firstFault 21 = .ok (.if_icmp .ge 27, 3) := by decide +kernel
theorem dX3_firstFault_24 : decode cX3_firstFault 24 = .ok (.iload_n 3, 1) := by decide +kernel
theorem dX3_firstFault_25 : decode cX3_firstFault 25 = .ok (.aload_n 1, 1) := by decide +kernel
theorem dX3_firstFault_26 : decode cX3_firstFault 26 = .ok (.arraylength, 1) := by decide +kernel
theorem dX3_firstFault_27 : decode cX3_firstFault 27 = .ok (.if_icmp .ge 21, 3) := by decide +kernel
theorem dX3_firstFault_30 : decode cX3_firstFault 30 = .ok (.aload_n 0, 1) := by decide +kernel
theorem dX3_firstFault_31 : decode cX3_firstFault 31 = .ok (.aload_n 1, 1) := by decide +kernel
theorem dX3_firstFault_32 : decode cX3_firstFault 32 = .ok (.iload_n 3, 1) := by decide +kernel
theorem dX3_firstFault_33 : decode cX3_firstFault 33 = .ok (.iaload, 1) := by decide +kernel
theorem dX3_firstFault_34 : decode cX3_firstFault 34 = .ok (.invokevirtual 33, 3) := by decide +kernel
theorem dX3_firstFault_37 : decode cX3_firstFault 37 = .ok (.ifCond .ne 5, 3) := by decide +kernel
theorem dX3_firstFault_40 : decode cX3_firstFault 40 = .ok (.iload_n 3, 1) := by decide +kernel
theorem dX3_firstFault_41 : decode cX3_firstFault 41 = .ok (.ireturn, 1) := by decide +kernel
theorem dX3_firstFault_42 : decode cX3_firstFault 42 = .ok (.iinc 3 1, 3) := by decide +kernel
theorem dX3_firstFault_45 : decode cX3_firstFault 45 = .ok (.goto (-26), 3) := by decide +kernel
theorem dX3_firstFault_48 : decode cX3_firstFault 48 = .ok (.aload_n 0, 1) := by decide +kernel
theorem dX3_firstFault_49 : decode cX3_firstFault 49 = .ok (.getfield 25, 3) := by decide +kernel
theorem dX3_firstFault_52 : decode cX3_firstFault 52 = .ok (.ifCond .eq 15, 3) := by decide +kernel
theorem dX3_firstFault_55 : decode cX3_firstFault 55 = .ok (.aload_n 0, 1) := by decide +kernel
theorem dX3_firstFault_56 : decode cX3_firstFault 56 = .ok (.getfield 29, 3) := by decide +kernel
theorem dX3_firstFault_59 : decode cX3_firstFault 59 = .ok (.ifCond .ne 8, 3) := by decide +kernel
theorem dX3_firstFault_62 : decode cX3_firstFault 62 = .ok (.bipush (-9), 2) := by decide +kernel
theorem dX3_firstFault_64 : decode cX3_firstFault 64 = .ok (.goto 4, 3) := by decide +kernel
theorem dX3_firstFault_67 : decode cX3_firstFault 67 = .ok (.iload_n 2, 1) := by decide +kernel
theorem dX3_firstFault_68 : decode cX3_firstFault 68 = .ok (.ireturn, 1) := by decide +kernel
set_option maxRecDepth 20000 in
theorem ggX3_accepts_X3_opensPart : GoodIn wsX3_accepts wsX3_opensPart := goodIn_r _ [9, 10, 11, 12, 13, 2, 3, 44, 45, 46, 47, 48, 49, 50, 51, 52, 53, 54, 55, 56, 57] (by decide +kernel) (by decide +kernel)
set_option maxRecDepth 20000 in
theorem gX3_accepts_X3_opensPart : GoodIn wsX3_accepts (wsV RX3 37 RX3 yX3_opensPart wsX3_opensPart) := goodIn_app (goodIn_of _ (by decide +kernel)) ggX3_accepts_X3_opensPart
set_option maxRecDepth 20000 in
theorem ggX3_accepts_X3_figureLimit : GoodIn wsX3_accepts wsX3_figureLimit := goodIn_r _ [17, 2, 3, 10, 11, 44, 45, 46, 47, 48, 49, 50, 51, 52, 53, 54, 55, 56, 57] (by decide +kernel) (by decide +kernel)
set_option maxRecDepth 20000 in
theorem gX3_accepts_X3_figureLimit : GoodIn wsX3_accepts (wsV RX3 40 RX3 yX3_figureLimit wsX3_figureLimit) := goodIn_app (goodIn_of _ (by decide +kernel)) ggX3_accepts_X3_figureLimit
set_option maxRecDepth 20000 in
theorem ggX3_accepts_X3_closePartIfWhole : GoodIn wsX3_accepts wsX3_closePartIfWhole := goodIn_r _ [21, 2, 3, 10, 4, 22, 23, 24, 25, 26, 27, 28, 29, 30, 31, 32, 33, 34, 35, 36, 37, 38, 39, 40, 41, 42, 43, 44, 45, 46, 47, 48, 49, 50, 51, 52, 53, 54, 55, 56, 57] (by decide +kernel) (by decide +kernel)
set_option maxRecDepth 20000 in
theorem gX3_accepts_X3_closePartIfWhole : GoodIn wsX3_accepts (wsV RX3 47 RX3 yX3_closePartIfWhole wsX3_closePartIfWhole) := goodIn_app (goodIn_of _ (by decide +kernel)) ggX3_accepts_X3_closePartIfWhole
theorem dX3_accepts_0 : decode cX3_accepts 0 = .ok (.aload_n 0, 1) := by decide +kernel
theorem dX3_accepts_1 : decode cX3_accepts 1 = .ok (.getfield 25, 3) := by decide +kernel
theorem dX3_accepts_4 : decode cX3_accepts 4 = .ok (.ifCond .ne 23, 3) := by decide +kernel
theorem dX3_accepts_7 : decode cX3_accepts 7 = .ok (.aload_n 0, 1) := by decide +kernel
theorem dX3_accepts_8 : decode cX3_accepts 8 = .ok (.iload_n 1, 1) := by decide +kernel
theorem dX3_accepts_9 : decode cX3_accepts 9 = .ok (.bipush 69, 2) := by decide +kernel
theorem dX3_accepts_11 : decode cX3_accepts 11 = .ok (.if_icmp .ne 7, 3) := by decide +kernel
theorem dX3_accepts_14 : decode cX3_accepts 14 = .ok (.iconst 1, 1) := by decide +kernel
theorem dX3_accepts_15 : decode cX3_accepts 15 = .ok (.goto 4, 3) := by decide +kernel
theorem dX3_accepts_18 : decode cX3_accepts 18 = .ok (.iconst 0, 1) := by decide +kernel
theorem dX3_accepts_19 : decode cX3_accepts 19 = .ok (.putfield 25, 3) := by decide +kernel
theorem dX3_accepts_22 : decode cX3_accepts 22 = .ok (.aload_n 0, 1) := by decide +kernel
theorem dX3_accepts_23 : decode cX3_accepts 23 = .ok (.getfield 25, 3) := by decide +kernel
theorem dX3_accepts_26 : decode cX3_accepts 26 = .ok (.ireturn, 1) := by decide +kernel
theorem dX3_accepts_27 : decode cX3_accepts 27 = .ok (.aload_n 0, 1) := by decide +kernel
theorem dX3_accepts_28 : decode cX3_accepts 28 = .ok (.getfield 29, 3) := by decide +kernel
theorem dX3_accepts_31 : decode cX3_accepts 31 = .ok (.ifCond .ne 9, 3) := by decide +kernel
theorem dX3_accepts_34 : decode cX3_accepts 34 = .ok (.aload_n 0, 1) := by decide +kernel
theorem dX3_accepts_35 : decode cX3_accepts 35 = .ok (.iload_n 1, 1) := by decide +kernel
theorem dX3_accepts_36 : decode cX3_accepts 36 = .ok (.invokevirtual 37, 3) := by decide +kernel
theorem dX3_accepts_39 : decode cX3_accepts 39 = .ok (.ireturn, 1) := by decide +kernel
theorem dX3_accepts_40 : decode cX3_accepts 40 = .ok (.iload_n 1, 1) := by decide +kernel
theorem dX3_accepts_41 : decode cX3_accepts 41 = .ok (.bipush 48, 2) := by decide +kernel
theorem dX3_accepts_43 : decode cX3_accepts 43 = .ok (.isub, 1) := by decide +kernel
theorem dX3_accepts_44 : decode cX3_accepts 44 = .ok (.istore_n 2, 1) := by decide +kernel
theorem dX3_accepts_45 : decode cX3_accepts 45 = .ok (.iload_n 2, 1) := by decide +kernel
theorem dX3_accepts_46 : decode cX3_accepts 46 = .ok (.ifCond .lt 19, 3) := by decide +kernel
theorem dX3_accepts_49 : decode cX3_accepts 49 = .ok (.iload_n 2, 1) := by decide +kernel
theorem dX3_accepts_50 : decode cX3_accepts 50 = .ok (.aload_n 0, 1) := by decide +kernel
theorem dX3_accepts_51 : decode cX3_accepts 51 = .ok (.invokevirtual 40, 3) := by decide +kernel
theorem dX3_accepts_54 : decode cX3_accepts 54 = .ok (.if_icmp .ge 11, 3) := by decide +kernel
theorem dX3_accepts_57 : decode cX3_accepts 57 = .ok (.aload_n 0, 1) := by decide +kernel
theorem dX3_accepts_58 : decode cX3_accepts 58 = .ok (.getfield 44, 3) := by decide +kernel
theorem dX3_accepts_61 : decode cX3_accepts 61 = .ok (.iconst 3, 1) := by decide +kernel
theorem dX3_accepts_62 : decode cX3_accepts 62 = .ok (.if_icmp .lt 5, 3) := by decide +kernel
theorem dX3_accepts_65 : decode cX3_accepts 65 = .ok (.iconst 0, 1) := by decide +kernel
theorem dX3_accepts_66 : decode cX3_accepts 66 = .ok (.ireturn, 1) := by decide +kernel
theorem dX3_accepts_67 : decode cX3_accepts 67 = .ok (.aload_n 0, 1) := by decide +kernel
theorem dX3_accepts_68 : decode cX3_accepts 68 = .ok (.getfield 18, 3) := by decide +kernel
theorem dX3_accepts_71 : decode cX3_accepts 71 = .ok (.aload_n 0, 1) := by decide +kernel
theorem dX3_accepts_72 : decode cX3_accepts 72 = .ok (.getfield 44, 3) := by decide +kernel
theorem dX3_accepts_75 : decode cX3_accepts 75 = .ok (.iload_n 2, 1) := by decide +kernel
theorem dX3_accepts_76 : decode cX3_accepts 76 = .ok (.iastore, 1) := by decide +kernel
theorem dX3_accepts_77 : decode cX3_accepts 77 = .ok (.aload_n 0, 1) := by decide +kernel
theorem dX3_accepts_78 : decode cX3_accepts 78 = .ok (.dup, 1) := by decide +kernel
theorem dX3_accepts_79 : decode cX3_accepts 79 = .ok (.getfield 44, 3) := by decide +kernel
theorem dX3_accepts_82 : decode cX3_accepts 82 = .ok (.iconst 1, 1) := by decide +kernel
theorem dX3_accepts_83 : decode cX3_accepts 83 = .ok (.iadd, 1) := by decide +kernel
theorem dX3_accepts_84 : decode cX3_accepts 84 = .ok (.putfield 44, 3) := by decide +kernel
theorem dX3_accepts_87 : decode cX3_accepts 87 = .ok (.aload_n 0, 1) := by decide +kernel
theorem dX3_accepts_88 : decode cX3_accepts 88 = .ok (.invokevirtual 47, 3) := by decide +kernel
theorem dX3_accepts_91 : decode cX3_accepts 91 = .ok (.iconst 1, 1) := by decide +kernel
theorem dX3_accepts_92 : decode cX3_accepts 92 = .ok (.ireturn, 1) := by decide +kernel
theorem dX3_opensPart_0 : decode cX3_opensPart 0 = .ok (.iload_n 1, 1) := by decide +kernel
theorem dX3_opensPart_1 : decode cX3_opensPart 1 = .ok (.bipush 72, 2) := by decide +kernel
theorem dX3_opensPart_3 : decode cX3_opensPart 3 = .ok (.if_icmp .ne 14, 3) := by decide +kernel
theorem dX3_opensPart_6 : decode cX3_opensPart 6 = .ok (.aload_n 0, 1) := by decide +kernel
theorem dX3_opensPart_7 : decode cX3_opensPart 7 = .ok (.getfield 12, 3) := by decide +kernel
theorem dX3_opensPart_10 : decode cX3_opensPart 10 = .ok (.getfield 50, 3) := by decide +kernel
theorem dX3_opensPart_13 : decode cX3_opensPart 13 = .ok (.iconst 5, 1) := by decide +kernel
theorem dX3_opensPart_14 : decode cX3_opensPart 14 = .ok (.if_icmp .lt 48, 3) := by decide +kernel
theorem dX3_opensPart_17 : decode cX3_opensPart 17 = .ok (.iload_n 1, 1) := by decide +kernel
theorem dX3_opensPart_18 : decode cX3_opensPart 18 = .ok (.bipush 83, 2) := by decide +kernel
theorem dX3_opensPart_20 : decode cX3_opensPart 20 = .ok (.if_icmp .ne 25, 3) := by decide +kernel
theorem dX3_opensPart_23 : decode cX3_opensPart 23 = .ok (.aload_n 0, 1) := by decide +kernel
theorem dX3_opensPart_24 : decode cX3_opensPart 24 = .ok (.getfield 12, 3) := by decide +kernel
theorem dX3_opensPart_27 : decode cX3_opensPart 27 = .ok (.getfield 50, 3) := by decide +kernel
theorem dX3_opensPart_30 : decode cX3_opensPart 30 = .ok (.ifCond .le 15, 3) := by decide +kernel
theorem dX3_opensPart_33 : decode cX3_opensPart 33 = .ok (.aload_n 0, 1) := by decide +kernel
theorem dX3_opensPart_34 : decode cX3_opensPart 34 = .ok (.getfield 12, 3) := by decide +kernel
theorem dX3_opensPart_37 : decode cX3_opensPart 37 = .ok (.getfield 53, 3) := by decide +kernel
theorem dX3_opensPart_40 : decode cX3_opensPart 40 = .ok (.bipush 8, 2) := by decide +kernel
theorem dX3_opensPart_42 : decode cX3_opensPart 42 = .ok (.if_icmp .lt 20, 3) := by decide +kernel
theorem dX3_opensPart_45 : decode cX3_opensPart 45 = .ok (.iload_n 1, 1) := by decide +kernel
theorem dX3_opensPart_46 : decode cX3_opensPart 46 = .ok (.bipush 82, 2) := by decide +kernel
theorem dX3_opensPart_48 : decode cX3_opensPart 48 = .ok (.if_icmp .ne 18, 3) := by decide +kernel
theorem dX3_opensPart_51 : decode cX3_opensPart 51 = .ok (.aload_n 0, 1) := by decide +kernel
theorem dX3_opensPart_52 : decode cX3_opensPart 52 = .ok (.getfield 12, 3) := by decide +kernel
theorem dX3_opensPart_55 : decode cX3_opensPart 55 = .ok (.getfield 56, 3) := by decide +kernel
theorem dX3_opensPart_58 : decode cX3_opensPart 58 = .ok (.iconst 4, 1) := by decide +kernel
theorem dX3_opensPart_59 : decode cX3_opensPart 59 = .ok (.if_icmp .ge 7, 3) := by decide +kernel
theorem dX3_opensPart_62 : decode cX3_opensPart 62 = .ok (.iconst 1, 1) := by decide +kernel
theorem dX3_opensPart_63 : decode cX3_opensPart 63 = .ok (.goto 4, 3) := by decide +kernel
theorem dX3_opensPart_66 : decode cX3_opensPart 66 = .ok (.iconst 0, 1) := by decide +kernel
theorem dX3_opensPart_67 : decode cX3_opensPart 67 = .ok (.istore_n 2, 1) := by decide +kernel
theorem dX3_opensPart_68 : decode cX3_opensPart 68 = .ok (.iload_n 2, 1) := by decide +kernel
theorem dX3_opensPart_69 : decode cX3_opensPart 69 = .ok (.ifCond .eq 13, 3) := by decide +kernel
theorem dX3_opensPart_72 : decode cX3_opensPart 72 = .ok (.aload_n 0, 1) := by decide +kernel
theorem dX3_opensPart_73 : decode cX3_opensPart 73 = .ok (.iload_n 1, 1) := by decide +kernel
theorem dX3_opensPart_74 : decode cX3_opensPart 74 = .ok (.putfield 29, 3) := by decide +kernel
theorem dX3_opensPart_77 : decode cX3_opensPart 77 = .ok (.aload_n 0, 1) := by decide +kernel
theorem dX3_opensPart_78 : decode cX3_opensPart 78 = .ok (.iconst 0, 1) := by decide +kernel
theorem dX3_opensPart_79 : decode cX3_opensPart 79 = .ok (.putfield 44, 3) := by decide +kernel
theorem dX3_opensPart_82 : decode cX3_opensPart 82 = .ok (.iload_n 2, 1) := by decide +kernel
theorem dX3_opensPart_83 : decode cX3_opensPart 83 = .ok (.ireturn, 1) := by decide +kernel
theorem dX3_figureLimit_0 : decode cX3_figureLimit 0 = .ok (.aload_n 0, 1) := by decide +kernel
theorem dX3_figureLimit_1 : decode cX3_figureLimit 1 = .ok (.getfield 29, 3) := by decide +kernel
theorem dX3_figureLimit_4 : decode cX3_figureLimit 4 = .ok (.bipush 72, 2) := by decide +kernel
theorem dX3_figureLimit_6 : decode cX3_figureLimit 6 = .ok (.if_icmp .ne 12, 3) := by decide +kernel
theorem dX3_figureLimit_9 : decode cX3_figureLimit 9 = .ok (.aload_n 0, 1) := by decide +kernel
theorem dX3_figureLimit_10 : decode cX3_figureLimit 10 = .ok (.getfield 44, 3) := by decide +kernel
theorem dX3_figureLimit_13 : decode cX3_figureLimit 13 = .ok (.ifCond .ne 5, 3) := by decide +kernel
theorem dX3_figureLimit_16 : decode cX3_figureLimit 16 = .ok (.iconst 4, 1) := by decide +kernel
theorem dX3_figureLimit_17 : decode cX3_figureLimit 17 = .ok (.ireturn, 1) := by decide +kernel
theorem dX3_figureLimit_18 : decode cX3_figureLimit 18 = .ok (.aload_n 0, 1) := by decide +kernel
theorem dX3_figureLimit_19 : decode cX3_figureLimit 19 = .ok (.getfield 29, 3) := by decide +kernel
theorem dX3_figureLimit_22 : decode cX3_figureLimit 22 = .ok (.bipush 83, 2) := by decide +kernel
theorem dX3_figureLimit_24 : decode cX3_figureLimit 24 = .ok (.if_icmp .ne 18, 3) := by decide +kernel
theorem dX3_figureLimit_27 : decode cX3_figureLimit 27 = .ok (.aload_n 0, 1) := by decide +kernel
theorem dX3_figureLimit_28 : decode cX3_figureLimit 28 = .ok (.getfield 44, 3) := by decide +kernel
theorem dX3_figureLimit_31 : decode cX3_figureLimit 31 = .ok (.ifCond .ne 11, 3) := by decide +kernel
theorem dX3_figureLimit_34 : decode cX3_figureLimit 34 = .ok (.aload_n 0, 1) := by decide +kernel
theorem dX3_figureLimit_35 : decode cX3_figureLimit 35 = .ok (.getfield 12, 3) := by decide +kernel
theorem dX3_figureLimit_38 : decode cX3_figureLimit 38 = .ok (.getfield 50, 3) := by decide +kernel
theorem dX3_figureLimit_41 : decode cX3_figureLimit 41 = .ok (.ireturn, 1) := by decide +kernel
theorem dX3_figureLimit_42 : decode cX3_figureLimit 42 = .ok (.aload_n 0, 1) := by decide +kernel
theorem dX3_figureLimit_43 : decode cX3_figureLimit 43 = .ok (.getfield 29, 3) := by decide +kernel
theorem dX3_figureLimit_46 : decode cX3_figureLimit 46 = .ok (.bipush 83, 2) := by decide +kernel
theorem dX3_figureLimit_48 : decode cX3_figureLimit 48 = .ok (.if_icmp .ne 14, 3) := by decide +kernel
theorem dX3_figureLimit_51 : decode cX3_figureLimit 51 = .ok (.aload_n 0, 1) := by decide +kernel
theorem dX3_figureLimit_52 : decode cX3_figureLimit 52 = .ok (.getfield 44, 3) := by decide +kernel
theorem dX3_figureLimit_55 : decode cX3_figureLimit 55 = .ok (.iconst 1, 1) := by decide +kernel
theorem dX3_figureLimit_56 : decode cX3_figureLimit 56 = .ok (.if_icmp .ne 6, 3) := by decide +kernel
theorem dX3_figureLimit_59 : decode cX3_figureLimit 59 = .ok (.bipush 6, 2) := by decide +kernel
theorem dX3_figureLimit_61 : decode cX3_figureLimit 61 = .ok (.ireturn, 1) := by decide +kernel
theorem dX3_figureLimit_62 : decode cX3_figureLimit 62 = .ok (.bipush 10, 2) := by decide +kernel
theorem dX3_figureLimit_64 : decode cX3_figureLimit 64 = .ok (.ireturn, 1) := by decide +kernel
set_option maxRecDepth 20000 in
theorem ggX3_closePartIfWhole_X2_addHouse : GoodIn wsX3_closePartIfWhole wsX2_addHouse := goodIn_r _ [9, 10, 11, 12, 32, 33, 34, 35, 36, 37, 38, 39, 40] (by decide +kernel) (by decide +kernel)
set_option maxRecDepth 20000 in
theorem gX3_closePartIfWhole_X2_addHouse : GoodIn wsX3_closePartIfWhole (wsV RX3 59 RX2 yX2_addHouse wsX2_addHouse) := goodIn_app (goodIn_of _ (by decide +kernel)) ggX3_closePartIfWhole_X2_addHouse
set_option maxRecDepth 20000 in
theorem ggX3_closePartIfWhole_X2_addSaying : GoodIn wsX3_closePartIfWhole wsX2_addSaying := goodIn_r _ [16, 17, 18, 19, 20, 32, 33, 34, 35, 36, 37, 38, 39, 40] (by decide +kernel) (by decide +kernel)
set_option maxRecDepth 20000 in
theorem gX3_closePartIfWhole_X2_addSaying : GoodIn wsX3_closePartIfWhole (wsV RX3 63 RX2 yX2_addSaying wsX2_addSaying) := goodIn_app (goodIn_of _ (by decide +kernel)) ggX3_closePartIfWhole_X2_addSaying
set_option maxRecDepth 20000 in
theorem ggX3_closePartIfWhole_X2_addRain : GoodIn wsX3_closePartIfWhole wsX2_addRain := goodIn_r _ [24, 25, 26, 32, 33, 34, 35, 36, 37, 38, 39, 40] (by decide +kernel) (by decide +kernel)
set_option maxRecDepth 20000 in
theorem gX3_closePartIfWhole_X2_addRain : GoodIn wsX3_closePartIfWhole (wsV RX3 67 RX2 yX2_addRain wsX2_addRain) := goodIn_app (goodIn_of _ (by decide +kernel)) ggX3_closePartIfWhole_X2_addRain
theorem dX3_closePartIfWhole_0 : decode cX3_closePartIfWhole 0 = .ok (.aload_n 0, 1) := by decide +kernel
theorem dX3_closePartIfWhole_1 : decode cX3_closePartIfWhole 1 = .ok (.getfield 29, 3) := by decide +kernel
theorem dX3_closePartIfWhole_4 : decode cX3_closePartIfWhole 4 = .ok (.bipush 72, 2) := by decide +kernel
theorem dX3_closePartIfWhole_6 : decode cX3_closePartIfWhole 6 = .ok (.if_icmp .ne 38, 3) := by decide +kernel
theorem dX3_closePartIfWhole_9 : decode cX3_closePartIfWhole 9 = .ok (.aload_n 0, 1) := by decide +kernel
theorem dX3_closePartIfWhole_10 : decode cX3_closePartIfWhole 10 = .ok (.getfield 44, 3) := by decide +kernel
theorem dX3_closePartIfWhole_13 : decode cX3_closePartIfWhole 13 = .ok (.iconst 2, 1) := by decide +kernel
theorem dX3_closePartIfWhole_14 : decode cX3_closePartIfWhole 14 = .ok (.if_icmp .ne 30, 3) := by decide +kernel
theorem dX3_closePartIfWhole_17 : decode cX3_closePartIfWhole 17 = .ok (.aload_n 0, 1) := by decide +kernel
theorem dX3_closePartIfWhole_18 : decode cX3_closePartIfWhole 18 = .ok (.getfield 12, 3) := by decide +kernel
theorem dX3_closePartIfWhole_21 : decode cX3_closePartIfWhole 21 = .ok (.aload_n 0, 1) := by decide +kernel
theorem dX3_closePartIfWhole_22 : decode cX3_closePartIfWhole 22 = .ok (.getfield 18, 3) := by decide +kernel
theorem dX3_closePartIfWhole_25 : decode cX3_closePartIfWhole 25 = .ok (.iconst 0, 1) := by decide +kernel
theorem dX3_closePartIfWhole_26 : decode cX3_closePartIfWhole 26 = .ok (.iaload, 1) := by decide +kernel
theorem dX3_closePartIfWhole_27 : decode cX3_closePartIfWhole 27 = .ok (.aload_n 0, 1) := by decide +kernel
theorem dX3_closePartIfWhole_28 : decode cX3_closePartIfWhole 28 = .ok (.getfield 18, 3) := by decide +kernel
theorem dX3_closePartIfWhole_31 : decode cX3_closePartIfWhole 31 = .ok (.iconst 1, 1) := by decide +kernel
theorem dX3_closePartIfWhole_32 : decode cX3_closePartIfWhole 32 = .ok (.iaload, 1) := by decide +kernel
theorem dX3_closePartIfWhole_33 : decode cX3_closePartIfWhole 33 = .ok (.invokevirtual 59, 3) := by decide +kernel
theorem dX3_closePartIfWhole_36 : decode cX3_closePartIfWhole 36 = .ok (.aload_n 0, 1) := by decide +kernel
theorem dX3_closePartIfWhole_37 : decode cX3_closePartIfWhole 37 = .ok (.iconst 0, 1) := by decide +kernel
theorem dX3_closePartIfWhole_38 : decode cX3_closePartIfWhole 38 = .ok (.putfield 29, 3) := by decide +kernel
theorem dX3_closePartIfWhole_41 : decode cX3_closePartIfWhole 41 = .ok (.goto 88, 3) := by decide +kernel
theorem dX3_closePartIfWhole_44 : decode cX3_closePartIfWhole 44 = .ok (.aload_n 0, 1) := by decide +kernel
theorem dX3_closePartIfWhole_45 : decode cX3_closePartIfWhole 45 = .ok (.getfield 29, 3) := by decide +kernel
theorem dX3_closePartIfWhole_48 : decode cX3_closePartIfWhole 48 = .ok (.bipush 83, 2) := by decide +kernel
theorem dX3_closePartIfWhole_50 : decode cX3_closePartIfWhole 50 = .ok (.if_icmp .ne 44, 3) := by decide +kernel
theorem dX3_closePartIfWhole_53 : decode cX3_closePartIfWhole 53 = .ok (.aload_n 0, 1) := by decide +kernel
theorem dX3_closePartIfWhole_54 : decode cX3_closePartIfWhole 54 = .ok (.getfield 44, 3) := by decide +kernel
theorem dX3_closePartIfWhole_57 : decode cX3_closePartIfWhole 57 = .ok (.iconst 3, 1) := by decide +kernel
theorem dX3_closePartIfWhole_58 : decode cX3_closePartIfWhole 58 = .ok (.if_icmp .ne 36, 3) := by decide +kernel
theorem dX3_closePartIfWhole_61 : decode cX3_closePartIfWhole 61 = .ok (.aload_n 0, 1) := by decide +kernel
theorem dX3_closePartIfWhole_62 : decode cX3_closePartIfWhole 62 = .ok (.getfield 12, 3) := by decide +kernel
theorem dX3_closePartIfWhole_65 : decode cX3_closePartIfWhole 65 = .ok (.aload_n 0, 1) := by decide +kernel
theorem dX3_closePartIfWhole_66 : decode cX3_closePartIfWhole 66 = .ok (.getfield 18, 3) := by decide +kernel
theorem dX3_closePartIfWhole_69 : decode cX3_closePartIfWhole 69 = .ok (.iconst 0, 1) := by decide +kernel
theorem dX3_closePartIfWhole_70 : decode cX3_closePartIfWhole 70 = .ok (.iaload, 1) := by decide +kernel
theorem dX3_closePartIfWhole_71 : decode cX3_closePartIfWhole 71 = .ok (.aload_n 0, 1) := by decide +kernel
theorem dX3_closePartIfWhole_72 : decode cX3_closePartIfWhole 72 = .ok (.getfield 18, 3) := by decide +kernel
theorem dX3_closePartIfWhole_75 : decode cX3_closePartIfWhole 75 = .ok (.iconst 1, 1) := by decide +kernel
theorem dX3_closePartIfWhole_76 : decode cX3_closePartIfWhole 76 = .ok (.iaload, 1) := by decide +kernel
theorem dX3_closePartIfWhole_77 : decode cX3_closePartIfWhole 77 = .ok (.aload_n 0, 1) := by decide +kernel
theorem dX3_closePartIfWhole_78 : decode cX3_closePartIfWhole 78 = .ok (.getfield 18, 3) := by decide +kernel
theorem dX3_closePartIfWhole_81 : decode cX3_closePartIfWhole 81 = .ok (.iconst 2, 1) := by decide +kernel
theorem dX3_closePartIfWhole_82 : decode cX3_closePartIfWhole 82 = .ok (.iaload, 1) := by decide +kernel
theorem dX3_closePartIfWhole_83 : decode cX3_closePartIfWhole 83 = .ok (.invokevirtual 63, 3) := by decide +kernel
theorem dX3_closePartIfWhole_86 : decode cX3_closePartIfWhole 86 = .ok (.aload_n 0, 1) := by decide +kernel
theorem dX3_closePartIfWhole_87 : decode cX3_closePartIfWhole 87 = .ok (.iconst 0, 1) := by decide +kernel
theorem dX3_closePartIfWhole_88 : decode cX3_closePartIfWhole 88 = .ok (.putfield 29, 3) := by decide +kernel
theorem dX3_closePartIfWhole_91 : decode cX3_closePartIfWhole 91 = .ok (.goto 38, 3) := by decide +kernel
theorem dX3_closePartIfWhole_94 : decode cX3_closePartIfWhole 94 = .ok (.aload_n 0, 1) := by decide +kernel
theorem dX3_closePartIfWhole_95 : decode cX3_closePartIfWhole 95 = .ok (.getfield 29, 3) := by decide +kernel
theorem dX3_closePartIfWhole_98 : decode cX3_closePartIfWhole 98 = .ok (.bipush 82, 2) := by decide +kernel
theorem dX3_closePartIfWhole_100 : decode cX3_closePartIfWhole 100 = .ok (.if_icmp .ne 29, 3) := by decide +kernel
theorem dX3_closePartIfWhole_103 : decode cX3_closePartIfWhole 103 = .ok (.aload_n 0, 1) := by decide +kernel
theorem dX3_closePartIfWhole_104 : decode cX3_closePartIfWhole 104 = .ok (.getfield 44, 3) := by decide +kernel
theorem dX3_closePartIfWhole_107 : decode cX3_closePartIfWhole 107 = .ok (.iconst 1, 1) := by decide +kernel
theorem dX3_closePartIfWhole_108 : decode cX3_closePartIfWhole 108 = .ok (.if_icmp .ne 21, 3) := by decide +kernel
theorem dX3_closePartIfWhole_111 : decode cX3_closePartIfWhole 111 = .ok (.aload_n 0, 1) := by decide +kernel
theorem dX3_closePartIfWhole_112 : decode cX3_closePartIfWhole 112 = .ok (.getfield 12, 3) := by decide +kernel
theorem dX3_closePartIfWhole_115 : decode cX3_closePartIfWhole 115 = .ok (.aload_n 0, 1) := by decide +kernel
theorem dX3_closePartIfWhole_116 : decode cX3_closePartIfWhole 116 = .ok (.getfield 18, 3) := by decide +kernel
theorem dX3_closePartIfWhole_119 : decode cX3_closePartIfWhole 119 = .ok (.iconst 0, 1) := by decide +kernel
theorem dX3_closePartIfWhole_120 : decode cX3_closePartIfWhole 120 = .ok (.iaload, 1) := by decide +kernel
theorem dX3_closePartIfWhole_121 : decode cX3_closePartIfWhole 121 = .ok (.invokevirtual 67, 3) := by decide +kernel
theorem dX3_closePartIfWhole_124 : decode cX3_closePartIfWhole 124 = .ok (.aload_n 0, 1) := by decide +kernel
theorem dX3_closePartIfWhole_125 : decode cX3_closePartIfWhole 125 = .ok (.iconst 0, 1) := by decide +kernel
theorem dX3_closePartIfWhole_126 : decode cX3_closePartIfWhole 126 = .ok (.putfield 29, 3) := by decide +kernel
theorem dX3_closePartIfWhole_129 : decode cX3_closePartIfWhole 129 = .ok (.return_, 1) := by decide +kernel
theorem dX4_init_0 : decode cX4_init 0 = .ok (.aload_n 0, 1) := by decide +kernel
theorem dX4_init_1 : decode cX4_init 1 = .ok (.invokespecial 3, 3) := by decide +kernel
theorem dX4_init_4 : decode cX4_init 4 = .ok (.aload_n 0, 1) := by decide +kernel
theorem dX4_init_5 : decode cX4_init 5 = .ok (.iconst 5, 1) := by decide +kernel
theorem dX4_init_6 : decode cX4_init 6 = .ok (.newarray .int, 2) := by decide +kernel
theorem dX4_init_8 : decode cX4_init 8 = .ok (.putfield 9, 3) := by decide +kernel
theorem dX4_init_11 : decode cX4_init 11 = .ok (.aload_n 0, 1) := by decide +kernel
theorem dX4_init_12 : decode cX4_init 12 = .ok (.iconst 5, 1) := by decide +kernel
theorem dX4_init_13 : decode cX4_init 13 = .ok (.newarray .int, 2) := by decide +kernel
theorem dX4_init_15 : decode cX4_init 15 = .ok (.putfield 15, 3) := by decide +kernel
theorem dX4_init_18 : decode cX4_init 18 = .ok (.aload_n 0, 1) := by decide +kernel
theorem dX4_init_19 : decode cX4_init 19 = .ok (.iconst 5, 1) := by decide +kernel
theorem dX4_init_20 : decode cX4_init 20 = .ok (.newarray .int, 2) := by decide +kernel
theorem dX4_init_22 : decode cX4_init 22 = .ok (.putfield 18, 3) := by decide +kernel
theorem dX4_init_25 : decode cX4_init 25 = .ok (.aload_n 0, 1) := by decide +kernel
theorem dX4_init_26 : decode cX4_init 26 = .ok (.aload_n 1, 1) := by decide +kernel
theorem dX4_init_27 : decode cX4_init 27 = .ok (.putfield 21, 3) := by decide +kernel
theorem dX4_init_30 : decode cX4_init 30 = .ok (.return_, 1) := by decide +kernel
theorem dX4_begin_0 : decode cX4_begin 0 = .ok (.iconst 0, 1) := by decide +kernel
theorem dX4_begin_1 : decode cX4_begin 1 = .ok (.istore_n 1, 1) := by decide +kernel
theorem dX4_begin_2 : decode cX4_begin 2 = .ok (.iload_n 1, 1) := by decide +kernel
theorem dX4_begin_3 : decode cX4_begin 3 = .ok (.iconst 5, 1) := by decide +kernel
theorem dX4_begin_4 : decode cX4_begin 4 = .ok (.if_icmp .ge 30, 3) := by decide +kernel
theorem dX4_begin_7 : decode cX4_begin 7 = .ok (.aload_n 0, 1) := by decide +kernel
theorem dX4_begin_8 : decode cX4_begin 8 = .ok (.getfield 9, 3) := by decide +kernel
theorem dX4_begin_11 : decode cX4_begin 11 = .ok (.iload_n 1, 1) := by decide +kernel
theorem dX4_begin_12 : decode cX4_begin 12 = .ok (.iload_n 1, 1) := by decide +kernel
theorem dX4_begin_13 : decode cX4_begin 13 = .ok (.iastore, 1) := by decide +kernel
theorem dX4_begin_14 : decode cX4_begin 14 = .ok (.aload_n 0, 1) := by decide +kernel
theorem dX4_begin_15 : decode cX4_begin 15 = .ok (.getfield 15, 3) := by decide +kernel
theorem dX4_begin_18 : decode cX4_begin 18 = .ok (.iload_n 1, 1) := by decide +kernel
theorem dX4_begin_19 : decode cX4_begin 19 = .ok (.iconst 0, 1) := by decide +kernel
theorem dX4_begin_20 : decode cX4_begin 20 = .ok (.iastore, 1) := by decide +kernel
theorem dX4_begin_21 : decode cX4_begin 21 = .ok (.aload_n 0, 1) := by decide +kernel
theorem dX4_begin_22 : decode cX4_begin 22 = .ok (.getfield 18, 3) := by decide +kernel
theorem dX4_begin_25 : decode cX4_begin 25 = .ok (.iload_n 1, 1) := by decide +kernel
theorem dX4_begin_26 : decode cX4_begin 26 = .ok (.iconst 0, 1) := by decide +kernel
theorem dX4_begin_27 : decode cX4_begin 27 = .ok (.iastore, 1) := by decide +kernel
theorem dX4_begin_28 : decode cX4_begin 28 = .ok (.iinc 1 1, 3) := by decide +kernel
theorem dX4_begin_31 : decode cX4_begin 31 = .ok (.goto (-29), 3) := by decide +kernel
theorem dX4_begin_34 : decode cX4_begin 34 = .ok (.aload_n 0, 1) := by decide +kernel
theorem dX4_begin_35 : decode cX4_begin 35 = .ok (.iconst 0, 1) := by decide +kernel
theorem dX4_begin_36 : decode cX4_begin 36 = .ok (.putfield 25, 3) := by decide +kernel
theorem dX4_begin_39 : decode cX4_begin 39 = .ok (.aload_n 0, 1) := by decide +kernel
theorem dX4_begin_40 : decode cX4_begin 40 = .ok (.iconst 0, 1) := by decide +kernel
theorem dX4_begin_41 : decode cX4_begin 41 = .ok (.putfield 29, 3) := by decide +kernel
theorem dX4_begin_44 : decode cX4_begin 44 = .ok (.return_, 1) := by decide +kernel
theorem dX4_take_0 : decode cX4_take 0 = .ok (.aload_n 1, 1) := by decide +kernel
theorem dX4_take_1 : decode cX4_take 1 = .ok (.getfield 9, 3) := by decide +kernel
theorem dX4_take_4 : decode cX4_take 4 = .ok (.iconst 0, 1) := by decide +kernel
theorem dX4_take_5 : decode cX4_take 5 = .ok (.aload_n 0, 1) := by decide +kernel
theorem dX4_take_6 : decode cX4_take 6 = .ok (.getfield 9, 3) := by decide +kernel
theorem dX4_take_9 : decode cX4_take 9 = .ok (.iconst 0, 1) := by decide +kernel
theorem dX4_take_10 : decode cX4_take 10 = .ok (.iconst 5, 1) := by decide +kernel
theorem dX4_take_11 : decode cX4_take 11 = .ok (.invokestatic 32, 3) := by decide +kernel
theorem dX4_take_14 : decode cX4_take 14 = .ok (.aload_n 1, 1) := by decide +kernel
theorem dX4_take_15 : decode cX4_take 15 = .ok (.getfield 15, 3) := by decide +kernel
theorem dX4_take_18 : decode cX4_take 18 = .ok (.iconst 0, 1) := by decide +kernel
theorem dX4_take_19 : decode cX4_take 19 = .ok (.aload_n 0, 1) := by decide +kernel
theorem dX4_take_20 : decode cX4_take 20 = .ok (.getfield 15, 3) := by decide +kernel
theorem dX4_take_23 : decode cX4_take 23 = .ok (.iconst 0, 1) := by decide +kernel
theorem dX4_take_24 : decode cX4_take 24 = .ok (.iconst 5, 1) := by decide +kernel
theorem dX4_take_25 : decode cX4_take 25 = .ok (.invokestatic 32, 3) := by decide +kernel
theorem dX4_take_28 : decode cX4_take 28 = .ok (.aload_n 1, 1) := by decide +kernel
theorem dX4_take_29 : decode cX4_take 29 = .ok (.getfield 18, 3) := by decide +kernel
theorem dX4_take_32 : decode cX4_take 32 = .ok (.iconst 0, 1) := by decide +kernel
theorem dX4_take_33 : decode cX4_take 33 = .ok (.aload_n 0, 1) := by decide +kernel
theorem dX4_take_34 : decode cX4_take 34 = .ok (.getfield 18, 3) := by decide +kernel
theorem dX4_take_37 : decode cX4_take 37 = .ok (.iconst 0, 1) := by decide +kernel
theorem dX4_take_38 : decode cX4_take 38 = .ok (.iconst 5, 1) := by decide +kernel
theorem dX4_take_39 : decode cX4_take 39 = .ok (.invokestatic 32, 3) := by decide +kernel
theorem dX4_take_42 : decode cX4_take 42 = .ok (.aload_n 0, 1) := by decide +kernel
theorem dX4_take_43 : decode cX4_take 43 = .ok (.aload_n 1, 1) := by decide +kernel
theorem dX4_take_44 : decode cX4_take 44 = .ok (.getfield 25, 3) := by decide +kernel
theorem dX4_take_47 : decode cX4_take 47 = .ok (.putfield 25, 3) := by decide +kernel
theorem dX4_take_50 : decode cX4_take 50 = .ok (.aload_n 0, 1) := by decide +kernel
theorem dX4_take_51 : decode cX4_take 51 = .ok (.aload_n 1, 1) := by decide +kernel
theorem dX4_take_52 : decode cX4_take 52 = .ok (.getfield 29, 3) := by decide +kernel
theorem dX4_take_55 : decode cX4_take 55 = .ok (.putfield 29, 3) := by decide +kernel
theorem dX4_take_58 : decode cX4_take 58 = .ok (.return_, 1) := by decide +kernel
theorem dX4_kindAt_0 : decode cX4_kindAt 0 = .ok (.aload_n 0, 1) := by decide +kernel
theorem dX4_kindAt_1 : decode cX4_kindAt 1 = .ok (.getfield 21, 3) := by decide +kernel
theorem dX4_kindAt_4 : decode cX4_kindAt 4 = .ok (.getfield 38, 3) := by decide +kernel
theorem dX4_kindAt_7 : decode cX4_kindAt 7 = .ok (.aload_n 0, 1) := by decide +kernel
theorem dX4_kindAt_8 : decode cX4_kindAt 8 = .ok (.getfield 9, 3) := by decide +kernel
theorem dX4_kindAt_11 : decode cX4_kindAt 11 = .ok (.iload_n 1, 1) := by decide +kernel
theorem dX4_kindAt_12 : decode cX4_kindAt 12 = .ok (.iaload, 1) := by decide +kernel
theorem dX4_kindAt_13 : decode cX4_kindAt 13 = .ok (.iaload, 1) := by decide +kernel
theorem dX4_kindAt_14 : decode cX4_kindAt 14 = .ok (.ireturn, 1) := by decide +kernel
theorem dX4_knowsThing_0 : decode cX4_knowsThing 0 = .ok (.aload_n 0, 1) := by decide +kernel
theorem dX4_knowsThing_1 : decode cX4_knowsThing 1 = .ok (.getfield 15, 3) := by decide +kernel
theorem dX4_knowsThing_4 : decode cX4_knowsThing 4 = .ok (.iload_n 1, 1) := by decide +kernel
theorem dX4_knowsThing_5 : decode cX4_knowsThing 5 = .ok (.iaload, 1) := by decide +kernel
theorem dX4_knowsThing_6 : decode cX4_knowsThing 6 = .ok (.iload_n 2, 1) := by decide +kernel
theorem dX4_knowsThing_7 : decode cX4_knowsThing 7 = .ok (.ishr, 1) := by decide +kernel
theorem dX4_knowsThing_8 : decode cX4_knowsThing 8 = .ok (.iconst 1, 1) := by decide +kernel
theorem dX4_knowsThing_9 : decode cX4_knowsThing 9 = .ok (.iand, 1) := by decide +kernel
theorem dX4_knowsThing_10 : decode cX4_knowsThing 10 = .ok (.iconst 1, 1) := by decide +kernel
theorem dX4_knowsThing_11 : decode cX4_knowsThing 11 = .ok (.if_icmp .ne 7, 3) := by decide +kernel
theorem dX4_knowsThing_14 : decode cX4_knowsThing 14 = .ok (.iconst 1, 1) := by decide +kernel
theorem dX4_knowsThing_15 : decode cX4_knowsThing 15 = .ok (.goto 4, 3) := by decide +kernel
theorem dX4_knowsThing_18 : decode cX4_knowsThing 18 = .ok (.iconst 0, 1) := by decide +kernel
theorem dX4_knowsThing_19 : decode cX4_knowsThing 19 = .ok (.ireturn, 1) := by decide +kernel
theorem dX4_knownBy_0 : decode cX4_knownBy 0 = .ok (.iconst 0, 1) := by decide +kernel
theorem dX4_knownBy_1 : decode cX4_knownBy 1 = .ok (.istore_n 2, 1) := by decide +kernel
theorem dX4_knownBy_2 : decode cX4_knownBy 2 = .ok (.iconst 0, 1) := by decide +kernel
theorem dX4_knownBy_3 : decode cX4_knownBy 3 = .ok (.istore_n 3, 1) := by decide +kernel
theorem dX4_knownBy_4 : decode cX4_knownBy 4 = .ok (.iload_n 3, 1) := by decide +kernel
theorem dX4_knownBy_5 : decode cX4_knownBy 5 = .ok (.aload_n 0, 1) := by decide +kernel
theorem dX4_knownBy_6 : decode cX4_knownBy 6 = .ok (.getfield 21, 3) := by decide +kernel
theorem dX4_knownBy_9 : decode cX4_knownBy 9 = .ok (.getfield 43, 3) := by decide +kernel
theorem dX4_knownBy_12 : decode cX4_knownBy 12 = .ok (.if_icmp .ge 27, 3) := by decide +kernel
theorem dX4_knownBy_15 : decode cX4_knownBy 15 = .ok (.iload_n 1, 1) := by decide +kernel
theorem dX4_knownBy_16 : decode cX4_knownBy 16 = .ok (.iload_n 3, 1) := by decide +kernel
theorem dX4_knownBy_17 : decode cX4_knownBy 17 = .ok (.ishr, 1) := by decide +kernel
theorem dX4_knownBy_18 : decode cX4_knownBy 18 = .ok (.iconst 1, 1) := by decide +kernel
theorem dX4_knownBy_19 : decode cX4_knownBy 19 = .ok (.iand, 1) := by decide +kernel
theorem dX4_knownBy_20 : decode cX4_knownBy 20 = .ok (.iconst 1, 1) := by decide +kernel
theorem dX4_knownBy_21 : decode cX4_knownBy 21 = .ok (.if_icmp .ne 12, 3) := by decide +kernel
theorem dX4_knownBy_24 : decode cX4_knownBy 24 = .ok (.iload_n 2, 1) := by decide +kernel
theorem dX4_knownBy_25 : decode cX4_knownBy 25 = .ok (.aload_n 0, 1) := by decide +kernel
theorem dX4_knownBy_26 : decode cX4_knownBy 26 = .ok (.getfield 15, 3) := by decide +kernel
theorem dX4_knownBy_29 : decode cX4_knownBy 29 = .ok (.iload_n 3, 1) := by decide +kernel
theorem dX4_knownBy_30 : decode cX4_knownBy 30 = .ok (.iaload, 1) := by decide +kernel
theorem dX4_knownBy_31 : decode cX4_knownBy 31 = .ok (.ior, 1) := by decide +kernel
theorem dX4_knownBy_32 : decode cX4_knownBy 32 = .ok (.istore_n 2, 1) := by decide +kernel
theorem dX4_knownBy_33 : decode cX4_knownBy 33 = .ok (.iinc 3 1, 3) := by decide +kernel
theorem dX4_knownBy_36 : decode cX4_knownBy 36 = .ok (.goto (-32), 3) := by decide +kernel
theorem dX4_knownBy_39 : decode cX4_knownBy 39 = .ok (.iload_n 2, 1) := by decide +kernel
theorem dX4_knownBy_40 : decode cX4_knownBy 40 = .ok (.ireturn, 1) := by decide +kernel
theorem dX4_knowersOf_0 : decode cX4_knowersOf 0 = .ok (.iconst 0, 1) := by decide +kernel
theorem dX4_knowersOf_1 : decode cX4_knowersOf 1 = .ok (.istore_n 2, 1) := by decide +kernel
theorem dX4_knowersOf_2 : decode cX4_knowersOf 2 = .ok (.iconst 0, 1) := by decide +kernel
theorem dX4_knowersOf_3 : decode cX4_knowersOf 3 = .ok (.istore_n 3, 1) := by decide +kernel
theorem dX4_knowersOf_4 : decode cX4_knowersOf 4 = .ok (.iload_n 3, 1) := by decide +kernel
theorem dX4_knowersOf_5 : decode cX4_knowersOf 5 = .ok (.aload_n 0, 1) := by decide +kernel
theorem dX4_knowersOf_6 : decode cX4_knowersOf 6 = .ok (.getfield 21, 3) := by decide +kernel
theorem dX4_knowersOf_9 : decode cX4_knowersOf 9 = .ok (.getfield 43, 3) := by decide +kernel
theorem dX4_knowersOf_12 : decode cX4_knowersOf 12 = .ok (.if_icmp .ge 22, 3) := by decide +kernel
theorem dX4_knowersOf_15 : decode cX4_knowersOf 15 = .ok (.iload_n 2, 1) := by decide +kernel
theorem dX4_knowersOf_16 : decode cX4_knowersOf 16 = .ok (.aload_n 0, 1) := by decide +kernel
theorem dX4_knowersOf_17 : decode cX4_knowersOf 17 = .ok (.getfield 15, 3) := by decide +kernel
theorem dX4_knowersOf_20 : decode cX4_knowersOf 20 = .ok (.iload_n 3, 1) := by decide +kernel
theorem dX4_knowersOf_21 : decode cX4_knowersOf 21 = .ok (.iaload, 1) := by decide +kernel
theorem dX4_knowersOf_22 : decode cX4_knowersOf 22 = .ok (.iload_n 1, 1) := by decide +kernel
theorem dX4_knowersOf_23 : decode cX4_knowersOf 23 = .ok (.ishr, 1) := by decide +kernel
theorem dX4_knowersOf_24 : decode cX4_knowersOf 24 = .ok (.iconst 1, 1) := by decide +kernel
theorem dX4_knowersOf_25 : decode cX4_knowersOf 25 = .ok (.iand, 1) := by decide +kernel
theorem dX4_knowersOf_26 : decode cX4_knowersOf 26 = .ok (.iadd, 1) := by decide +kernel
theorem dX4_knowersOf_27 : decode cX4_knowersOf 27 = .ok (.istore_n 2, 1) := by decide +kernel
theorem dX4_knowersOf_28 : decode cX4_knowersOf 28 = .ok (.iinc 3 1, 3) := by decide +kernel
theorem dX4_knowersOf_31 : decode cX4_knowersOf 31 = .ok (.goto (-27), 3) := by decide +kernel
theorem dX4_knowersOf_34 : decode cX4_knowersOf 34 = .ok (.iload_n 2, 1) := by decide +kernel
theorem dX4_knowersOf_35 : decode cX4_knowersOf 35 = .ok (.ireturn, 1) := by decide +kernel
set_option maxRecDepth 20000 in
theorem ggX4_allKnown_J6_bitCount_0f7a4 : GoodIn wsX4_allKnown wsJ6_bitCount_0f7a4 := goodIn_r _ [7, 8, 9, 10] (by decide +kernel) (by decide +kernel)
set_option maxRecDepth 20000 in
theorem gX4_allKnown_J6_bitCount_0f7a4 : GoodIn wsX4_allKnown (va_wsS RX4 46 yJ6_bitCount_0f7a4 wsJ6_bitCount_0f7a4) := goodIn_app (goodIn_of _ (by decide +kernel)) ggX4_allKnown_J6_bitCount_0f7a4
theorem dX4_allKnown_0 : decode cX4_allKnown 0 = .ok (.iconst 0, 1) := by decide +kernel
theorem dX4_allKnown_1 : decode cX4_allKnown 1 = .ok (.istore_n 1, 1) := by decide +kernel
theorem dX4_allKnown_2 : decode cX4_allKnown 2 = .ok (.iconst 0, 1) := by decide +kernel
theorem dX4_allKnown_3 : decode cX4_allKnown 3 = .ok (.istore_n 2, 1) := by decide +kernel
theorem dX4_allKnown_4 : decode cX4_allKnown 4 = .ok (.iload_n 2, 1) := by decide +kernel
theorem dX4_allKnown_5 : decode cX4_allKnown 5 = .ok (.aload_n 0, 1) := by decide +kernel
theorem dX4_allKnown_6 : decode cX4_allKnown 6 = .ok (.getfield 21, 3) := by decide +kernel
theorem dX4_allKnown_9 : decode cX4_allKnown 9 = .ok (.getfield 43, 3) := by decide +kernel
theorem dX4_allKnown_12 : decode cX4_allKnown 12 = .ok (.if_icmp .ge 21, 3) := by decide +kernel
theorem dX4_allKnown_15 : decode cX4_allKnown 15 = .ok (.iload_n 1, 1) := by decide +kernel
theorem dX4_allKnown_16 : decode cX4_allKnown 16 = .ok (.aload_n 0, 1) := by decide +kernel
theorem dX4_allKnown_17 : decode cX4_allKnown 17 = .ok (.getfield 15, 3) := by decide +kernel
theorem dX4_allKnown_20 : decode cX4_allKnown 20 = .ok (.iload_n 2, 1) := by decide +kernel
theorem dX4_allKnown_21 : decode cX4_allKnown 21 = .ok (.iaload, 1) := by decide +kernel
theorem dX4_allKnown_22 : decode cX4_allKnown 22 = .ok (.invokestatic 46, 3) := by decide +kernel
theorem dX4_allKnown_25 : decode cX4_allKnown 25 = .ok (.iadd, 1) := by decide +kernel
theorem dX4_allKnown_26 : decode cX4_allKnown 26 = .ok (.istore_n 1, 1) := by decide +kernel
theorem dX4_allKnown_27 : decode cX4_allKnown 27 = .ok (.iinc 2 1, 3) := by decide +kernel
theorem dX4_allKnown_30 : decode cX4_allKnown 30 = .ok (.goto (-26), 3) := by decide +kernel
theorem dX4_allKnown_33 : decode cX4_allKnown 33 = .ok (.iload_n 1, 1) := by decide +kernel
theorem dX4_allKnown_34 : decode cX4_allKnown 34 = .ok (.ireturn, 1) := by decide +kernel
theorem dX4_areStrayed_0 : decode cX4_areStrayed 0 = .ok (.aload_n 0, 1) := by decide +kernel
theorem dX4_areStrayed_1 : decode cX4_areStrayed 1 = .ok (.getfield 25, 3) := by decide +kernel
theorem dX4_areStrayed_4 : decode cX4_areStrayed 4 = .ok (.iconst 3, 1) := by decide +kernel
theorem dX4_areStrayed_5 : decode cX4_areStrayed 5 = .ok (.if_icmp .lt 7, 3) := by decide +kernel
theorem dX4_areStrayed_8 : decode cX4_areStrayed 8 = .ok (.iconst 1, 1) := by decide +kernel
theorem dX4_areStrayed_9 : decode cX4_areStrayed 9 = .ok (.goto 4, 3) := by decide +kernel
theorem dX4_areStrayed_12 : decode cX4_areStrayed 12 = .ok (.iconst 0, 1) := by decide +kernel
theorem dX4_areStrayed_13 : decode cX4_areStrayed 13 = .ok (.ireturn, 1) := by decide +kernel
set_option maxRecDepth 20000 in
theorem ggX4_housesThatHear_X2_rainAt : GoodIn wsX4_housesThatHear wsX2_rainAt := goodIn_r _ [7, 8, 9, 10, 11, 12, 13, 50, 51, 52, 53, 54, 55, 56, 57, 58] (by decide +kernel) (by decide +kernel)
set_option maxRecDepth 20000 in
theorem gX4_housesThatHear_X2_rainAt : GoodIn wsX4_housesThatHear (wsV RX4 52 RX2 yX2_rainAt wsX2_rainAt) := goodIn_app (goodIn_of _ (by decide +kernel)) ggX4_housesThatHear_X2_rainAt
set_option maxRecDepth 20000 in
theorem ggX4_housesThatHear_X4_housesThatHearBy : GoodIn wsX4_housesThatHear wsX4_housesThatHearBy := goodIn_r _ [18, 1, 2, 19, 20, 21, 22, 23, 24, 25, 26, 27, 28, 29, 30, 31, 32, 6, 33, 34, 10, 11, 12, 13, 35, 36, 37, 17, 38, 39, 40, 41, 42, 43, 44, 45, 46, 47, 48, 49, 50, 51, 52, 53, 54, 55, 56, 57, 58] (by decide +kernel) (by decide +kernel)
set_option maxRecDepth 20000 in
theorem gX4_housesThatHear_X4_housesThatHearBy : GoodIn wsX4_housesThatHear (wsV RX4 55 RX4 yX4_housesThatHearBy wsX4_housesThatHearBy) := goodIn_app (goodIn_of _ (by decide +kernel)) ggX4_housesThatHear_X4_housesThatHearBy
theorem dX4_housesThatHear_0 : decode cX4_housesThatHear 0 = .ok (.aload_n 0, 1) := by decide +kernel
theorem dX4_housesThatHear_1 : decode cX4_housesThatHear 1 = .ok (.aload_n 0, 1) := by decide +kernel
theorem dX4_housesThatHear_2 : decode cX4_housesThatHear 2 = .ok (.getfield 21, 3) := by decide +kernel
theorem dX4_housesThatHear_5 : decode cX4_housesThatHear 5 = .ok (.aload_n 0, 1) := by decide +kernel
theorem dX4_housesThatHear_6 : decode cX4_housesThatHear 6 = .ok (.getfield 29, 3) := by decide +kernel
theorem dX4_housesThatHear_9 : decode cX4_housesThatHear 9 = .ok (.invokevirtual 52, 3) := by decide +kernel
theorem dX4_housesThatHear_12 : decode cX4_housesThatHear 12 = .ok (.invokevirtual 55, 3) := by decide +kernel
theorem dX4_housesThatHear_15 : decode cX4_housesThatHear 15 = .ok (.ireturn, 1) := by decide +kernel
set_option maxRecDepth 20000 in
theorem ggX4_housesThatHearBy_X2_sayingAt : GoodIn wsX4_housesThatHearBy wsX2_sayingAt := goodIn_r _ [18, 19, 20, 21, 22, 23, 40, 41, 42, 43, 44, 45, 46, 47, 48] (by decide +kernel) (by decide +kernel)
set_option maxRecDepth 20000 in
theorem gX4_housesThatHearBy_X2_sayingAt : GoodIn wsX4_housesThatHearBy (wsV RX4 58 RX2 yX2_sayingAt wsX2_sayingAt) := goodIn_app (goodIn_of _ (by decide +kernel)) ggX4_housesThatHearBy_X2_sayingAt
set_option maxRecDepth 20000 in
theorem ggX4_housesThatHearBy_X4_areStrayed : GoodIn wsX4_housesThatHearBy wsX4_areStrayed := goodIn_r _ [28, 29, 34, 35, 36, 37, 38, 39] (by decide +kernel) (by decide +kernel)
set_option maxRecDepth 20000 in
theorem gX4_housesThatHearBy_X4_areStrayed : GoodIn wsX4_housesThatHearBy (wsV RX4 61 RX4 yX4_areStrayed wsX4_areStrayed) := goodIn_app (goodIn_of _ (by decide +kernel)) ggX4_housesThatHearBy_X4_areStrayed
set_option maxRecDepth 20000 in
theorem ggX4_housesThatHearBy_X2_hasSaying : GoodIn wsX4_housesThatHearBy wsX2_hasSaying := goodIn_r _ [33, 19, 40, 41, 42, 43, 44, 45, 46, 47, 48] (by decide +kernel) (by decide +kernel)
set_option maxRecDepth 20000 in
theorem gX4_housesThatHearBy_X2_hasSaying : GoodIn wsX4_housesThatHearBy (wsV RX4 65 RX2 yX2_hasSaying wsX2_hasSaying) := goodIn_app (goodIn_of _ (by decide +kernel)) ggX4_housesThatHearBy_X2_hasSaying
theorem dX4_housesThatHearBy_0 : decode cX4_housesThatHearBy 0 = .ok (.aload_n 0, 1) := by decide +kernel
theorem dX4_housesThatHearBy_1 : decode cX4_housesThatHearBy 1 = .ok (.getfield 21, 3) := by decide +kernel
theorem dX4_housesThatHearBy_4 : decode cX4_housesThatHearBy 4 = .ok (.aload_n 0, 1) := by decide +kernel
theorem dX4_housesThatHearBy_5 : decode cX4_housesThatHearBy 5 = .ok (.getfield 29, 3) := by decide +kernel
theorem dX4_housesThatHearBy_8 : decode cX4_housesThatHearBy 8 = .ok (.invokevirtual 58, 3) := by decide +kernel
theorem dX4_housesThatHearBy_11 : decode cX4_housesThatHearBy 11 = .ok (.istore_n 2, 1) := by decide +kernel
theorem dX4_housesThatHearBy_12 : decode cX4_housesThatHearBy 12 = .ok (.aload_n 0, 1) := by decide +kernel
theorem dX4_housesThatHearBy_13 : decode cX4_housesThatHearBy 13 = .ok (.invokevirtual 61, 3) := by decide +kernel
theorem dX4_housesThatHearBy_16 : decode cX4_housesThatHearBy 16 = .ok (.ifCond .ne 14, 3) := by decide +kernel
theorem dX4_housesThatHearBy_19 : decode cX4_housesThatHearBy 19 = .ok (.aload_n 0, 1) := by decide +kernel
theorem dX4_housesThatHearBy_20 : decode cX4_housesThatHearBy 20 = .ok (.getfield 21, 3) := by decide +kernel
theorem dX4_housesThatHearBy_23 : decode cX4_housesThatHearBy 23 = .ok (.iload_n 2, 1) := by decide +kernel
theorem dX4_housesThatHearBy_24 : decode cX4_housesThatHearBy 24 = .ok (.invokevirtual 65, 3) := by decide +kernel
theorem dX4_housesThatHearBy_27 : decode cX4_housesThatHearBy 27 = .ok (.ifCond .ne 5, 3) := by decide +kernel
theorem dX4_housesThatHearBy_30 : decode cX4_housesThatHearBy 30 = .ok (.iconst 0, 1) := by decide +kernel
theorem dX4_housesThatHearBy_31 : decode cX4_housesThatHearBy 31 = .ok (.ireturn, 1) := by decide +kernel
theorem dX4_housesThatHearBy_32 : decode cX4_housesThatHearBy 32 = .ok (.aload_n 0, 1) := by decide +kernel
theorem dX4_housesThatHearBy_33 : decode cX4_housesThatHearBy 33 = .ok (.getfield 21, 3) := by decide +kernel
theorem dX4_housesThatHearBy_36 : decode cX4_housesThatHearBy 36 = .ok (.getfield 69, 3) := by decide +kernel
theorem dX4_housesThatHearBy_39 : decode cX4_housesThatHearBy 39 = .ok (.iload_n 2, 1) := by decide +kernel
theorem dX4_housesThatHearBy_40 : decode cX4_housesThatHearBy 40 = .ok (.iaload, 1) := by decide +kernel
theorem dX4_housesThatHearBy_41 : decode cX4_housesThatHearBy 41 = .ok (.istore_n 3, 1) := by decide +kernel
theorem dX4_housesThatHearBy_42 : decode cX4_housesThatHearBy 42 = .ok (.aload_n 0, 1) := by decide +kernel
theorem dX4_housesThatHearBy_43 : decode cX4_housesThatHearBy 43 = .ok (.getfield 21, 3) := by decide +kernel
theorem dX4_housesThatHearBy_46 : decode cX4_housesThatHearBy 46 = .ok (.getfield 72, 3) := by decide +kernel
theorem dX4_housesThatHearBy_49 : decode cX4_housesThatHearBy 49 = .ok (.iload_n 2, 1) := by decide +kernel
theorem dX4_housesThatHearBy_50 : decode cX4_housesThatHearBy 50 = .ok (.iaload, 1) := by decide +kernel
theorem dX4_housesThatHearBy_51 : decode cX4_housesThatHearBy 51 = .ok (.aload_n 0, 1) := by decide +kernel
theorem dX4_housesThatHearBy_52 : decode cX4_housesThatHearBy 52 = .ok (.getfield 18, 3) := by decide +kernel
theorem dX4_housesThatHearBy_55 : decode cX4_housesThatHearBy 55 = .ok (.iload_n 3, 1) := by decide +kernel
theorem dX4_housesThatHearBy_56 : decode cX4_housesThatHearBy 56 = .ok (.iaload, 1) := by decide +kernel
theorem dX4_housesThatHearBy_57 : decode cX4_housesThatHearBy 57 = .ok (.iadd, 1) := by decide +kernel
theorem dX4_housesThatHearBy_58 : decode cX4_housesThatHearBy 58 = .ok (.aload_n 0, 1) := by decide +kernel
theorem dX4_housesThatHearBy_59 : decode cX4_housesThatHearBy 59 = .ok (.getfield 21, 3) := by decide +kernel
theorem dX4_housesThatHearBy_62 : decode cX4_housesThatHearBy 62 = .ok (.getfield 75, 3) := by decide +kernel
theorem dX4_housesThatHearBy_65 : decode cX4_housesThatHearBy 65 = .ok (.iload_n 3, 1) := by decide +kernel
theorem dX4_housesThatHearBy_66 : decode cX4_housesThatHearBy 66 = .ok (.iaload, 1) := by decide +kernel
theorem dX4_housesThatHearBy_67 : decode cX4_housesThatHearBy 67 = .ok (.isub, 1) := by decide +kernel
theorem dX4_housesThatHearBy_68 : decode cX4_housesThatHearBy 68 = .ok (.iload_n 1, 1) := by decide +kernel
theorem dX4_housesThatHearBy_69 : decode cX4_housesThatHearBy 69 = .ok (.isub, 1) := by decide +kernel
theorem dX4_housesThatHearBy_70 : decode cX4_housesThatHearBy 70 = .ok (.istore 4, 2) := by decide +kernel
theorem dX4_housesThatHearBy_72 : decode cX4_housesThatHearBy 72 = .ok (.iconst 0, 1) := by decide +kernel
theorem dX4_housesThatHearBy_73 : decode cX4_housesThatHearBy 73 = .ok (.istore 5, 2) := by decide +kernel
theorem dX4_housesThatHearBy_75 : decode cX4_housesThatHearBy 75 = .ok (.iconst 0, 1) := by decide +kernel
theorem dX4_housesThatHearBy_76 : decode cX4_housesThatHearBy 76 = .ok (.istore 6, 2) := by decide +kernel
theorem dX4_housesThatHearBy_78 : decode cX4_housesThatHearBy 78 = .ok (.iload 6, 2) := by decide +kernel
theorem dX4_housesThatHearBy_80 : decode cX4_housesThatHearBy 80 = .ok (.aload_n 0, 1) := by decide +kernel
theorem dX4_housesThatHearBy_81 : decode cX4_housesThatHearBy 81 = .ok (.getfield 21, 3) := by decide +kernel
theorem dX4_housesThatHearBy_84 : decode cX4_housesThatHearBy 84 = .ok (.getfield 43, 3) := by decide +kernel
theorem dX4_housesThatHearBy_87 : decode cX4_housesThatHearBy 87 = .ok (.if_icmp .ge 83, 3) := by decide +kernel
theorem dX4_housesThatHearBy_90 : decode cX4_housesThatHearBy 90 = .ok (.aload_n 0, 1) := by decide +kernel
theorem dX4_housesThatHearBy_91 : decode cX4_housesThatHearBy 91 = .ok (.getfield 21, 3) := by decide +kernel
theorem dX4_housesThatHearBy_94 : decode cX4_housesThatHearBy 94 = .ok (.getfield 38, 3) := by decide +kernel
theorem dX4_housesThatHearBy_97 : decode cX4_housesThatHearBy 97 = .ok (.aload_n 0, 1) := by decide +kernel
theorem dX4_housesThatHearBy_98 : decode cX4_housesThatHearBy 98 = .ok (.getfield 9, 3) := by decide +kernel
theorem dX4_housesThatHearBy_101 : decode cX4_housesThatHearBy 101 = .ok (.iload 6, 2) := by decide +kernel
theorem dX4_housesThatHearBy_103 : decode cX4_housesThatHearBy 103 = .ok (.iaload, 1) := by decide +kernel
theorem dX4_housesThatHearBy_104 : decode cX4_housesThatHearBy 104 = .ok (.iaload, 1) := by decide +kernel
theorem dX4_housesThatHearBy_105 : decode cX4_housesThatHearBy 105 = .ok (.istore 7, 2) := by decide +kernel
theorem dX4_housesThatHearBy_107 : decode cX4_housesThatHearBy 107 = .ok (.iload 6, 2) := by decide +kernel
theorem dX4_housesThatHearBy_109 : decode cX4_housesThatHearBy 109 = .ok (.iload_n 3, 1) := by decide +kernel
theorem dX4_housesThatHearBy_110 : decode cX4_housesThatHearBy 110 = .ok (.isub, 1) := by decide +kernel
theorem dX4_housesThatHearBy_111 : decode cX4_housesThatHearBy 111 = .ok (.invokestatic 78, 3) := by decide +kernel
theorem dX4_housesThatHearBy_114 : decode cX4_housesThatHearBy 114 = .ok (.istore 8, 2) := by decide +kernel
theorem dX4_housesThatHearBy_116 : decode cX4_housesThatHearBy 116 = .ok (.iload 7, 2) := by decide +kernel
theorem dX4_housesThatHearBy_118 : decode cX4_housesThatHearBy 118 = .ok (.iconst 3, 1) := by decide +kernel
theorem dX4_housesThatHearBy_119 : decode cX4_housesThatHearBy 119 = .ok (.if_icmp .ne 12, 3) := by decide +kernel
theorem dX4_housesThatHearBy_122 : decode cX4_housesThatHearBy 122 = .ok (.iload 8, 2) := by decide +kernel
theorem dX4_housesThatHearBy_124 : decode cX4_housesThatHearBy 124 = .ok (.ifCond .ne 7, 3) := by decide +kernel
theorem dX4_housesThatHearBy_127 : decode cX4_housesThatHearBy 127 = .ok (.iconst 1, 1) := by decide +kernel
theorem dX4_housesThatHearBy_128 : decode cX4_housesThatHearBy 128 = .ok (.goto 4, 3) := by decide +kernel
theorem dX4_housesThatHearBy_131 : decode cX4_housesThatHearBy 131 = .ok (.iconst 0, 1) := by decide +kernel
theorem dX4_housesThatHearBy_132 : decode cX4_housesThatHearBy 132 = .ok (.istore 9, 2) := by decide +kernel
theorem dX4_housesThatHearBy_134 : decode cX4_housesThatHearBy 134 = .ok (.iload 9, 2) := by decide +kernel
theorem dX4_housesThatHearBy_136 : decode cX4_housesThatHearBy 136 = .ok (.ifCond .ne 19, 3) := by decide +kernel
theorem dX4_housesThatHearBy_139 : decode cX4_housesThatHearBy 139 = .ok (.iload 4, 2) := by decide +kernel
theorem dX4_housesThatHearBy_141 : decode cX4_housesThatHearBy 141 = .ok (.getstatic 83, 3) := by decide +kernel
theorem dX4_housesThatHearBy_144 : decode cX4_housesThatHearBy 144 = .ok (.iload 7, 2) := by decide +kernel
theorem dX4_housesThatHearBy_146 : decode cX4_housesThatHearBy 146 = .ok (.iaload, 1) := by decide +kernel
theorem dX4_housesThatHearBy_147 : decode cX4_housesThatHearBy 147 = .ok (.iadd, 1) := by decide +kernel
theorem dX4_housesThatHearBy_148 : decode cX4_housesThatHearBy 148 = .ok (.iconst 2, 1) := by decide +kernel
theorem dX4_housesThatHearBy_149 : decode cX4_housesThatHearBy 149 = .ok (.iload 8, 2) := by decide +kernel
theorem dX4_housesThatHearBy_151 : decode cX4_housesThatHearBy 151 = .ok (.imul, 1) := by decide +kernel
theorem dX4_housesThatHearBy_152 : decode cX4_housesThatHearBy 152 = .ok (.if_icmp .le 12, 3) := by decide +kernel
theorem dX4_housesThatHearBy_155 : decode cX4_housesThatHearBy 155 = .ok (.iload 5, 2) := by decide +kernel
theorem dX4_housesThatHearBy_157 : decode cX4_housesThatHearBy 157 = .ok (.iconst 1, 1) := by decide +kernel
theorem dX4_housesThatHearBy_158 : decode cX4_housesThatHearBy 158 = .ok (.iload 6, 2) := by decide +kernel
theorem dX4_housesThatHearBy_160 : decode cX4_housesThatHearBy 160 = .ok (.ishl, 1) := by decide +kernel
theorem dX4_housesThatHearBy_161 : decode cX4_housesThatHearBy 161 = .ok (.ior, 1) := by decide +kernel
theorem dX4_housesThatHearBy_162 : decode cX4_housesThatHearBy 162 = .ok (.istore 5, 2) := by decide +kernel
theorem dX4_housesThatHearBy_164 : decode cX4_housesThatHearBy 164 = .ok (.iinc 6 1, 3) := by decide +kernel
theorem dX4_housesThatHearBy_167 : decode cX4_housesThatHearBy 167 = .ok (.goto (-89), 3) := by decide +kernel
theorem dX4_housesThatHearBy_170 : decode cX4_housesThatHearBy 170 = .ok (.iload 5, 2) := by decide +kernel
theorem dX4_housesThatHearBy_172 : decode cX4_housesThatHearBy 172 = .ok (.ireturn, 1) := by decide +kernel
set_option maxRecDepth 20000 in
theorem ggX4_passHours_X2_rainAt : GoodIn wsX4_passHours wsX2_rainAt := goodIn_r _ [7, 8, 9, 10, 11, 12, 13, 79, 80, 81, 82, 83, 84, 85, 86, 87] (by decide +kernel) (by decide +kernel)
set_option maxRecDepth 20000 in
theorem gX4_passHours_X2_rainAt : GoodIn wsX4_passHours (wsV RX4 52 RX2 yX2_rainAt wsX2_rainAt) := goodIn_app (goodIn_of _ (by decide +kernel)) ggX4_passHours_X2_rainAt
set_option maxRecDepth 20000 in
theorem ggX4_passHours_X4_passHourBy : GoodIn wsX4_passHours wsX4_passHourBy := goodIn_r _ [18, 1, 2, 19, 20, 21, 22, 23, 24, 25, 26, 27, 6, 28, 29, 10, 11, 12, 13, 30, 31, 32, 33, 34, 35, 36, 17, 37, 38, 39, 40, 41, 42, 43, 44, 45, 46, 47, 48, 49, 50, 51, 52, 53, 54, 55, 56, 57, 58, 59, 60, 61, 62, 63, 64, 65, 66, 67, 68, 69, 70, 71, 72, 73, 74, 75, 76, 77, 78, 79, 80, 81, 82, 83, 84, 85, 86, 87] (by decide +kernel) (by decide +kernel)
set_option maxRecDepth 20000 in
theorem gX4_passHours_X4_passHourBy : GoodIn wsX4_passHours (wsV RX4 86 RX4 yX4_passHourBy wsX4_passHourBy) := goodIn_app (goodIn_of _ (by decide +kernel)) ggX4_passHours_X4_passHourBy
theorem dX4_passHours_0 : decode cX4_passHours 0 = .ok (.iconst 0, 1) := by decide +kernel
theorem dX4_passHours_1 : decode cX4_passHours 1 = .ok (.istore_n 2, 1) := by decide +kernel
theorem dX4_passHours_2 : decode cX4_passHours 2 = .ok (.iload_n 2, 1) := by decide +kernel
theorem dX4_passHours_3 : decode cX4_passHours 3 = .ok (.iload_n 1, 1) := by decide +kernel
theorem dX4_passHours_4 : decode cX4_passHours 4 = .ok (.if_icmp .ge 25, 3) := by decide +kernel
theorem dX4_passHours_7 : decode cX4_passHours 7 = .ok (.aload_n 0, 1) := by decide +kernel
theorem dX4_passHours_8 : decode cX4_passHours 8 = .ok (.aload_n 0, 1) := by decide +kernel
theorem dX4_passHours_9 : decode cX4_passHours 9 = .ok (.getfield 21, 3) := by decide +kernel
theorem dX4_passHours_12 : decode cX4_passHours 12 = .ok (.aload_n 0, 1) := by decide +kernel
theorem dX4_passHours_13 : decode cX4_passHours 13 = .ok (.getfield 29, 3) := by decide +kernel
theorem dX4_passHours_16 : decode cX4_passHours 16 = .ok (.invokevirtual 52, 3) := by decide +kernel
theorem dX4_passHours_19 : decode cX4_passHours 19 = .ok (.invokevirtual 86, 3) := by decide +kernel
theorem dX4_passHours_22 : decode cX4_passHours 22 = .ok (.pop, 1) := by decide +kernel
theorem dX4_passHours_23 : decode cX4_passHours 23 = .ok (.iinc 2 1, 3) := by decide +kernel
theorem dX4_passHours_26 : decode cX4_passHours 26 = .ok (.goto (-24), 3) := by decide +kernel
theorem dX4_passHours_29 : decode cX4_passHours 29 = .ok (.return_, 1) := by decide +kernel
set_option maxRecDepth 20000 in
theorem ggX4_passHour_X2_rainAt : GoodIn wsX4_passHour wsX2_rainAt := goodIn_r _ [7, 8, 9, 10, 11, 12, 13, 79, 80, 81, 82, 83, 84, 85, 86, 87] (by decide +kernel) (by decide +kernel)
set_option maxRecDepth 20000 in
theorem gX4_passHour_X2_rainAt : GoodIn wsX4_passHour (wsV RX4 52 RX2 yX2_rainAt wsX2_rainAt) := goodIn_app (goodIn_of _ (by decide +kernel)) ggX4_passHour_X2_rainAt
set_option maxRecDepth 20000 in
theorem ggX4_passHour_X4_passHourBy : GoodIn wsX4_passHour wsX4_passHourBy := goodIn_r _ [18, 1, 2, 19, 20, 21, 22, 23, 24, 25, 26, 27, 6, 28, 29, 10, 11, 12, 13, 30, 31, 32, 33, 34, 35, 36, 17, 37, 38, 39, 40, 41, 42, 43, 44, 45, 46, 47, 48, 49, 50, 51, 52, 53, 54, 55, 56, 57, 58, 59, 60, 61, 62, 63, 64, 65, 66, 67, 68, 69, 70, 71, 72, 73, 74, 75, 76, 77, 78, 79, 80, 81, 82, 83, 84, 85, 86, 87] (by decide +kernel) (by decide +kernel)
set_option maxRecDepth 20000 in
theorem gX4_passHour_X4_passHourBy : GoodIn wsX4_passHour (wsV RX4 86 RX4 yX4_passHourBy wsX4_passHourBy) := goodIn_app (goodIn_of _ (by decide +kernel)) ggX4_passHour_X4_passHourBy
theorem dX4_passHour_0 : decode cX4_passHour 0 = .ok (.aload_n 0, 1) := by decide +kernel
theorem dX4_passHour_1 : decode cX4_passHour 1 = .ok (.aload_n 0, 1) := by decide +kernel
theorem dX4_passHour_2 : decode cX4_passHour 2 = .ok (.getfield 21, 3) := by decide +kernel
theorem dX4_passHour_5 : decode cX4_passHour 5 = .ok (.aload_n 0, 1) := by decide +kernel
theorem dX4_passHour_6 : decode cX4_passHour 6 = .ok (.getfield 29, 3) := by decide +kernel
theorem dX4_passHour_9 : decode cX4_passHour 9 = .ok (.invokevirtual 52, 3) := by decide +kernel
theorem dX4_passHour_12 : decode cX4_passHour 12 = .ok (.invokevirtual 86, 3) := by decide +kernel
theorem dX4_passHour_15 : decode cX4_passHour 15 = .ok (.ireturn, 1) := by decide +kernel
set_option maxRecDepth 20000 in
theorem ggX4_passHourBy_X2_sayingAt : GoodIn wsX4_passHourBy wsX2_sayingAt := goodIn_r _ [13, 14, 15, 16, 17, 18, 69, 70, 71, 72, 73, 74, 75, 76, 77] (by decide +kernel) (by decide +kernel)
set_option maxRecDepth 20000 in
theorem gX4_passHourBy_X2_sayingAt : GoodIn wsX4_passHourBy (wsV RX4 58 RX2 yX2_sayingAt wsX2_sayingAt) := goodIn_app (goodIn_of _ (by decide +kernel)) ggX4_passHourBy_X2_sayingAt
set_option maxRecDepth 20000 in
theorem ggX4_passHourBy_X2_hasSaying : GoodIn wsX4_passHourBy wsX2_hasSaying := goodIn_r _ [22, 14, 69, 70, 71, 72, 73, 74, 75, 76, 77] (by decide +kernel) (by decide +kernel)
set_option maxRecDepth 20000 in
theorem gX4_passHourBy_X2_hasSaying : GoodIn wsX4_passHourBy (wsV RX4 65 RX2 yX2_hasSaying wsX2_hasSaying) := goodIn_app (goodIn_of _ (by decide +kernel)) ggX4_passHourBy_X2_hasSaying
set_option maxRecDepth 20000 in
theorem ggX4_passHourBy_X4_housesThatHearBy : GoodIn wsX4_passHourBy wsX4_housesThatHearBy := goodIn_r _ [27, 1, 2, 28, 29, 30, 31, 32, 33, 34, 35, 36, 7, 37, 9, 10, 11, 12, 13, 14, 15, 16, 17, 18, 38, 39, 40, 26, 41, 4, 19, 20, 21, 22, 63, 64, 65, 66, 67, 68, 69, 70, 71, 72, 73, 74, 75, 76, 77] (by decide +kernel) (by decide +kernel)
set_option maxRecDepth 20000 in
theorem gX4_passHourBy_X4_housesThatHearBy : GoodIn wsX4_passHourBy (wsV RX4 55 RX4 yX4_housesThatHearBy wsX4_housesThatHearBy) := goodIn_app (goodIn_of _ (by decide +kernel)) ggX4_passHourBy_X4_housesThatHearBy
set_option maxRecDepth 20000 in
theorem ggX4_passHourBy_X4_tellAt : GoodIn wsX4_passHourBy wsX4_tellAt := goodIn_r _ [45, 1, 32, 46, 63, 64, 65, 66, 67, 68, 69, 70, 71, 72, 73, 74, 75, 76, 77] (by decide +kernel) (by decide +kernel)
set_option maxRecDepth 20000 in
theorem gX4_passHourBy_X4_tellAt : GoodIn wsX4_passHourBy (wsV RX4 92 RX4 yX4_tellAt wsX4_tellAt) := goodIn_app (goodIn_of _ (by decide +kernel)) ggX4_passHourBy_X4_tellAt
set_option maxRecDepth 20000 in
theorem ggX4_passHourBy_X4_areStrayed : GoodIn wsX4_passHourBy wsX4_areStrayed := goodIn_r _ [41, 4, 63, 64, 65, 66, 67, 68] (by decide +kernel) (by decide +kernel)
set_option maxRecDepth 20000 in
theorem gX4_passHourBy_X4_areStrayed : GoodIn wsX4_passHourBy (wsV RX4 61 RX4 yX4_areStrayed wsX4_areStrayed) := goodIn_app (goodIn_of _ (by decide +kernel)) ggX4_passHourBy_X4_areStrayed
set_option maxRecDepth 20000 in
theorem ggX4_passHourBy_X2_allHouses : GoodIn wsX4_passHourBy wsX2_allHouses := goodIn_r _ [50, 51, 69, 70, 71, 72, 73, 74, 75, 76, 77] (by decide +kernel) (by decide +kernel)
set_option maxRecDepth 20000 in
theorem gX4_passHourBy_X2_allHouses : GoodIn wsX4_passHourBy (wsV RX4 99 RX2 yX2_allHouses wsX2_allHouses) := goodIn_app (goodIn_of _ (by decide +kernel)) ggX4_passHourBy_X2_allHouses
set_option maxRecDepth 20000 in
theorem ggX4_passHourBy_X4_knownBy : GoodIn wsX4_passHourBy wsX4_knownBy := goodIn_r _ [55, 1, 32, 46, 63, 64, 65, 66, 67, 68, 69, 70, 71, 72, 73, 74, 75, 76, 77] (by decide +kernel) (by decide +kernel)
set_option maxRecDepth 20000 in
theorem gX4_passHourBy_X4_knownBy : GoodIn wsX4_passHourBy (wsV RX4 103 RX4 yX4_knownBy wsX4_knownBy) := goodIn_app (goodIn_of _ (by decide +kernel)) ggX4_passHourBy_X4_knownBy
set_option maxRecDepth 20000 in
theorem ggX4_passHourBy_J6_bitCount_0f7a4 : GoodIn wsX4_passHourBy wsJ6_bitCount_0f7a4 := goodIn_r _ [59, 60, 61, 62] (by decide +kernel) (by decide +kernel)
set_option maxRecDepth 20000 in
theorem gX4_passHourBy_J6_bitCount_0f7a4 : GoodIn wsX4_passHourBy (va_wsS RX4 46 yJ6_bitCount_0f7a4 wsJ6_bitCount_0f7a4) := goodIn_app (goodIn_of _ (by decide +kernel)) ggX4_passHourBy_J6_bitCount_0f7a4
theorem dX4_passHourBy_0 : decode cX4_passHourBy 0 = .ok (.aload_n 0, 1) := by decide +kernel
theorem dX4_passHourBy_1 : decode cX4_passHourBy 1 = .ok (.getfield 21, 3) := by decide +kernel
theorem dX4_passHourBy_4 : decode cX4_passHourBy 4 = .ok (.aload_n 0, 1) := by decide +kernel
theorem dX4_passHourBy_5 : decode cX4_passHourBy 5 = .ok (.getfield 29, 3) := by decide +kernel
theorem dX4_passHourBy_8 : decode cX4_passHourBy 8 = .ok (.invokevirtual 58, 3) := by decide +kernel
theorem dX4_passHourBy_11 : decode cX4_passHourBy 11 = .ok (.istore_n 2, 1) := by decide +kernel
theorem dX4_passHourBy_12 : decode cX4_passHourBy 12 = .ok (.iconst 0, 1) := by decide +kernel
theorem dX4_passHourBy_13 : decode cX4_passHourBy 13 = .ok (.istore_n 3, 1) := by decide +kernel
theorem dX4_passHourBy_14 : decode cX4_passHourBy 14 = .ok (.aload_n 0, 1) := by decide +kernel
theorem dX4_passHourBy_15 : decode cX4_passHourBy 15 = .ok (.getfield 21, 3) := by decide +kernel
theorem dX4_passHourBy_18 : decode cX4_passHourBy 18 = .ok (.iload_n 2, 1) := by decide +kernel
theorem dX4_passHourBy_19 : decode cX4_passHourBy 19 = .ok (.invokevirtual 65, 3) := by decide +kernel
theorem dX4_passHourBy_22 : decode cX4_passHourBy 22 = .ok (.ifCond .eq 24, 3) := by decide +kernel
theorem dX4_passHourBy_25 : decode cX4_passHourBy 25 = .ok (.aload_n 0, 1) := by decide +kernel
theorem dX4_passHourBy_26 : decode cX4_passHourBy 26 = .ok (.aload_n 0, 1) := by decide +kernel
theorem dX4_passHourBy_27 : decode cX4_passHourBy 27 = .ok (.iload_n 1, 1) := by decide +kernel
theorem dX4_passHourBy_28 : decode cX4_passHourBy 28 = .ok (.invokevirtual 55, 3) := by decide +kernel
theorem dX4_passHourBy_31 : decode cX4_passHourBy 31 = .ok (.iconst 1, 1) := by decide +kernel
theorem dX4_passHourBy_32 : decode cX4_passHourBy 32 = .ok (.aload_n 0, 1) := by decide +kernel
theorem dX4_passHourBy_33 : decode cX4_passHourBy 33 = .ok (.getfield 21, 3) := by decide +kernel
theorem dX4_passHourBy_36 : decode cX4_passHourBy 36 = .ok (.getfield 89, 3) := by decide +kernel
theorem dX4_passHourBy_39 : decode cX4_passHourBy 39 = .ok (.iload_n 2, 1) := by decide +kernel
theorem dX4_passHourBy_40 : decode cX4_passHourBy 40 = .ok (.iaload, 1) := by decide +kernel
theorem dX4_passHourBy_41 : decode cX4_passHourBy 41 = .ok (.ishl, 1) := by decide +kernel
theorem dX4_passHourBy_42 : decode cX4_passHourBy 42 = .ok (.invokevirtual 92, 3) := by decide +kernel
theorem dX4_passHourBy_45 : decode cX4_passHourBy 45 = .ok (.istore_n 3, 1) := by decide +kernel
theorem dX4_passHourBy_46 : decode cX4_passHourBy 46 = .ok (.aload_n 0, 1) := by decide +kernel
theorem dX4_passHourBy_47 : decode cX4_passHourBy 47 = .ok (.iload_n 1, 1) := by decide +kernel
theorem dX4_passHourBy_48 : decode cX4_passHourBy 48 = .ok (.ifCond .ne 17, 3) := by decide +kernel
theorem dX4_passHourBy_51 : decode cX4_passHourBy 51 = .ok (.aload_n 0, 1) := by decide +kernel
theorem dX4_passHourBy_52 : decode cX4_passHourBy 52 = .ok (.getfield 25, 3) := by decide +kernel
theorem dX4_passHourBy_55 : decode cX4_passHourBy 55 = .ok (.iconst 1, 1) := by decide +kernel
theorem dX4_passHourBy_56 : decode cX4_passHourBy 56 = .ok (.iadd, 1) := by decide +kernel
theorem dX4_passHourBy_57 : decode cX4_passHourBy 57 = .ok (.bipush 9, 2) := by decide +kernel
theorem dX4_passHourBy_59 : decode cX4_passHourBy 59 = .ok (.invokestatic 96, 3) := by decide +kernel
theorem dX4_passHourBy_62 : decode cX4_passHourBy 62 = .ok (.goto 4, 3) := by decide +kernel
theorem dX4_passHourBy_65 : decode cX4_passHourBy 65 = .ok (.iconst 0, 1) := by decide +kernel
theorem dX4_passHourBy_66 : decode cX4_passHourBy 66 = .ok (.putfield 25, 3) := by decide +kernel
theorem dX4_passHourBy_69 : decode cX4_passHourBy 69 = .ok (.aload_n 0, 1) := by decide +kernel
theorem dX4_passHourBy_70 : decode cX4_passHourBy 70 = .ok (.invokevirtual 61, 3) := by decide +kernel
theorem dX4_passHourBy_73 : decode cX4_passHourBy 73 = .ok (.ifCond .eq 27, 3) := by decide +kernel
theorem dX4_passHourBy_76 : decode cX4_passHourBy 76 = .ok (.aload_n 0, 1) := by decide +kernel
theorem dX4_passHourBy_77 : decode cX4_passHourBy 77 = .ok (.getfield 21, 3) := by decide +kernel
theorem dX4_passHourBy_80 : decode cX4_passHourBy 80 = .ok (.invokevirtual 99, 3) := by decide +kernel
theorem dX4_passHourBy_83 : decode cX4_passHourBy 83 = .ok (.istore 4, 2) := by decide +kernel
theorem dX4_passHourBy_85 : decode cX4_passHourBy 85 = .ok (.iload_n 3, 1) := by decide +kernel
theorem dX4_passHourBy_86 : decode cX4_passHourBy 86 = .ok (.aload_n 0, 1) := by decide +kernel
theorem dX4_passHourBy_87 : decode cX4_passHourBy 87 = .ok (.iload 4, 2) := by decide +kernel
theorem dX4_passHourBy_89 : decode cX4_passHourBy 89 = .ok (.aload_n 0, 1) := by decide +kernel
theorem dX4_passHourBy_90 : decode cX4_passHourBy 90 = .ok (.iload 4, 2) := by decide +kernel
theorem dX4_passHourBy_92 : decode cX4_passHourBy 92 = .ok (.invokevirtual 103, 3) := by decide +kernel
theorem dX4_passHourBy_95 : decode cX4_passHourBy 95 = .ok (.invokevirtual 92, 3) := by decide +kernel
theorem dX4_passHourBy_98 : decode cX4_passHourBy 98 = .ok (.ior, 1) := by decide +kernel
theorem dX4_passHourBy_99 : decode cX4_passHourBy 99 = .ok (.istore_n 3, 1) := by decide +kernel
theorem dX4_passHourBy_100 : decode cX4_passHourBy 100 = .ok (.aload_n 0, 1) := by decide +kernel
theorem dX4_passHourBy_101 : decode cX4_passHourBy 101 = .ok (.dup, 1) := by decide +kernel
theorem dX4_passHourBy_102 : decode cX4_passHourBy 102 = .ok (.getfield 29, 3) := by decide +kernel
theorem dX4_passHourBy_105 : decode cX4_passHourBy 105 = .ok (.iconst 1, 1) := by decide +kernel
theorem dX4_passHourBy_106 : decode cX4_passHourBy 106 = .ok (.iadd, 1) := by decide +kernel
theorem dX4_passHourBy_107 : decode cX4_passHourBy 107 = .ok (.putfield 29, 3) := by decide +kernel
theorem dX4_passHourBy_110 : decode cX4_passHourBy 110 = .ok (.iload_n 3, 1) := by decide +kernel
theorem dX4_passHourBy_111 : decode cX4_passHourBy 111 = .ok (.invokestatic 46, 3) := by decide +kernel
theorem dX4_passHourBy_114 : decode cX4_passHourBy 114 = .ok (.ireturn, 1) := by decide +kernel
theorem dX4_tellAt_0 : decode cX4_tellAt 0 = .ok (.iconst 0, 1) := by decide +kernel
theorem dX4_tellAt_1 : decode cX4_tellAt 1 = .ok (.istore_n 3, 1) := by decide +kernel
theorem dX4_tellAt_2 : decode cX4_tellAt 2 = .ok (.iconst 0, 1) := by decide +kernel
theorem dX4_tellAt_3 : decode cX4_tellAt 3 = .ok (.istore 4, 2) := by decide +kernel
theorem dX4_tellAt_5 : decode cX4_tellAt 5 = .ok (.iload 4, 2) := by decide +kernel
theorem dX4_tellAt_7 : decode cX4_tellAt 7 = .ok (.aload_n 0, 1) := by decide +kernel
theorem dX4_tellAt_8 : decode cX4_tellAt 8 = .ok (.getfield 21, 3) := by decide +kernel
theorem dX4_tellAt_11 : decode cX4_tellAt 11 = .ok (.getfield 43, 3) := by decide +kernel
theorem dX4_tellAt_14 : decode cX4_tellAt 14 = .ok (.if_icmp .ge 51, 3) := by decide +kernel
theorem dX4_tellAt_17 : decode cX4_tellAt 17 = .ok (.iload_n 1, 1) := by decide +kernel
theorem dX4_tellAt_18 : decode cX4_tellAt 18 = .ok (.iload 4, 2) := by decide +kernel
theorem dX4_tellAt_20 : decode cX4_tellAt 20 = .ok (.ishr, 1) := by decide +kernel
theorem dX4_tellAt_21 : decode cX4_tellAt 21 = .ok (.iconst 1, 1) := by decide +kernel
theorem dX4_tellAt_22 : decode cX4_tellAt 22 = .ok (.iand, 1) := by decide +kernel
theorem dX4_tellAt_23 : decode cX4_tellAt 23 = .ok (.iconst 1, 1) := by decide +kernel
theorem dX4_tellAt_24 : decode cX4_tellAt 24 = .ok (.if_icmp .ne 35, 3) := by decide +kernel
theorem dX4_tellAt_27 : decode cX4_tellAt 27 = .ok (.iload_n 2, 1) := by decide +kernel
theorem dX4_tellAt_28 : decode cX4_tellAt 28 = .ok (.aload_n 0, 1) := by decide +kernel
theorem dX4_tellAt_29 : decode cX4_tellAt 29 = .ok (.getfield 15, 3) := by decide +kernel
theorem dX4_tellAt_32 : decode cX4_tellAt 32 = .ok (.iload 4, 2) := by decide +kernel
theorem dX4_tellAt_34 : decode cX4_tellAt 34 = .ok (.iaload, 1) := by decide +kernel
theorem dX4_tellAt_35 : decode cX4_tellAt 35 = .ok (.iconst (-1), 1) := by decide +kernel
theorem dX4_tellAt_36 : decode cX4_tellAt 36 = .ok (.ixor, 1) := by decide +kernel
theorem dX4_tellAt_37 : decode cX4_tellAt 37 = .ok (.iand, 1) := by decide +kernel
theorem dX4_tellAt_38 : decode cX4_tellAt 38 = .ok (.ifCond .eq 21, 3) := by decide +kernel
theorem dX4_tellAt_41 : decode cX4_tellAt 41 = .ok (.aload_n 0, 1) := by decide +kernel
theorem dX4_tellAt_42 : decode cX4_tellAt 42 = .ok (.getfield 15, 3) := by decide +kernel
theorem dX4_tellAt_45 : decode cX4_tellAt 45 = .ok (.iload 4, 2) := by decide +kernel
theorem dX4_tellAt_47 : decode cX4_tellAt 47 = .ok (.dup2, 1) := by decide +kernel
theorem dX4_tellAt_48 : decode cX4_tellAt 48 = .ok (.iaload, 1) := by decide +kernel
theorem dX4_tellAt_49 : decode cX4_tellAt 49 = .ok (.iload_n 2, 1) := by decide +kernel
theorem dX4_tellAt_50 : decode cX4_tellAt 50 = .ok (.ior, 1) := by decide +kernel
theorem dX4_tellAt_51 : decode cX4_tellAt 51 = .ok (.iastore, 1) := by decide +kernel
theorem dX4_tellAt_52 : decode cX4_tellAt 52 = .ok (.iload_n 3, 1) := by decide +kernel
theorem dX4_tellAt_53 : decode cX4_tellAt 53 = .ok (.iconst 1, 1) := by decide +kernel
theorem dX4_tellAt_54 : decode cX4_tellAt 54 = .ok (.iload 4, 2) := by decide +kernel
theorem dX4_tellAt_56 : decode cX4_tellAt 56 = .ok (.ishl, 1) := by decide +kernel
theorem dX4_tellAt_57 : decode cX4_tellAt 57 = .ok (.ior, 1) := by decide +kernel
theorem dX4_tellAt_58 : decode cX4_tellAt 58 = .ok (.istore_n 3, 1) := by decide +kernel
theorem dX4_tellAt_59 : decode cX4_tellAt 59 = .ok (.iinc 4 1, 3) := by decide +kernel
theorem dX4_tellAt_62 : decode cX4_tellAt 62 = .ok (.goto (-57), 3) := by decide +kernel
theorem dX4_tellAt_65 : decode cX4_tellAt 65 = .ok (.iload_n 3, 1) := by decide +kernel
theorem dX4_tellAt_66 : decode cX4_tellAt 66 = .ok (.ireturn, 1) := by decide +kernel
set_option maxRecDepth 20000 in
theorem ggX4_canBeLowered_X2_hasHouse : GoodIn wsX4_canBeLowered wsX2_hasHouse := goodIn_r _ [7, 8, 15, 16, 17, 18, 19, 20, 21, 22, 23] (by decide +kernel) (by decide +kernel)
set_option maxRecDepth 20000 in
theorem gX4_canBeLowered_X2_hasHouse : GoodIn wsX4_canBeLowered (wsV RX4 106 RX2 yX2_hasHouse wsX2_hasHouse) := goodIn_app (goodIn_of _ (by decide +kernel)) ggX4_canBeLowered_X2_hasHouse
theorem dX4_canBeLowered_0 : decode cX4_canBeLowered 0 = .ok (.aload_n 0, 1) := by decide +kernel
theorem dX4_canBeLowered_1 : decode cX4_canBeLowered 1 = .ok (.getfield 21, 3) := by decide +kernel
theorem dX4_canBeLowered_4 : decode cX4_canBeLowered 4 = .ok (.iload_n 1, 1) := by decide +kernel
theorem dX4_canBeLowered_5 : decode cX4_canBeLowered 5 = .ok (.invokevirtual 106, 3) := by decide +kernel
theorem dX4_canBeLowered_8 : decode cX4_canBeLowered 8 = .ok (.ifCond .eq 18, 3) := by decide +kernel
theorem dX4_canBeLowered_11 : decode cX4_canBeLowered 11 = .ok (.aload_n 0, 1) := by decide +kernel
theorem dX4_canBeLowered_12 : decode cX4_canBeLowered 12 = .ok (.getfield 18, 3) := by decide +kernel
theorem dX4_canBeLowered_15 : decode cX4_canBeLowered 15 = .ok (.iload_n 1, 1) := by decide +kernel
theorem dX4_canBeLowered_16 : decode cX4_canBeLowered 16 = .ok (.iaload, 1) := by decide +kernel
theorem dX4_canBeLowered_17 : decode cX4_canBeLowered 17 = .ok (.bipush (-3), 2) := by decide +kernel
theorem dX4_canBeLowered_19 : decode cX4_canBeLowered 19 = .ok (.if_icmp .le 7, 3) := by decide +kernel
theorem dX4_canBeLowered_22 : decode cX4_canBeLowered 22 = .ok (.iconst 1, 1) := by decide +kernel
theorem dX4_canBeLowered_23 : decode cX4_canBeLowered 23 = .ok (.goto 4, 3) := by decide +kernel
theorem dX4_canBeLowered_26 : decode cX4_canBeLowered 26 = .ok (.iconst 0, 1) := by decide +kernel
theorem dX4_canBeLowered_27 : decode cX4_canBeLowered 27 = .ok (.ireturn, 1) := by decide +kernel
set_option maxRecDepth 20000 in
theorem ggX4_canBeRaised_X2_hasHouse : GoodIn wsX4_canBeRaised wsX2_hasHouse := goodIn_r _ [7, 8, 15, 16, 17, 18, 19, 20, 21, 22, 23] (by decide +kernel) (by decide +kernel)
set_option maxRecDepth 20000 in
theorem gX4_canBeRaised_X2_hasHouse : GoodIn wsX4_canBeRaised (wsV RX4 106 RX2 yX2_hasHouse wsX2_hasHouse) := goodIn_app (goodIn_of _ (by decide +kernel)) ggX4_canBeRaised_X2_hasHouse
theorem dX4_canBeRaised_0 : decode cX4_canBeRaised 0 = .ok (.aload_n 0, 1) := by decide +kernel
theorem dX4_canBeRaised_1 : decode cX4_canBeRaised 1 = .ok (.getfield 21, 3) := by decide +kernel
theorem dX4_canBeRaised_4 : decode cX4_canBeRaised 4 = .ok (.iload_n 1, 1) := by decide +kernel
theorem dX4_canBeRaised_5 : decode cX4_canBeRaised 5 = .ok (.invokevirtual 106, 3) := by decide +kernel
theorem dX4_canBeRaised_8 : decode cX4_canBeRaised 8 = .ok (.ifCond .eq 17, 3) := by decide +kernel
theorem dX4_canBeRaised_11 : decode cX4_canBeRaised 11 = .ok (.aload_n 0, 1) := by decide +kernel
theorem dX4_canBeRaised_12 : decode cX4_canBeRaised 12 = .ok (.getfield 18, 3) := by decide +kernel
theorem dX4_canBeRaised_15 : decode cX4_canBeRaised 15 = .ok (.iload_n 1, 1) := by decide +kernel
theorem dX4_canBeRaised_16 : decode cX4_canBeRaised 16 = .ok (.iaload, 1) := by decide +kernel
theorem dX4_canBeRaised_17 : decode cX4_canBeRaised 17 = .ok (.iconst 3, 1) := by decide +kernel
theorem dX4_canBeRaised_18 : decode cX4_canBeRaised 18 = .ok (.if_icmp .ge 7, 3) := by decide +kernel
theorem dX4_canBeRaised_21 : decode cX4_canBeRaised 21 = .ok (.iconst 1, 1) := by decide +kernel
theorem dX4_canBeRaised_22 : decode cX4_canBeRaised 22 = .ok (.goto 4, 3) := by decide +kernel
theorem dX4_canBeRaised_25 : decode cX4_canBeRaised 25 = .ok (.iconst 0, 1) := by decide +kernel
theorem dX4_canBeRaised_26 : decode cX4_canBeRaised 26 = .ok (.ireturn, 1) := by decide +kernel
set_option maxRecDepth 20000 in
theorem ggX4_tryLowered_X4_canBeLowered : GoodIn wsX4_tryLowered wsX4_canBeLowered := goodIn_r _ [6, 7, 1, 8, 9, 10, 11, 12, 13, 14, 15, 16, 17, 18, 19, 20, 21, 22, 23, 24, 25, 26, 27, 28] (by decide +kernel) (by decide +kernel)
set_option maxRecDepth 20000 in
theorem gX4_tryLowered_X4_canBeLowered : GoodIn wsX4_tryLowered (wsV RX4 109 RX4 yX4_canBeLowered wsX4_canBeLowered) := goodIn_app (goodIn_of _ (by decide +kernel)) ggX4_tryLowered_X4_canBeLowered
theorem dX4_tryLowered_0 : decode cX4_tryLowered 0 = .ok (.aload_n 0, 1) := by decide +kernel
theorem dX4_tryLowered_1 : decode cX4_tryLowered 1 = .ok (.iload_n 1, 1) := by decide +kernel
theorem dX4_tryLowered_2 : decode cX4_tryLowered 2 = .ok (.invokevirtual 109, 3) := by decide +kernel
theorem dX4_tryLowered_5 : decode cX4_tryLowered 5 = .ok (.ifCond .ne 5, 3) := by decide +kernel
theorem dX4_tryLowered_8 : decode cX4_tryLowered 8 = .ok (.iconst 0, 1) := by decide +kernel
theorem dX4_tryLowered_9 : decode cX4_tryLowered 9 = .ok (.ireturn, 1) := by decide +kernel
theorem dX4_tryLowered_10 : decode cX4_tryLowered 10 = .ok (.aload_n 0, 1) := by decide +kernel
theorem dX4_tryLowered_11 : decode cX4_tryLowered 11 = .ok (.getfield 18, 3) := by decide +kernel
theorem dX4_tryLowered_14 : decode cX4_tryLowered 14 = .ok (.iload_n 1, 1) := by decide +kernel
theorem dX4_tryLowered_15 : decode cX4_tryLowered 15 = .ok (.dup2, 1) := by decide +kernel
theorem dX4_tryLowered_16 : decode cX4_tryLowered 16 = .ok (.iaload, 1) := by decide +kernel
theorem dX4_tryLowered_17 : decode cX4_tryLowered 17 = .ok (.iconst 1, 1) := by decide +kernel
theorem dX4_tryLowered_18 : decode cX4_tryLowered 18 = .ok (.isub, 1) := by decide +kernel
theorem dX4_tryLowered_19 : decode cX4_tryLowered 19 = .ok (.iastore, 1) := by decide +kernel
theorem dX4_tryLowered_20 : decode cX4_tryLowered 20 = .ok (.iconst 1, 1) := by decide +kernel
theorem dX4_tryLowered_21 : decode cX4_tryLowered 21 = .ok (.ireturn, 1) := by decide +kernel
set_option maxRecDepth 20000 in
theorem ggX4_tryRaised_X4_canBeRaised : GoodIn wsX4_tryRaised wsX4_canBeRaised := goodIn_r _ [6, 7, 1, 8, 9, 10, 11, 12, 13, 14, 15, 16, 17, 18, 19, 20, 21, 22, 23, 24, 25, 26, 27, 28] (by decide +kernel) (by decide +kernel)
set_option maxRecDepth 20000 in
theorem gX4_tryRaised_X4_canBeRaised : GoodIn wsX4_tryRaised (wsV RX4 112 RX4 yX4_canBeRaised wsX4_canBeRaised) := goodIn_app (goodIn_of _ (by decide +kernel)) ggX4_tryRaised_X4_canBeRaised
theorem dX4_tryRaised_0 : decode cX4_tryRaised 0 = .ok (.aload_n 0, 1) := by decide +kernel
theorem dX4_tryRaised_1 : decode cX4_tryRaised 1 = .ok (.iload_n 1, 1) := by decide +kernel
theorem dX4_tryRaised_2 : decode cX4_tryRaised 2 = .ok (.invokevirtual 112, 3) := by decide +kernel
theorem dX4_tryRaised_5 : decode cX4_tryRaised 5 = .ok (.ifCond .ne 5, 3) := by decide +kernel
theorem dX4_tryRaised_8 : decode cX4_tryRaised 8 = .ok (.iconst 0, 1) := by decide +kernel
theorem dX4_tryRaised_9 : decode cX4_tryRaised 9 = .ok (.ireturn, 1) := by decide +kernel
theorem dX4_tryRaised_10 : decode cX4_tryRaised 10 = .ok (.aload_n 0, 1) := by decide +kernel
theorem dX4_tryRaised_11 : decode cX4_tryRaised 11 = .ok (.getfield 18, 3) := by decide +kernel
theorem dX4_tryRaised_14 : decode cX4_tryRaised 14 = .ok (.iload_n 1, 1) := by decide +kernel
theorem dX4_tryRaised_15 : decode cX4_tryRaised 15 = .ok (.dup2, 1) := by decide +kernel
theorem dX4_tryRaised_16 : decode cX4_tryRaised 16 = .ok (.iaload, 1) := by decide +kernel
theorem dX4_tryRaised_17 : decode cX4_tryRaised 17 = .ok (.iconst 1, 1) := by decide +kernel
theorem dX4_tryRaised_18 : decode cX4_tryRaised 18 = .ok (.iadd, 1) := by decide +kernel
theorem dX4_tryRaised_19 : decode cX4_tryRaised 19 = .ok (.iastore, 1) := by decide +kernel
theorem dX4_tryRaised_20 : decode cX4_tryRaised 20 = .ok (.iconst 1, 1) := by decide +kernel
theorem dX4_tryRaised_21 : decode cX4_tryRaised 21 = .ok (.ireturn, 1) := by decide +kernel
set_option maxRecDepth 20000 in
theorem ggX4_tryChanged_X2_hasHouse : GoodIn wsX4_tryChanged wsX2_hasHouse := goodIn_r _ [8, 9, 16, 17, 18, 19, 20, 21, 22, 23, 24] (by decide +kernel) (by decide +kernel)
set_option maxRecDepth 20000 in
theorem gX4_tryChanged_X2_hasHouse : GoodIn wsX4_tryChanged (wsV RX4 106 RX2 yX2_hasHouse wsX2_hasHouse) := goodIn_app (goodIn_of _ (by decide +kernel)) ggX4_tryChanged_X2_hasHouse
theorem dX4_tryChanged_0 : decode cX4_tryChanged 0 = .ok (.aload_n 0, 1) := by decide +kernel
theorem dX4_tryChanged_1 : decode cX4_tryChanged 1 = .ok (.getfield 21, 3) := by decide +kernel
theorem dX4_tryChanged_4 : decode cX4_tryChanged 4 = .ok (.iload_n 1, 1) := by decide +kernel
theorem dX4_tryChanged_5 : decode cX4_tryChanged 5 = .ok (.invokevirtual 106, 3) := by decide +kernel
theorem dX4_tryChanged_8 : decode cX4_tryChanged 8 = .ok (.ifCond .eq 19, 3) := by decide +kernel
theorem dX4_tryChanged_11 : decode cX4_tryChanged 11 = .ok (.aload_n 0, 1) := by decide +kernel
theorem dX4_tryChanged_12 : decode cX4_tryChanged 12 = .ok (.getfield 21, 3) := by decide +kernel
theorem dX4_tryChanged_15 : decode cX4_tryChanged 15 = .ok (.iload_n 2, 1) := by decide +kernel
theorem dX4_tryChanged_16 : decode cX4_tryChanged 16 = .ok (.invokevirtual 106, 3) := by decide +kernel
theorem dX4_tryChanged_19 : decode cX4_tryChanged 19 = .ok (.ifCond .eq 8, 3) := by decide +kernel
theorem dX4_tryChanged_22 : decode cX4_tryChanged 22 = .ok (.iload_n 1, 1) := by decide +kernel
theorem dX4_tryChanged_23 : decode cX4_tryChanged 23 = .ok (.iload_n 2, 1) := by decide +kernel
theorem dX4_tryChanged_24 : decode cX4_tryChanged 24 = .ok (.if_icmp .ne 5, 3) := by decide +kernel
theorem dX4_tryChanged_27 : decode cX4_tryChanged 27 = .ok (.iconst 0, 1) := by decide +kernel
theorem dX4_tryChanged_28 : decode cX4_tryChanged 28 = .ok (.ireturn, 1) := by decide +kernel
theorem dX4_tryChanged_29 : decode cX4_tryChanged 29 = .ok (.aload_n 0, 1) := by decide +kernel
theorem dX4_tryChanged_30 : decode cX4_tryChanged 30 = .ok (.getfield 9, 3) := by decide +kernel
theorem dX4_tryChanged_33 : decode cX4_tryChanged 33 = .ok (.iload_n 1, 1) := by decide +kernel
theorem dX4_tryChanged_34 : decode cX4_tryChanged 34 = .ok (.iaload, 1) := by decide +kernel
theorem dX4_tryChanged_35 : decode cX4_tryChanged 35 = .ok (.istore_n 3, 1) := by decide +kernel
theorem dX4_tryChanged_36 : decode cX4_tryChanged 36 = .ok (.aload_n 0, 1) := by decide +kernel
theorem dX4_tryChanged_37 : decode cX4_tryChanged 37 = .ok (.getfield 9, 3) := by decide +kernel
theorem dX4_tryChanged_40 : decode cX4_tryChanged 40 = .ok (.iload_n 1, 1) := by decide +kernel
theorem dX4_tryChanged_41 : decode cX4_tryChanged 41 = .ok (.aload_n 0, 1) := by decide +kernel
theorem dX4_tryChanged_42 : decode cX4_tryChanged 42 = .ok (.getfield 9, 3) := by decide +kernel
theorem dX4_tryChanged_45 : decode cX4_tryChanged 45 = .ok (.iload_n 2, 1) := by decide +kernel
theorem dX4_tryChanged_46 : decode cX4_tryChanged 46 = .ok (.iaload, 1) := by decide +kernel
theorem dX4_tryChanged_47 : decode cX4_tryChanged 47 = .ok (.iastore, 1) := by decide +kernel
theorem dX4_tryChanged_48 : decode cX4_tryChanged 48 = .ok (.aload_n 0, 1) := by decide +kernel
theorem dX4_tryChanged_49 : decode cX4_tryChanged 49 = .ok (.getfield 9, 3) := by decide +kernel
theorem dX4_tryChanged_52 : decode cX4_tryChanged 52 = .ok (.iload_n 2, 1) := by decide +kernel
theorem dX4_tryChanged_53 : decode cX4_tryChanged 53 = .ok (.iload_n 3, 1) := by decide +kernel
theorem dX4_tryChanged_54 : decode cX4_tryChanged 54 = .ok (.iastore, 1) := by decide +kernel
theorem dX4_tryChanged_55 : decode cX4_tryChanged 55 = .ok (.aload_n 0, 1) := by decide +kernel
theorem dX4_tryChanged_56 : decode cX4_tryChanged 56 = .ok (.getfield 15, 3) := by decide +kernel
theorem dX4_tryChanged_59 : decode cX4_tryChanged 59 = .ok (.iload_n 1, 1) := by decide +kernel
theorem dX4_tryChanged_60 : decode cX4_tryChanged 60 = .ok (.iaload, 1) := by decide +kernel
theorem dX4_tryChanged_61 : decode cX4_tryChanged 61 = .ok (.istore 4, 2) := by decide +kernel
theorem dX4_tryChanged_63 : decode cX4_tryChanged 63 = .ok (.aload_n 0, 1) := by decide +kernel
theorem dX4_tryChanged_64 : decode cX4_tryChanged 64 = .ok (.getfield 15, 3) := by decide +kernel
theorem dX4_tryChanged_67 : decode cX4_tryChanged 67 = .ok (.iload_n 1, 1) := by decide +kernel
theorem dX4_tryChanged_68 : decode cX4_tryChanged 68 = .ok (.aload_n 0, 1) := by decide +kernel
theorem dX4_tryChanged_69 : decode cX4_tryChanged 69 = .ok (.getfield 15, 3) := by decide +kernel
theorem dX4_tryChanged_72 : decode cX4_tryChanged 72 = .ok (.iload_n 2, 1) := by decide +kernel
theorem dX4_tryChanged_73 : decode cX4_tryChanged 73 = .ok (.iaload, 1) := by decide +kernel
theorem dX4_tryChanged_74 : decode cX4_tryChanged 74 = .ok (.iastore, 1) := by decide +kernel
theorem dX4_tryChanged_75 : decode cX4_tryChanged 75 = .ok (.aload_n 0, 1) := by decide +kernel
theorem dX4_tryChanged_76 : decode cX4_tryChanged 76 = .ok (.getfield 15, 3) := by decide +kernel
theorem dX4_tryChanged_79 : decode cX4_tryChanged 79 = .ok (.iload_n 2, 1) := by decide +kernel
theorem dX4_tryChanged_80 : decode cX4_tryChanged 80 = .ok (.iload 4, 2) := by decide +kernel
theorem dX4_tryChanged_82 : decode cX4_tryChanged 82 = .ok (.iastore, 1) := by decide +kernel
theorem dX4_tryChanged_83 : decode cX4_tryChanged 83 = .ok (.iconst 1, 1) := by decide +kernel
theorem dX4_tryChanged_84 : decode cX4_tryChanged 84 = .ok (.ireturn, 1) := by decide +kernel
set_option maxRecDepth 20000 in
theorem ggX4_tryPlate_X2_hasNext : GoodIn wsX4_tryPlate wsX2_hasNext := goodIn_r _ [7, 8, 15, 16, 17, 18, 19, 20, 21, 22, 23] (by decide +kernel) (by decide +kernel)
set_option maxRecDepth 20000 in
theorem gX4_tryPlate_X2_hasNext : GoodIn wsX4_tryPlate (wsV RX4 115 RX2 yX2_hasNext wsX2_hasNext) := goodIn_app (goodIn_of _ (by decide +kernel)) ggX4_tryPlate_X2_hasNext
theorem dX4_tryPlate_0 : decode cX4_tryPlate 0 = .ok (.aload_n 0, 1) := by decide +kernel
theorem dX4_tryPlate_1 : decode cX4_tryPlate 1 = .ok (.getfield 21, 3) := by decide +kernel
theorem dX4_tryPlate_4 : decode cX4_tryPlate 4 = .ok (.iload_n 1, 1) := by decide +kernel
theorem dX4_tryPlate_5 : decode cX4_tryPlate 5 = .ok (.invokevirtual 115, 3) := by decide +kernel
theorem dX4_tryPlate_8 : decode cX4_tryPlate 8 = .ok (.ifCond .ne 5, 3) := by decide +kernel
theorem dX4_tryPlate_11 : decode cX4_tryPlate 11 = .ok (.iconst 0, 1) := by decide +kernel
theorem dX4_tryPlate_12 : decode cX4_tryPlate 12 = .ok (.ireturn, 1) := by decide +kernel
theorem dX4_tryPlate_13 : decode cX4_tryPlate 13 = .ok (.aload_n 0, 1) := by decide +kernel
theorem dX4_tryPlate_14 : decode cX4_tryPlate 14 = .ok (.getfield 15, 3) := by decide +kernel
theorem dX4_tryPlate_17 : decode cX4_tryPlate 17 = .ok (.iload_n 1, 1) := by decide +kernel
theorem dX4_tryPlate_18 : decode cX4_tryPlate 18 = .ok (.iconst 1, 1) := by decide +kernel
theorem dX4_tryPlate_19 : decode cX4_tryPlate 19 = .ok (.iadd, 1) := by decide +kernel
theorem dX4_tryPlate_20 : decode cX4_tryPlate 20 = .ok (.dup2, 1) := by decide +kernel
theorem dX4_tryPlate_21 : decode cX4_tryPlate 21 = .ok (.iaload, 1) := by decide +kernel
theorem dX4_tryPlate_22 : decode cX4_tryPlate 22 = .ok (.aload_n 0, 1) := by decide +kernel
theorem dX4_tryPlate_23 : decode cX4_tryPlate 23 = .ok (.getfield 15, 3) := by decide +kernel
theorem dX4_tryPlate_26 : decode cX4_tryPlate 26 = .ok (.iload_n 1, 1) := by decide +kernel
theorem dX4_tryPlate_27 : decode cX4_tryPlate 27 = .ok (.iaload, 1) := by decide +kernel
theorem dX4_tryPlate_28 : decode cX4_tryPlate 28 = .ok (.ior, 1) := by decide +kernel
theorem dX4_tryPlate_29 : decode cX4_tryPlate 29 = .ok (.iastore, 1) := by decide +kernel
theorem dX4_tryPlate_30 : decode cX4_tryPlate 30 = .ok (.iconst 1, 1) := by decide +kernel
theorem dX4_tryPlate_31 : decode cX4_tryPlate 31 = .ok (.ireturn, 1) := by decide +kernel
set_option maxRecDepth 20000 in
theorem ggX5_init_X2_init : GoodIn wsX5_init wsX2_init := goodIn_r _ [35, 36, 2, 3, 4, 37, 38, 39, 40, 41, 42, 85, 86, 87, 88, 89, 90, 91, 92, 93] (by decide +kernel) (by decide +kernel)
set_option maxRecDepth 20000 in
theorem gX5_init_X2_init_n37 : GoodIn wsX5_init (wsX2_init) := ggX5_init_X2_init
set_option maxRecDepth 20000 in
theorem ggX5_init_X3_init : GoodIn wsX5_init wsX3_init := goodIn_r _ [44, 45, 2, 3, 46, 15, 16, 47, 4, 48, 34, 35, 36, 37, 38, 39, 40, 41, 42, 85, 86, 87, 88, 89, 90, 91, 92, 93, 94, 95, 96, 97, 98] (by decide +kernel) (by decide +kernel)
set_option maxRecDepth 20000 in
theorem gX5_init_X3_init_n44 : GoodIn wsX5_init (wsX3_init) := ggX5_init_X3_init
set_option maxRecDepth 20000 in
theorem ggX5_init_X4_init : GoodIn wsX5_init wsX4_init := goodIn_r _ [51, 52, 2, 3, 4, 53, 54, 55, 56, 99, 100, 101, 102, 103, 104] (by decide +kernel) (by decide +kernel)
set_option maxRecDepth 20000 in
theorem gX5_init_X4_init : GoodIn wsX5_init (wsX4_init) := ggX5_init_X4_init
set_option maxRecDepth 20000 in
theorem ggX5_init_X0_init : GoodIn wsX5_init wsX0_init := goodIn_r _ [59, 60, 2, 3, 61, 62, 22, 23, 63, 50, 51, 52, 4, 53, 54, 55, 56, 105, 106, 107, 99, 100, 101, 102, 103, 104] (by decide +kernel) (by decide +kernel)
set_option maxRecDepth 20000 in
theorem gX5_init_X0_init : GoodIn wsX5_init (wsX0_init) := ggX5_init_X0_init
set_option maxRecDepth 20000 in
theorem ggX5_init_X1_init : GoodIn wsX5_init wsX1_init := goodIn_r _ [65, 66, 2, 3, 4, 67, 68, 8, 69, 108, 109, 110, 111] (by decide +kernel) (by decide +kernel)
set_option maxRecDepth 20000 in
theorem gX5_init_X1_init_n68 : GoodIn wsX5_init (wsX1_init) := ggX5_init_X1_init
theorem dX5_init_0 : decode cX5_init 0 = .ok (.aload_n 0, 1) := by decide +kernel
theorem dX5_init_1 : decode cX5_init 1 = .ok (.invokespecial 1, 3) := by decide +kernel
theorem dX5_init_4 : decode cX5_init 4 = .ok (.aload_n 0, 1) := by decide +kernel
theorem dX5_init_5 : decode cX5_init 5 = .ok (.bipush 64, 2) := by decide +kernel
theorem dX5_init_7 : decode cX5_init 7 = .ok (.newarray .int, 2) := by decide +kernel
theorem dX5_init_9 : decode cX5_init 9 = .ok (.putfield 9, 3) := by decide +kernel
theorem dX5_init_12 : decode cX5_init 12 = .ok (.aload_n 0, 1) := by decide +kernel
theorem dX5_init_13 : decode cX5_init 13 = .ok (.iconst 2, 1) := by decide +kernel
theorem dX5_init_14 : decode cX5_init 14 = .ok (.anewarray 13, 3) := by decide +kernel
theorem dX5_init_17 : decode cX5_init 17 = .ok (.putfield 15, 3) := by decide +kernel
theorem dX5_init_20 : decode cX5_init 20 = .ok (.aload_n 0, 1) := by decide +kernel
theorem dX5_init_21 : decode cX5_init 21 = .ok (.iconst 2, 1) := by decide +kernel
theorem dX5_init_22 : decode cX5_init 22 = .ok (.newarray .boolean, 2) := by decide +kernel
theorem dX5_init_24 : decode cX5_init 24 = .ok (.putfield 19, 3) := by decide +kernel
theorem dX5_init_27 : decode cX5_init 27 = .ok (.aload_n 0, 1) := by decide +kernel
theorem dX5_init_28 : decode cX5_init 28 = .ok (.bipush 12, 2) := by decide +kernel
theorem dX5_init_30 : decode cX5_init 30 = .ok (.newarray .int, 2) := by decide +kernel
theorem dX5_init_32 : decode cX5_init 32 = .ok (.putfield 23, 3) := by decide +kernel
theorem dX5_init_35 : decode cX5_init 35 = .ok (.aload_n 0, 1) := by decide +kernel
theorem dX5_init_36 : decode cX5_init 36 = .ok (.iconst 5, 1) := by decide +kernel
theorem dX5_init_37 : decode cX5_init 37 = .ok (.newarray .int, 2) := by decide +kernel
theorem dX5_init_39 : decode cX5_init 39 = .ok (.putfield 26, 3) := by decide +kernel
theorem dX5_init_42 : decode cX5_init 42 = .ok (.aload_n 0, 1) := by decide +kernel
theorem dX5_init_43 : decode cX5_init 43 = .ok (.iconst 4, 1) := by decide +kernel
theorem dX5_init_44 : decode cX5_init 44 = .ok (.newarray .int, 2) := by decide +kernel
theorem dX5_init_46 : decode cX5_init 46 = .ok (.putfield 29, 3) := by decide +kernel
theorem dX5_init_49 : decode cX5_init 49 = .ok (.aload_n 0, 1) := by decide +kernel
theorem dX5_init_50 : decode cX5_init 50 = .ok (.iconst 4, 1) := by decide +kernel
theorem dX5_init_51 : decode cX5_init 51 = .ok (.newarray .int, 2) := by decide +kernel
theorem dX5_init_53 : decode cX5_init 53 = .ok (.putfield 32, 3) := by decide +kernel
theorem dX5_init_56 : decode cX5_init 56 = .ok (.aload_n 0, 1) := by decide +kernel
theorem dX5_init_57 : decode cX5_init 57 = .ok (.new 35, 3) := by decide +kernel
theorem dX5_init_60 : decode cX5_init 60 = .ok (.dup, 1) := by decide +kernel
theorem dX5_init_61 : decode cX5_init 61 = .ok (.invokespecial 37, 3) := by decide +kernel
theorem dX5_init_64 : decode cX5_init 64 = .ok (.putfield 38, 3) := by decide +kernel
theorem dX5_init_67 : decode cX5_init 67 = .ok (.aload_n 0, 1) := by decide +kernel
theorem dX5_init_68 : decode cX5_init 68 = .ok (.new 42, 3) := by decide +kernel
theorem dX5_init_71 : decode cX5_init 71 = .ok (.dup, 1) := by decide +kernel
theorem dX5_init_72 : decode cX5_init 72 = .ok (.invokespecial 44, 3) := by decide +kernel
theorem dX5_init_75 : decode cX5_init 75 = .ok (.putfield 45, 3) := by decide +kernel
theorem dX5_init_78 : decode cX5_init 78 = .ok (.aload_n 0, 1) := by decide +kernel
theorem dX5_init_79 : decode cX5_init 79 = .ok (.new 13, 3) := by decide +kernel
theorem dX5_init_82 : decode cX5_init 82 = .ok (.dup, 1) := by decide +kernel
theorem dX5_init_83 : decode cX5_init 83 = .ok (.aload_n 0, 1) := by decide +kernel
theorem dX5_init_84 : decode cX5_init 84 = .ok (.getfield 38, 3) := by decide +kernel
theorem dX5_init_87 : decode cX5_init 87 = .ok (.invokespecial 49, 3) := by decide +kernel
theorem dX5_init_90 : decode cX5_init 90 = .ok (.putfield 52, 3) := by decide +kernel
theorem dX5_init_93 : decode cX5_init 93 = .ok (.aload_n 0, 1) := by decide +kernel
theorem dX5_init_94 : decode cX5_init 94 = .ok (.new 13, 3) := by decide +kernel
theorem dX5_init_97 : decode cX5_init 97 = .ok (.dup, 1) := by decide +kernel
theorem dX5_init_98 : decode cX5_init 98 = .ok (.aload_n 0, 1) := by decide +kernel
theorem dX5_init_99 : decode cX5_init 99 = .ok (.getfield 38, 3) := by decide +kernel
theorem dX5_init_102 : decode cX5_init 102 = .ok (.invokespecial 49, 3) := by decide +kernel
theorem dX5_init_105 : decode cX5_init 105 = .ok (.putfield 56, 3) := by decide +kernel
theorem dX5_init_108 : decode cX5_init 108 = .ok (.aload_n 0, 1) := by decide +kernel
theorem dX5_init_109 : decode cX5_init 109 = .ok (.new 59, 3) := by decide +kernel
theorem dX5_init_112 : decode cX5_init 112 = .ok (.dup, 1) := by decide +kernel
theorem dX5_init_113 : decode cX5_init 113 = .ok (.aload_n 0, 1) := by decide +kernel
theorem dX5_init_114 : decode cX5_init 114 = .ok (.getfield 38, 3) := by decide +kernel
theorem dX5_init_117 : decode cX5_init 117 = .ok (.invokespecial 61, 3) := by decide +kernel
theorem dX5_init_120 : decode cX5_init 120 = .ok (.putfield 62, 3) := by decide +kernel
theorem dX5_init_123 : decode cX5_init 123 = .ok (.aload_n 0, 1) := by decide +kernel
theorem dX5_init_124 : decode cX5_init 124 = .ok (.new 66, 3) := by decide +kernel
theorem dX5_init_127 : decode cX5_init 127 = .ok (.dup, 1) := by decide +kernel
theorem dX5_init_128 : decode cX5_init 128 = .ok (.invokespecial 68, 3) := by decide +kernel
theorem dX5_init_131 : decode cX5_init 131 = .ok (.putfield 69, 3) := by decide +kernel
theorem dX5_init_134 : decode cX5_init 134 = .ok (.iconst 0, 1) := by decide +kernel
theorem dX5_init_135 : decode cX5_init 135 = .ok (.istore_n 1, 1) := by decide +kernel
theorem dX5_init_136 : decode cX5_init 136 = .ok (.iload_n 1, 1) := by decide +kernel
theorem dX5_init_137 : decode cX5_init 137 = .ok (.iconst 2, 1) := by decide +kernel
theorem dX5_init_138 : decode cX5_init 138 = .ok (.if_icmp .ge 26, 3) := by decide +kernel
theorem dX5_init_141 : decode cX5_init 141 = .ok (.aload_n 0, 1) := by decide +kernel
theorem dX5_init_142 : decode cX5_init 142 = .ok (.getfield 15, 3) := by decide +kernel
theorem dX5_init_145 : decode cX5_init 145 = .ok (.iload_n 1, 1) := by decide +kernel
theorem dX5_init_146 : decode cX5_init 146 = .ok (.new 13, 3) := by decide +kernel
theorem dX5_init_149 : decode cX5_init 149 = .ok (.dup, 1) := by decide +kernel
theorem dX5_init_150 : decode cX5_init 150 = .ok (.aload_n 0, 1) := by decide +kernel
theorem dX5_init_151 : decode cX5_init 151 = .ok (.getfield 38, 3) := by decide +kernel
theorem dX5_init_154 : decode cX5_init 154 = .ok (.invokespecial 49, 3) := by decide +kernel
theorem dX5_init_157 : decode cX5_init 157 = .ok (.aastore, 1) := by decide +kernel
theorem dX5_init_158 : decode cX5_init 158 = .ok (.iinc 1 1, 3) := by decide +kernel
theorem dX5_init_161 : decode cX5_init 161 = .ok (.goto (-25), 3) := by decide +kernel
theorem dX5_init_164 : decode cX5_init 164 = .ok (.return_, 1) := by decide +kernel
theorem dX5_write_0 : decode cX5_write 0 = .ok (.iload_n 1, 1) := by decide +kernel
theorem dX5_write_1 : decode cX5_write 1 = .ok (.ifCond .lt 10, 3) := by decide +kernel
theorem dX5_write_4 : decode cX5_write 4 = .ok (.iload_n 1, 1) := by decide +kernel
theorem dX5_write_5 : decode cX5_write 5 = .ok (.sipush 255, 3) := by decide +kernel
theorem dX5_write_8 : decode cX5_write 8 = .ok (.if_icmp .le 6, 3) := by decide +kernel
theorem dX5_write_11 : decode cX5_write 11 = .ok (.bipush (-2), 2) := by decide +kernel
theorem dX5_write_13 : decode cX5_write 13 = .ok (.ireturn, 1) := by decide +kernel
theorem dX5_write_14 : decode cX5_write 14 = .ok (.aload_n 0, 1) := by decide +kernel
theorem dX5_write_15 : decode cX5_write 15 = .ok (.getfield 73, 3) := by decide +kernel
theorem dX5_write_18 : decode cX5_write 18 = .ok (.bipush 64, 2) := by decide +kernel
theorem dX5_write_20 : decode cX5_write 20 = .ok (.if_icmp .lt 6, 3) := by decide +kernel
theorem dX5_write_23 : decode cX5_write 23 = .ok (.bipush (-4), 2) := by decide +kernel
theorem dX5_write_25 : decode cX5_write 25 = .ok (.ireturn, 1) := by decide +kernel
theorem dX5_write_26 : decode cX5_write 26 = .ok (.aload_n 0, 1) := by decide +kernel
theorem dX5_write_27 : decode cX5_write 27 = .ok (.getfield 9, 3) := by decide +kernel
theorem dX5_write_30 : decode cX5_write 30 = .ok (.aload_n 0, 1) := by decide +kernel
theorem dX5_write_31 : decode cX5_write 31 = .ok (.getfield 73, 3) := by decide +kernel
theorem dX5_write_34 : decode cX5_write 34 = .ok (.iload_n 1, 1) := by decide +kernel
theorem dX5_write_35 : decode cX5_write 35 = .ok (.iastore, 1) := by decide +kernel
theorem dX5_write_36 : decode cX5_write 36 = .ok (.aload_n 0, 1) := by decide +kernel
theorem dX5_write_37 : decode cX5_write 37 = .ok (.dup, 1) := by decide +kernel
theorem dX5_write_38 : decode cX5_write 38 = .ok (.getfield 73, 3) := by decide +kernel
theorem dX5_write_41 : decode cX5_write 41 = .ok (.iconst 1, 1) := by decide +kernel
theorem dX5_write_42 : decode cX5_write 42 = .ok (.iadd, 1) := by decide +kernel
theorem dX5_write_43 : decode cX5_write 43 = .ok (.putfield 73, 3) := by decide +kernel
theorem dX5_write_46 : decode cX5_write 46 = .ok (.aload_n 0, 1) := by decide +kernel
theorem dX5_write_47 : decode cX5_write 47 = .ok (.getfield 73, 3) := by decide +kernel
theorem dX5_write_50 : decode cX5_write 50 = .ok (.ireturn, 1) := by decide +kernel
theorem dX5_wipe_0 : decode cX5_wipe 0 = .ok (.aload_n 0, 1) := by decide +kernel
theorem dX5_wipe_1 : decode cX5_wipe 1 = .ok (.getfield 73, 3) := by decide +kernel
theorem dX5_wipe_4 : decode cX5_wipe 4 = .ok (.istore_n 1, 1) := by decide +kernel
theorem dX5_wipe_5 : decode cX5_wipe 5 = .ok (.aload_n 0, 1) := by decide +kernel
theorem dX5_wipe_6 : decode cX5_wipe 6 = .ok (.iconst 0, 1) := by decide +kernel
theorem dX5_wipe_7 : decode cX5_wipe 7 = .ok (.putfield 73, 3) := by decide +kernel
theorem dX5_wipe_10 : decode cX5_wipe 10 = .ok (.iload_n 1, 1) := by decide +kernel
theorem dX5_wipe_11 : decode cX5_wipe 11 = .ok (.ireturn, 1) := by decide +kernel
set_option maxRecDepth 20000 in
theorem ggX5_fault_X3_firstFault : GoodIn wsX5_fault wsX3_firstFault := goodIn_r _ [8, 9, 10, 11, 12, 13, 14, 15, 16, 17, 18, 19, 20, 21, 22, 7, 23, 24, 25, 26, 27, 28, 29, 30, 31, 32, 33, 34, 35, 36, 37, 38, 39, 40, 41, 42, 43, 44, 45, 46, 47, 48, 49, 50, 51, 52, 53, 54, 55, 56, 57, 58, 74, 75, 76, 77, 78, 79, 80, 81, 82, 83, 84, 85, 86, 87] (by decide +kernel) (by decide +kernel)
set_option maxRecDepth 20000 in
theorem gX5_fault_X3_firstFault : GoodIn wsX5_fault (wsV RX5 77 RX3 yX3_firstFault wsX3_firstFault) := goodIn_app (goodIn_of _ (by decide +kernel)) ggX5_fault_X3_firstFault
theorem dX5_fault_0 : decode cX5_fault 0 = .ok (.aload_n 0, 1) := by decide +kernel
theorem dX5_fault_1 : decode cX5_fault 1 = .ok (.getfield 45, 3) := by decide +kernel
theorem dX5_fault_4 : decode cX5_fault 4 = .ok (.aload_n 0, 1) := by decide +kernel
theorem dX5_fault_5 : decode cX5_fault 5 = .ok (.getfield 9, 3) := by decide +kernel
theorem dX5_fault_8 : decode cX5_fault 8 = .ok (.aload_n 0, 1) := by decide +kernel
theorem dX5_fault_9 : decode cX5_fault 9 = .ok (.getfield 73, 3) := by decide +kernel
theorem dX5_fault_12 : decode cX5_fault 12 = .ok (.invokevirtual 77, 3) := by decide +kernel
theorem dX5_fault_15 : decode cX5_fault 15 = .ok (.ireturn, 1) := by decide +kernel
set_option maxRecDepth 20000 in
theorem ggX5_lane_X3_firstFault : GoodIn wsX5_lane wsX3_firstFault := goodIn_r _ [16, 17, 18, 19, 20, 21, 22, 23, 24, 25, 26, 27, 28, 29, 30, 15, 31, 32, 33, 34, 35, 36, 37, 38, 39, 40, 41, 42, 43, 44, 45, 46, 47, 48, 49, 50, 51, 52, 53, 54, 55, 56, 57, 58, 59, 60, 61, 62, 63, 64, 65, 66, 107, 108, 109, 110, 111, 112, 113, 114, 115, 116, 117, 118, 119, 120] (by decide +kernel) (by decide +kernel)
set_option maxRecDepth 20000 in
theorem gX5_lane_X3_firstFault : GoodIn wsX5_lane (wsV RX5 77 RX3 yX3_firstFault wsX3_firstFault) := goodIn_app (goodIn_of _ (by decide +kernel)) ggX5_lane_X3_firstFault
set_option maxRecDepth 20000 in
theorem ggX5_lane_X2_take : GoodIn wsX5_lane wsX2_take := goodIn_r _ [70, 25, 26, 27, 54, 71, 72, 73, 74, 53, 59, 60, 61, 66, 112, 113, 114, 115, 116, 117, 118, 119, 120] (by decide +kernel) (by decide +kernel)
set_option maxRecDepth 20000 in
theorem gX5_lane_X2_take : GoodIn wsX5_lane (wsV RX5 84 RX2 yX2_take wsX2_take) := goodIn_app (goodIn_of _ (by decide +kernel)) ggX5_lane_X2_take
set_option maxRecDepth 20000 in
theorem ggX5_lane_X4_begin : GoodIn wsX5_lane wsX4_begin := goodIn_r _ [79, 80, 81, 82, 83, 84, 121, 122, 123, 124, 125, 126] (by decide +kernel) (by decide +kernel)
set_option maxRecDepth 20000 in
theorem gX5_lane_X4_begin : GoodIn wsX5_lane (wsV RX5 87 RX4 yX4_begin wsX4_begin) := goodIn_app (goodIn_of _ (by decide +kernel)) ggX5_lane_X4_begin
set_option maxRecDepth 20000 in
theorem ggX5_lane_X0_forget : GoodIn wsX5_lane wsX0_forget := goodIn_r _ [89, 90, 91, 127, 128, 129] (by decide +kernel) (by decide +kernel)
set_option maxRecDepth 20000 in
theorem gX5_lane_X0_forget : GoodIn wsX5_lane (wsV RX5 90 RX0 yX0_forget wsX0_forget) := goodIn_app (goodIn_of _ (by decide +kernel)) ggX5_lane_X0_forget
theorem dX5_lane_0 : decode cX5_lane 0 = .ok (.aload_n 0, 1) := by decide +kernel
theorem dX5_lane_1 : decode cX5_lane 1 = .ok (.getfield 45, 3) := by decide +kernel
theorem dX5_lane_4 : decode cX5_lane 4 = .ok (.aload_n 0, 1) := by decide +kernel
theorem dX5_lane_5 : decode cX5_lane 5 = .ok (.getfield 9, 3) := by decide +kernel
theorem dX5_lane_8 : decode cX5_lane 8 = .ok (.aload_n 0, 1) := by decide +kernel
theorem dX5_lane_9 : decode cX5_lane 9 = .ok (.getfield 73, 3) := by decide +kernel
theorem dX5_lane_12 : decode cX5_lane 12 = .ok (.invokevirtual 77, 3) := by decide +kernel
theorem dX5_lane_15 : decode cX5_lane 15 = .ok (.bipush (-9), 2) := by decide +kernel
theorem dX5_lane_17 : decode cX5_lane 17 = .ok (.if_icmp .eq 6, 3) := by decide +kernel
theorem dX5_lane_20 : decode cX5_lane 20 = .ok (.bipush (-3), 2) := by decide +kernel
theorem dX5_lane_22 : decode cX5_lane 22 = .ok (.ireturn, 1) := by decide +kernel
theorem dX5_lane_23 : decode cX5_lane 23 = .ok (.aload_n 0, 1) := by decide +kernel
theorem dX5_lane_24 : decode cX5_lane 24 = .ok (.getfield 38, 3) := by decide +kernel
theorem dX5_lane_27 : decode cX5_lane 27 = .ok (.aload_n 0, 1) := by decide +kernel
theorem dX5_lane_28 : decode cX5_lane 28 = .ok (.getfield 45, 3) := by decide +kernel
theorem dX5_lane_31 : decode cX5_lane 31 = .ok (.getfield 81, 3) := by decide +kernel
theorem dX5_lane_34 : decode cX5_lane 34 = .ok (.invokevirtual 84, 3) := by decide +kernel
theorem dX5_lane_37 : decode cX5_lane 37 = .ok (.aload_n 0, 1) := by decide +kernel
theorem dX5_lane_38 : decode cX5_lane 38 = .ok (.getfield 52, 3) := by decide +kernel
theorem dX5_lane_41 : decode cX5_lane 41 = .ok (.invokevirtual 87, 3) := by decide +kernel
theorem dX5_lane_44 : decode cX5_lane 44 = .ok (.aload_n 0, 1) := by decide +kernel
theorem dX5_lane_45 : decode cX5_lane 45 = .ok (.getfield 62, 3) := by decide +kernel
theorem dX5_lane_48 : decode cX5_lane 48 = .ok (.invokevirtual 90, 3) := by decide +kernel
theorem dX5_lane_51 : decode cX5_lane 51 = .ok (.iconst 0, 1) := by decide +kernel
theorem dX5_lane_52 : decode cX5_lane 52 = .ok (.istore_n 1, 1) := by decide +kernel
theorem dX5_lane_53 : decode cX5_lane 53 = .ok (.iload_n 1, 1) := by decide +kernel
theorem dX5_lane_54 : decode cX5_lane 54 = .ok (.iconst 2, 1) := by decide +kernel
theorem dX5_lane_55 : decode cX5_lane 55 = .ok (.if_icmp .ge 16, 3) := by decide +kernel
theorem dX5_lane_58 : decode cX5_lane 58 = .ok (.aload_n 0, 1) := by decide +kernel
theorem dX5_lane_59 : decode cX5_lane 59 = .ok (.getfield 19, 3) := by decide +kernel
theorem dX5_lane_62 : decode cX5_lane 62 = .ok (.iload_n 1, 1) := by decide +kernel
theorem dX5_lane_63 : decode cX5_lane 63 = .ok (.iconst 0, 1) := by decide +kernel
theorem dX5_lane_64 : decode cX5_lane 64 = .ok (.bastore, 1) := by decide +kernel
theorem dX5_lane_65 : decode cX5_lane 65 = .ok (.iinc 1 1, 3) := by decide +kernel
theorem dX5_lane_68 : decode cX5_lane 68 = .ok (.goto (-15), 3) := by decide +kernel
theorem dX5_lane_71 : decode cX5_lane 71 = .ok (.bipush 100, 2) := by decide +kernel
theorem dX5_lane_73 : decode cX5_lane 73 = .ok (.aload_n 0, 1) := by decide +kernel
theorem dX5_lane_74 : decode cX5_lane 74 = .ok (.getfield 38, 3) := by decide +kernel
theorem dX5_lane_77 : decode cX5_lane 77 = .ok (.getfield 93, 3) := by decide +kernel
theorem dX5_lane_80 : decode cX5_lane 80 = .ok (.imul, 1) := by decide +kernel
theorem dX5_lane_81 : decode cX5_lane 81 = .ok (.bipush 10, 2) := by decide +kernel
theorem dX5_lane_83 : decode cX5_lane 83 = .ok (.aload_n 0, 1) := by decide +kernel
theorem dX5_lane_84 : decode cX5_lane 84 = .ok (.getfield 38, 3) := by decide +kernel
theorem dX5_lane_87 : decode cX5_lane 87 = .ok (.getfield 96, 3) := by decide +kernel
theorem dX5_lane_90 : decode cX5_lane 90 = .ok (.imul, 1) := by decide +kernel
theorem dX5_lane_91 : decode cX5_lane 91 = .ok (.iadd, 1) := by decide +kernel
theorem dX5_lane_92 : decode cX5_lane 92 = .ok (.aload_n 0, 1) := by decide +kernel
theorem dX5_lane_93 : decode cX5_lane 93 = .ok (.getfield 38, 3) := by decide +kernel
theorem dX5_lane_96 : decode cX5_lane 96 = .ok (.getfield 99, 3) := by decide +kernel
theorem dX5_lane_99 : decode cX5_lane 99 = .ok (.iadd, 1) := by decide +kernel
theorem dX5_lane_100 : decode cX5_lane 100 = .ok (.ireturn, 1) := by decide +kernel
set_option maxRecDepth 20000 in
theorem ggX5_house_X2_hasHouse : GoodIn wsX5_house wsX2_hasHouse := goodIn_r _ [11, 12, 78, 79, 80, 81, 82, 83, 84, 85, 86] (by decide +kernel) (by decide +kernel)
set_option maxRecDepth 20000 in
theorem gX5_house_X2_hasHouse : GoodIn wsX5_house (wsV RX5 102 RX2 yX2_hasHouse wsX2_hasHouse) := goodIn_app (goodIn_of _ (by decide +kernel)) ggX5_house_X2_hasHouse
set_option maxRecDepth 20000 in
theorem ggX5_house_X4_kindAt : GoodIn wsX5_house wsX4_kindAt := goodIn_r _ [17, 18, 19, 20, 87, 88, 89, 90, 91, 92, 78, 79, 80, 81, 82, 83, 84, 85, 86] (by decide +kernel) (by decide +kernel)
set_option maxRecDepth 20000 in
theorem gX5_house_X4_kindAt : GoodIn wsX5_house (wsV RX5 112 RX4 yX4_kindAt wsX4_kindAt) := goodIn_app (goodIn_of _ (by decide +kernel)) ggX5_house_X4_kindAt
set_option maxRecDepth 20000 in
theorem ggX5_house_X4_housesThatHear : GoodIn wsX5_house wsX4_housesThatHear := goodIn_r _ [24, 18, 25, 26, 27, 28, 10, 29, 30, 31, 32, 33, 34, 35, 36, 37, 38, 16, 39, 40, 41, 42, 43, 44, 19, 20, 45, 46, 47, 48, 49, 50, 51, 52, 53, 54, 55, 56, 57, 58, 59, 60, 61, 62, 87, 88, 89, 90, 91, 92, 78, 79, 80, 81, 82, 83, 84, 85, 86] (by decide +kernel) (by decide +kernel)
set_option maxRecDepth 20000 in
theorem gX5_house_X4_housesThatHear : GoodIn wsX5_house (wsV RX5 122 RX4 yX4_housesThatHear wsX4_housesThatHear) := goodIn_app (goodIn_of _ (by decide +kernel)) ggX5_house_X4_housesThatHear
theorem dX5_house_0 : decode cX5_house 0 = .ok (.aload_n 0, 1) := by decide +kernel
theorem dX5_house_1 : decode cX5_house 1 = .ok (.getfield 38, 3) := by decide +kernel
theorem dX5_house_4 : decode cX5_house 4 = .ok (.iload_n 1, 1) := by decide +kernel
theorem dX5_house_5 : decode cX5_house 5 = .ok (.invokevirtual 102, 3) := by decide +kernel
theorem dX5_house_8 : decode cX5_house 8 = .ok (.ifCond .ne 5, 3) := by decide +kernel
theorem dX5_house_11 : decode cX5_house 11 = .ok (.iconst (-1), 1) := by decide +kernel
theorem dX5_house_12 : decode cX5_house 12 = .ok (.ireturn, 1) := by decide +kernel
theorem dX5_house_13 : decode cX5_house 13 = .ok (.iload_n 2, 1) := by decide +kernel
theorem dX5_house_14 : decode cX5_house 14 = .ok (.tableswitch 99 0 5 #[38, 48, 58, 67, 77, 87], 38) := by decide +kernel
theorem dX5_house_52 : decode cX5_house 52 = .ok (.aload_n 0, 1) := by decide +kernel
theorem dX5_house_53 : decode cX5_house 53 = .ok (.getfield 38, 3) := by decide +kernel
theorem dX5_house_56 : decode cX5_house 56 = .ok (.getfield 106, 3) := by decide +kernel
theorem dX5_house_59 : decode cX5_house 59 = .ok (.iload_n 1, 1) := by decide +kernel
theorem dX5_house_60 : decode cX5_house 60 = .ok (.iaload, 1) := by decide +kernel
theorem dX5_house_61 : decode cX5_house 61 = .ok (.ireturn, 1) := by decide +kernel
theorem dX5_house_62 : decode cX5_house 62 = .ok (.aload_n 0, 1) := by decide +kernel
theorem dX5_house_63 : decode cX5_house 63 = .ok (.getfield 52, 3) := by decide +kernel
theorem dX5_house_66 : decode cX5_house 66 = .ok (.getfield 109, 3) := by decide +kernel
theorem dX5_house_69 : decode cX5_house 69 = .ok (.iload_n 1, 1) := by decide +kernel
theorem dX5_house_70 : decode cX5_house 70 = .ok (.iaload, 1) := by decide +kernel
theorem dX5_house_71 : decode cX5_house 71 = .ok (.ireturn, 1) := by decide +kernel
theorem dX5_house_72 : decode cX5_house 72 = .ok (.aload_n 0, 1) := by decide +kernel
theorem dX5_house_73 : decode cX5_house 73 = .ok (.getfield 52, 3) := by decide +kernel
theorem dX5_house_76 : decode cX5_house 76 = .ok (.iload_n 1, 1) := by decide +kernel
theorem dX5_house_77 : decode cX5_house 77 = .ok (.invokevirtual 112, 3) := by decide +kernel
theorem dX5_house_80 : decode cX5_house 80 = .ok (.ireturn, 1) := by decide +kernel
theorem dX5_house_81 : decode cX5_house 81 = .ok (.aload_n 0, 1) := by decide +kernel
theorem dX5_house_82 : decode cX5_house 82 = .ok (.getfield 52, 3) := by decide +kernel
theorem dX5_house_85 : decode cX5_house 85 = .ok (.getfield 116, 3) := by decide +kernel
theorem dX5_house_88 : decode cX5_house 88 = .ok (.iload_n 1, 1) := by decide +kernel
theorem dX5_house_89 : decode cX5_house 89 = .ok (.iaload, 1) := by decide +kernel
theorem dX5_house_90 : decode cX5_house 90 = .ok (.ireturn, 1) := by decide +kernel
theorem dX5_house_91 : decode cX5_house 91 = .ok (.aload_n 0, 1) := by decide +kernel
theorem dX5_house_92 : decode cX5_house 92 = .ok (.getfield 52, 3) := by decide +kernel
theorem dX5_house_95 : decode cX5_house 95 = .ok (.getfield 119, 3) := by decide +kernel
theorem dX5_house_98 : decode cX5_house 98 = .ok (.iload_n 1, 1) := by decide +kernel
theorem dX5_house_99 : decode cX5_house 99 = .ok (.iaload, 1) := by decide +kernel
theorem dX5_house_100 : decode cX5_house 100 = .ok (.ireturn, 1) := by decide +kernel
theorem dX5_house_101 : decode cX5_house 101 = .ok (.aload_n 0, 1) := by decide +kernel
theorem dX5_house_102 : decode cX5_house 102 = .ok (.getfield 52, 3) := by decide +kernel
theorem dX5_house_105 : decode cX5_house 105 = .ok (.invokevirtual 122, 3) := by decide +kernel
theorem dX5_house_108 : decode cX5_house 108 = .ok (.iload_n 1, 1) := by decide +kernel
theorem dX5_house_109 : decode cX5_house 109 = .ok (.ishr, 1) := by decide +kernel
theorem dX5_house_110 : decode cX5_house 110 = .ok (.iconst 1, 1) := by decide +kernel
theorem dX5_house_111 : decode cX5_house 111 = .ok (.iand, 1) := by decide +kernel
theorem dX5_house_112 : decode cX5_house 112 = .ok (.ireturn, 1) := by decide +kernel
theorem dX5_house_113 : decode cX5_house 113 = .ok (.bipush (-2), 2) := by decide +kernel
theorem dX5_house_115 : decode cX5_house 115 = .ok (.ireturn, 1) := by decide +kernel
set_option maxRecDepth 20000 in
theorem ggX5_saying_X2_hasSaying : GoodIn wsX5_saying wsX2_hasSaying := goodIn_r _ [9, 10, 26, 27, 28, 29, 30, 31, 32, 33, 34] (by decide +kernel) (by decide +kernel)
set_option maxRecDepth 20000 in
theorem gX5_saying_X2_hasSaying : GoodIn wsX5_saying (wsV RX5 126 RX2 yX2_hasSaying wsX2_hasSaying) := goodIn_app (goodIn_of _ (by decide +kernel)) ggX5_saying_X2_hasSaying
theorem dX5_saying_0 : decode cX5_saying 0 = .ok (.aload_n 0, 1) := by decide +kernel
theorem dX5_saying_1 : decode cX5_saying 1 = .ok (.getfield 38, 3) := by decide +kernel
theorem dX5_saying_4 : decode cX5_saying 4 = .ok (.iload_n 1, 1) := by decide +kernel
theorem dX5_saying_5 : decode cX5_saying 5 = .ok (.invokevirtual 126, 3) := by decide +kernel
theorem dX5_saying_8 : decode cX5_saying 8 = .ok (.ifCond .ne 5, 3) := by decide +kernel
theorem dX5_saying_11 : decode cX5_saying 11 = .ok (.iconst (-1), 1) := by decide +kernel
theorem dX5_saying_12 : decode cX5_saying 12 = .ok (.ireturn, 1) := by decide +kernel
theorem dX5_saying_13 : decode cX5_saying 13 = .ok (.iload_n 2, 1) := by decide +kernel
theorem dX5_saying_14 : decode cX5_saying 14 = .ok (.tableswitch 56 0 2 #[26, 36, 46], 26) := by decide +kernel
theorem dX5_saying_40 : decode cX5_saying 40 = .ok (.aload_n 0, 1) := by decide +kernel
theorem dX5_saying_41 : decode cX5_saying 41 = .ok (.getfield 38, 3) := by decide +kernel
theorem dX5_saying_44 : decode cX5_saying 44 = .ok (.getfield 129, 3) := by decide +kernel
theorem dX5_saying_47 : decode cX5_saying 47 = .ok (.iload_n 1, 1) := by decide +kernel
theorem dX5_saying_48 : decode cX5_saying 48 = .ok (.iaload, 1) := by decide +kernel
theorem dX5_saying_49 : decode cX5_saying 49 = .ok (.ireturn, 1) := by decide +kernel
theorem dX5_saying_50 : decode cX5_saying 50 = .ok (.aload_n 0, 1) := by decide +kernel
theorem dX5_saying_51 : decode cX5_saying 51 = .ok (.getfield 38, 3) := by decide +kernel
theorem dX5_saying_54 : decode cX5_saying 54 = .ok (.getfield 132, 3) := by decide +kernel
theorem dX5_saying_57 : decode cX5_saying 57 = .ok (.iload_n 1, 1) := by decide +kernel
theorem dX5_saying_58 : decode cX5_saying 58 = .ok (.iaload, 1) := by decide +kernel
theorem dX5_saying_59 : decode cX5_saying 59 = .ok (.ireturn, 1) := by decide +kernel
theorem dX5_saying_60 : decode cX5_saying 60 = .ok (.aload_n 0, 1) := by decide +kernel
theorem dX5_saying_61 : decode cX5_saying 61 = .ok (.getfield 38, 3) := by decide +kernel
theorem dX5_saying_64 : decode cX5_saying 64 = .ok (.getfield 135, 3) := by decide +kernel
theorem dX5_saying_67 : decode cX5_saying 67 = .ok (.iload_n 1, 1) := by decide +kernel
theorem dX5_saying_68 : decode cX5_saying 68 = .ok (.iaload, 1) := by decide +kernel
theorem dX5_saying_69 : decode cX5_saying 69 = .ok (.ireturn, 1) := by decide +kernel
theorem dX5_saying_70 : decode cX5_saying 70 = .ok (.bipush (-2), 2) := by decide +kernel
theorem dX5_saying_72 : decode cX5_saying 72 = .ok (.ireturn, 1) := by decide +kernel
set_option maxRecDepth 20000 in
theorem ggX5_hour_X0_note : GoodIn wsX5_hour wsX0_note := goodIn_r _ [7, 8, 9, 10, 11, 12, 13, 14, 15, 16, 17, 18, 19, 20, 21, 22, 23, 24, 110, 111, 112, 113, 114, 115, 116, 117, 118] (by decide +kernel) (by decide +kernel)
set_option maxRecDepth 20000 in
theorem gX5_hour_X0_note : GoodIn wsX5_hour (wsV RX5 138 RX0 yX0_note wsX0_note) := goodIn_app (goodIn_of _ (by decide +kernel)) ggX5_hour_X0_note
set_option maxRecDepth 20000 in
theorem ggX5_hour_X4_passHour : GoodIn wsX5_hour wsX4_passHour := goodIn_r _ [28, 29, 24, 30, 31, 32, 33, 34, 35, 36, 37, 38, 39, 40, 41, 42, 43, 14, 44, 45, 23, 46, 47, 48, 49, 50, 51, 52, 53, 54, 55, 56, 57, 58, 59, 60, 61, 62, 63, 64, 22, 65, 66, 67, 16, 68, 69, 70, 71, 72, 73, 74, 75, 76, 77, 78, 21, 79, 80, 81, 82, 83, 84, 85, 86, 87, 88, 89, 90, 91, 92, 93, 94, 113, 114, 115, 116, 117, 118, 119, 120, 121, 122, 123, 124, 125, 126, 127] (by decide +kernel) (by decide +kernel)
set_option maxRecDepth 20000 in
theorem gX5_hour_X4_passHour : GoodIn wsX5_hour (wsV RX5 142 RX4 yX4_passHour wsX4_passHour) := goodIn_app (goodIn_of _ (by decide +kernel)) ggX5_hour_X4_passHour
theorem dX5_hour_0 : decode cX5_hour 0 = .ok (.aload_n 0, 1) := by decide +kernel
theorem dX5_hour_1 : decode cX5_hour 1 = .ok (.getfield 62, 3) := by decide +kernel
theorem dX5_hour_4 : decode cX5_hour 4 = .ok (.aload_n 0, 1) := by decide +kernel
theorem dX5_hour_5 : decode cX5_hour 5 = .ok (.getfield 52, 3) := by decide +kernel
theorem dX5_hour_8 : decode cX5_hour 8 = .ok (.invokevirtual 138, 3) := by decide +kernel
theorem dX5_hour_11 : decode cX5_hour 11 = .ok (.aload_n 0, 1) := by decide +kernel
theorem dX5_hour_12 : decode cX5_hour 12 = .ok (.getfield 52, 3) := by decide +kernel
theorem dX5_hour_15 : decode cX5_hour 15 = .ok (.invokevirtual 142, 3) := by decide +kernel
theorem dX5_hour_18 : decode cX5_hour 18 = .ok (.ireturn, 1) := by decide +kernel
set_option maxRecDepth 20000 in
theorem ggX5_lower_X2_hasHouse : GoodIn wsX5_lower wsX2_hasHouse := goodIn_r _ [9, 10, 65, 66, 67, 68, 69, 70, 71, 72, 73] (by decide +kernel) (by decide +kernel)
set_option maxRecDepth 20000 in
theorem gX5_lower_X2_hasHouse : GoodIn wsX5_lower (wsV RX5 102 RX2 yX2_hasHouse wsX2_hasHouse) := goodIn_app (goodIn_of _ (by decide +kernel)) ggX5_lower_X2_hasHouse
set_option maxRecDepth 20000 in
theorem ggX5_lower_X4_canBeLowered : GoodIn wsX5_lower wsX4_canBeLowered := goodIn_r _ [15, 16, 17, 18, 6, 7, 8, 9, 10, 59, 60, 61, 62, 63, 64, 65, 66, 67, 68, 69, 70, 71, 72, 73] (by decide +kernel) (by decide +kernel)
set_option maxRecDepth 20000 in
theorem gX5_lower_X4_canBeLowered : GoodIn wsX5_lower (wsV RX5 145 RX4 yX4_canBeLowered wsX4_canBeLowered) := goodIn_app (goodIn_of _ (by decide +kernel)) ggX5_lower_X4_canBeLowered
set_option maxRecDepth 20000 in
theorem ggX5_lower_X0_note : GoodIn wsX5_lower wsX0_note := goodIn_r _ [23, 24, 25, 26, 27, 28, 29, 14, 30, 31, 32, 33, 34, 35, 36, 17, 37, 38, 74, 75, 76, 59, 60, 61, 62, 63, 64] (by decide +kernel) (by decide +kernel)
set_option maxRecDepth 20000 in
theorem gX5_lower_X0_note : GoodIn wsX5_lower (wsV RX5 138 RX0 yX0_note wsX0_note) := goodIn_app (goodIn_of _ (by decide +kernel)) ggX5_lower_X0_note
set_option maxRecDepth 20000 in
theorem ggX5_lower_X4_tryLowered : GoodIn wsX5_lower wsX4_tryLowered := goodIn_r _ [42, 17, 43, 12, 13, 14, 15, 16, 18, 6, 7, 8, 9, 10, 59, 60, 61, 62, 63, 64, 65, 66, 67, 68, 69, 70, 71, 72, 73] (by decide +kernel) (by decide +kernel)
set_option maxRecDepth 20000 in
theorem gX5_lower_X4_tryLowered : GoodIn wsX5_lower (wsV RX5 148 RX4 yX4_tryLowered wsX4_tryLowered) := goodIn_app (goodIn_of _ (by decide +kernel)) ggX5_lower_X4_tryLowered
theorem dX5_lower_0 : decode cX5_lower 0 = .ok (.aload_n 0, 1) := by decide +kernel
theorem dX5_lower_1 : decode cX5_lower 1 = .ok (.getfield 38, 3) := by decide +kernel
theorem dX5_lower_4 : decode cX5_lower 4 = .ok (.iload_n 1, 1) := by decide +kernel
theorem dX5_lower_5 : decode cX5_lower 5 = .ok (.invokevirtual 102, 3) := by decide +kernel
theorem dX5_lower_8 : decode cX5_lower 8 = .ok (.ifCond .ne 5, 3) := by decide +kernel
theorem dX5_lower_11 : decode cX5_lower 11 = .ok (.iconst (-1), 1) := by decide +kernel
theorem dX5_lower_12 : decode cX5_lower 12 = .ok (.ireturn, 1) := by decide +kernel
theorem dX5_lower_13 : decode cX5_lower 13 = .ok (.aload_n 0, 1) := by decide +kernel
theorem dX5_lower_14 : decode cX5_lower 14 = .ok (.getfield 52, 3) := by decide +kernel
theorem dX5_lower_17 : decode cX5_lower 17 = .ok (.iload_n 1, 1) := by decide +kernel
theorem dX5_lower_18 : decode cX5_lower 18 = .ok (.invokevirtual 145, 3) := by decide +kernel
theorem dX5_lower_21 : decode cX5_lower 21 = .ok (.ifCond .ne 6, 3) := by decide +kernel
theorem dX5_lower_24 : decode cX5_lower 24 = .ok (.bipush (-3), 2) := by decide +kernel
theorem dX5_lower_26 : decode cX5_lower 26 = .ok (.ireturn, 1) := by decide +kernel
theorem dX5_lower_27 : decode cX5_lower 27 = .ok (.aload_n 0, 1) := by decide +kernel
theorem dX5_lower_28 : decode cX5_lower 28 = .ok (.getfield 62, 3) := by decide +kernel
theorem dX5_lower_31 : decode cX5_lower 31 = .ok (.aload_n 0, 1) := by decide +kernel
theorem dX5_lower_32 : decode cX5_lower 32 = .ok (.getfield 52, 3) := by decide +kernel
theorem dX5_lower_35 : decode cX5_lower 35 = .ok (.invokevirtual 138, 3) := by decide +kernel
theorem dX5_lower_38 : decode cX5_lower 38 = .ok (.aload_n 0, 1) := by decide +kernel
theorem dX5_lower_39 : decode cX5_lower 39 = .ok (.getfield 52, 3) := by decide +kernel
theorem dX5_lower_42 : decode cX5_lower 42 = .ok (.iload_n 1, 1) := by decide +kernel
theorem dX5_lower_43 : decode cX5_lower 43 = .ok (.invokevirtual 148, 3) := by decide +kernel
theorem dX5_lower_46 : decode cX5_lower 46 = .ok (.pop, 1) := by decide +kernel
theorem dX5_lower_47 : decode cX5_lower 47 = .ok (.aload_n 0, 1) := by decide +kernel
theorem dX5_lower_48 : decode cX5_lower 48 = .ok (.getfield 52, 3) := by decide +kernel
theorem dX5_lower_51 : decode cX5_lower 51 = .ok (.getfield 109, 3) := by decide +kernel
theorem dX5_lower_54 : decode cX5_lower 54 = .ok (.iload_n 1, 1) := by decide +kernel
theorem dX5_lower_55 : decode cX5_lower 55 = .ok (.iaload, 1) := by decide +kernel
theorem dX5_lower_56 : decode cX5_lower 56 = .ok (.ireturn, 1) := by decide +kernel
set_option maxRecDepth 20000 in
theorem ggX5_raise_X2_hasHouse : GoodIn wsX5_raise wsX2_hasHouse := goodIn_r _ [9, 10, 65, 66, 67, 68, 69, 70, 71, 72, 73] (by decide +kernel) (by decide +kernel)
set_option maxRecDepth 20000 in
theorem gX5_raise_X2_hasHouse : GoodIn wsX5_raise (wsV RX5 102 RX2 yX2_hasHouse wsX2_hasHouse) := goodIn_app (goodIn_of _ (by decide +kernel)) ggX5_raise_X2_hasHouse
set_option maxRecDepth 20000 in
theorem ggX5_raise_X4_canBeRaised : GoodIn wsX5_raise wsX4_canBeRaised := goodIn_r _ [15, 16, 17, 18, 6, 7, 8, 9, 10, 59, 60, 61, 62, 63, 64, 65, 66, 67, 68, 69, 70, 71, 72, 73] (by decide +kernel) (by decide +kernel)
set_option maxRecDepth 20000 in
theorem gX5_raise_X4_canBeRaised : GoodIn wsX5_raise (wsV RX5 151 RX4 yX4_canBeRaised wsX4_canBeRaised) := goodIn_app (goodIn_of _ (by decide +kernel)) ggX5_raise_X4_canBeRaised
set_option maxRecDepth 20000 in
theorem ggX5_raise_X0_note : GoodIn wsX5_raise wsX0_note := goodIn_r _ [23, 24, 25, 26, 27, 28, 29, 14, 30, 31, 32, 33, 34, 35, 36, 17, 37, 38, 74, 75, 76, 59, 60, 61, 62, 63, 64] (by decide +kernel) (by decide +kernel)
set_option maxRecDepth 20000 in
theorem gX5_raise_X0_note : GoodIn wsX5_raise (wsV RX5 138 RX0 yX0_note wsX0_note) := goodIn_app (goodIn_of _ (by decide +kernel)) ggX5_raise_X0_note
set_option maxRecDepth 20000 in
theorem ggX5_raise_X4_tryRaised : GoodIn wsX5_raise wsX4_tryRaised := goodIn_r _ [42, 17, 43, 12, 13, 14, 15, 16, 18, 6, 7, 8, 9, 10, 59, 60, 61, 62, 63, 64, 65, 66, 67, 68, 69, 70, 71, 72, 73] (by decide +kernel) (by decide +kernel)
set_option maxRecDepth 20000 in
theorem gX5_raise_X4_tryRaised : GoodIn wsX5_raise (wsV RX5 154 RX4 yX4_tryRaised wsX4_tryRaised) := goodIn_app (goodIn_of _ (by decide +kernel)) ggX5_raise_X4_tryRaised
theorem dX5_raise_0 : decode cX5_raise 0 = .ok (.aload_n 0, 1) := by decide +kernel
theorem dX5_raise_1 : decode cX5_raise 1 = .ok (.getfield 38, 3) := by decide +kernel
theorem dX5_raise_4 : decode cX5_raise 4 = .ok (.iload_n 1, 1) := by decide +kernel
theorem dX5_raise_5 : decode cX5_raise 5 = .ok (.invokevirtual 102, 3) := by decide +kernel
theorem dX5_raise_8 : decode cX5_raise 8 = .ok (.ifCond .ne 5, 3) := by decide +kernel
theorem dX5_raise_11 : decode cX5_raise 11 = .ok (.iconst (-1), 1) := by decide +kernel
theorem dX5_raise_12 : decode cX5_raise 12 = .ok (.ireturn, 1) := by decide +kernel
theorem dX5_raise_13 : decode cX5_raise 13 = .ok (.aload_n 0, 1) := by decide +kernel
theorem dX5_raise_14 : decode cX5_raise 14 = .ok (.getfield 52, 3) := by decide +kernel
theorem dX5_raise_17 : decode cX5_raise 17 = .ok (.iload_n 1, 1) := by decide +kernel
theorem dX5_raise_18 : decode cX5_raise 18 = .ok (.invokevirtual 151, 3) := by decide +kernel
theorem dX5_raise_21 : decode cX5_raise 21 = .ok (.ifCond .ne 6, 3) := by decide +kernel
theorem dX5_raise_24 : decode cX5_raise 24 = .ok (.bipush (-3), 2) := by decide +kernel
theorem dX5_raise_26 : decode cX5_raise 26 = .ok (.ireturn, 1) := by decide +kernel
theorem dX5_raise_27 : decode cX5_raise 27 = .ok (.aload_n 0, 1) := by decide +kernel
theorem dX5_raise_28 : decode cX5_raise 28 = .ok (.getfield 62, 3) := by decide +kernel
theorem dX5_raise_31 : decode cX5_raise 31 = .ok (.aload_n 0, 1) := by decide +kernel
theorem dX5_raise_32 : decode cX5_raise 32 = .ok (.getfield 52, 3) := by decide +kernel
theorem dX5_raise_35 : decode cX5_raise 35 = .ok (.invokevirtual 138, 3) := by decide +kernel
theorem dX5_raise_38 : decode cX5_raise 38 = .ok (.aload_n 0, 1) := by decide +kernel
theorem dX5_raise_39 : decode cX5_raise 39 = .ok (.getfield 52, 3) := by decide +kernel
theorem dX5_raise_42 : decode cX5_raise 42 = .ok (.iload_n 1, 1) := by decide +kernel
theorem dX5_raise_43 : decode cX5_raise 43 = .ok (.invokevirtual 154, 3) := by decide +kernel
theorem dX5_raise_46 : decode cX5_raise 46 = .ok (.pop, 1) := by decide +kernel
theorem dX5_raise_47 : decode cX5_raise 47 = .ok (.aload_n 0, 1) := by decide +kernel
theorem dX5_raise_48 : decode cX5_raise 48 = .ok (.getfield 52, 3) := by decide +kernel
theorem dX5_raise_51 : decode cX5_raise 51 = .ok (.getfield 109, 3) := by decide +kernel
theorem dX5_raise_54 : decode cX5_raise 54 = .ok (.iload_n 1, 1) := by decide +kernel
theorem dX5_raise_55 : decode cX5_raise 55 = .ok (.iaload, 1) := by decide +kernel
theorem dX5_raise_56 : decode cX5_raise 56 = .ok (.ireturn, 1) := by decide +kernel
set_option maxRecDepth 20000 in
theorem ggX5_change_X2_hasHouse : GoodIn wsX5_change wsX2_hasHouse := goodIn_r _ [9, 10, 60, 61, 62, 63, 64, 65, 66, 67, 68] (by decide +kernel) (by decide +kernel)
set_option maxRecDepth 20000 in
theorem gX5_change_X2_hasHouse : GoodIn wsX5_change (wsV RX5 102 RX2 yX2_hasHouse wsX2_hasHouse) := goodIn_app (goodIn_of _ (by decide +kernel)) ggX5_change_X2_hasHouse
set_option maxRecDepth 20000 in
theorem ggX5_change_X0_note : GoodIn wsX5_change wsX0_note := goodIn_r _ [15, 16, 17, 18, 19, 20, 21, 22, 23, 24, 25, 26, 27, 28, 29, 30, 31, 32, 69, 70, 71, 54, 55, 56, 57, 58, 59] (by decide +kernel) (by decide +kernel)
set_option maxRecDepth 20000 in
theorem gX5_change_X0_note : GoodIn wsX5_change (wsV RX5 138 RX0 yX0_note wsX0_note) := goodIn_app (goodIn_of _ (by decide +kernel)) ggX5_change_X0_note
set_option maxRecDepth 20000 in
theorem ggX5_change_X4_tryChanged : GoodIn wsX5_change wsX4_tryChanged := goodIn_r _ [36, 37, 24, 29, 38, 6, 7, 8, 9, 10, 54, 55, 56, 57, 58, 59, 60, 61, 62, 63, 64, 65, 66, 67, 68] (by decide +kernel) (by decide +kernel)
set_option maxRecDepth 20000 in
theorem gX5_change_X4_tryChanged : GoodIn wsX5_change (wsV RX5 157 RX4 yX4_tryChanged wsX4_tryChanged) := goodIn_app (goodIn_of _ (by decide +kernel)) ggX5_change_X4_tryChanged
theorem dX5_change_0 : decode cX5_change 0 = .ok (.aload_n 0, 1) := by decide +kernel
theorem dX5_change_1 : decode cX5_change 1 = .ok (.getfield 38, 3) := by decide +kernel
theorem dX5_change_4 : decode cX5_change 4 = .ok (.iload_n 1, 1) := by decide +kernel
theorem dX5_change_5 : decode cX5_change 5 = .ok (.invokevirtual 102, 3) := by decide +kernel
theorem dX5_change_8 : decode cX5_change 8 = .ok (.ifCond .eq 14, 3) := by decide +kernel
theorem dX5_change_11 : decode cX5_change 11 = .ok (.aload_n 0, 1) := by decide +kernel
theorem dX5_change_12 : decode cX5_change 12 = .ok (.getfield 38, 3) := by decide +kernel
theorem dX5_change_15 : decode cX5_change 15 = .ok (.iload_n 2, 1) := by decide +kernel
theorem dX5_change_16 : decode cX5_change 16 = .ok (.invokevirtual 102, 3) := by decide +kernel
theorem dX5_change_19 : decode cX5_change 19 = .ok (.ifCond .ne 5, 3) := by decide +kernel
theorem dX5_change_22 : decode cX5_change 22 = .ok (.iconst (-1), 1) := by decide +kernel
theorem dX5_change_23 : decode cX5_change 23 = .ok (.ireturn, 1) := by decide +kernel
theorem dX5_change_24 : decode cX5_change 24 = .ok (.iload_n 1, 1) := by decide +kernel
theorem dX5_change_25 : decode cX5_change 25 = .ok (.iload_n 2, 1) := by decide +kernel
theorem dX5_change_26 : decode cX5_change 26 = .ok (.if_icmp .ne 6, 3) := by decide +kernel
theorem dX5_change_29 : decode cX5_change 29 = .ok (.bipush (-2), 2) := by decide +kernel
theorem dX5_change_31 : decode cX5_change 31 = .ok (.ireturn, 1) := by decide +kernel
theorem dX5_change_32 : decode cX5_change 32 = .ok (.aload_n 0, 1) := by decide +kernel
theorem dX5_change_33 : decode cX5_change 33 = .ok (.getfield 62, 3) := by decide +kernel
theorem dX5_change_36 : decode cX5_change 36 = .ok (.aload_n 0, 1) := by decide +kernel
theorem dX5_change_37 : decode cX5_change 37 = .ok (.getfield 52, 3) := by decide +kernel
theorem dX5_change_40 : decode cX5_change 40 = .ok (.invokevirtual 138, 3) := by decide +kernel
theorem dX5_change_43 : decode cX5_change 43 = .ok (.aload_n 0, 1) := by decide +kernel
theorem dX5_change_44 : decode cX5_change 44 = .ok (.getfield 52, 3) := by decide +kernel
theorem dX5_change_47 : decode cX5_change 47 = .ok (.iload_n 1, 1) := by decide +kernel
theorem dX5_change_48 : decode cX5_change 48 = .ok (.iload_n 2, 1) := by decide +kernel
theorem dX5_change_49 : decode cX5_change 49 = .ok (.invokevirtual 157, 3) := by decide +kernel
theorem dX5_change_52 : decode cX5_change 52 = .ok (.pop, 1) := by decide +kernel
theorem dX5_change_53 : decode cX5_change 53 = .ok (.aload_n 0, 1) := by decide +kernel
theorem dX5_change_54 : decode cX5_change 54 = .ok (.getfield 52, 3) := by decide +kernel
theorem dX5_change_57 : decode cX5_change 57 = .ok (.getfield 116, 3) := by decide +kernel
theorem dX5_change_60 : decode cX5_change 60 = .ok (.iload_n 1, 1) := by decide +kernel
theorem dX5_change_61 : decode cX5_change 61 = .ok (.iaload, 1) := by decide +kernel
theorem dX5_change_62 : decode cX5_change 62 = .ok (.ireturn, 1) := by decide +kernel
set_option maxRecDepth 20000 in
theorem ggX5_plate_X2_hasHouse : GoodIn wsX5_plate wsX2_hasHouse := goodIn_r _ [9, 10, 64, 65, 66, 67, 68, 69, 70, 71, 72] (by decide +kernel) (by decide +kernel)
set_option maxRecDepth 20000 in
theorem gX5_plate_X2_hasHouse : GoodIn wsX5_plate (wsV RX5 102 RX2 yX2_hasHouse wsX2_hasHouse) := goodIn_app (goodIn_of _ (by decide +kernel)) ggX5_plate_X2_hasHouse
set_option maxRecDepth 20000 in
theorem ggX5_plate_X2_hasNext : GoodIn wsX5_plate wsX2_hasNext := goodIn_r _ [14, 10, 64, 65, 66, 67, 68, 69, 70, 71, 72] (by decide +kernel) (by decide +kernel)
set_option maxRecDepth 20000 in
theorem gX5_plate_X2_hasNext : GoodIn wsX5_plate (wsV RX5 161 RX2 yX2_hasNext wsX2_hasNext) := goodIn_app (goodIn_of _ (by decide +kernel)) ggX5_plate_X2_hasNext
set_option maxRecDepth 20000 in
theorem ggX5_plate_X0_note : GoodIn wsX5_plate wsX0_note := goodIn_r _ [19, 20, 21, 22, 23, 24, 25, 26, 27, 28, 29, 30, 31, 32, 33, 34, 35, 36, 73, 74, 75, 58, 59, 60, 61, 62, 63] (by decide +kernel) (by decide +kernel)
set_option maxRecDepth 20000 in
theorem gX5_plate_X0_note : GoodIn wsX5_plate (wsV RX5 138 RX0 yX0_note wsX0_note) := goodIn_app (goodIn_of _ (by decide +kernel)) ggX5_plate_X0_note
set_option maxRecDepth 20000 in
theorem ggX5_plate_X4_tryPlate : GoodIn wsX5_plate wsX4_tryPlate := goodIn_r _ [40, 41, 33, 42, 12, 13, 8, 14, 10, 58, 59, 60, 61, 62, 63, 64, 65, 66, 67, 68, 69, 70, 71, 72] (by decide +kernel) (by decide +kernel)
set_option maxRecDepth 20000 in
theorem gX5_plate_X4_tryPlate : GoodIn wsX5_plate (wsV RX5 164 RX4 yX4_tryPlate wsX4_tryPlate) := goodIn_app (goodIn_of _ (by decide +kernel)) ggX5_plate_X4_tryPlate
theorem dX5_plate_0 : decode cX5_plate 0 = .ok (.aload_n 0, 1) := by decide +kernel
theorem dX5_plate_1 : decode cX5_plate 1 = .ok (.getfield 38, 3) := by decide +kernel
theorem dX5_plate_4 : decode cX5_plate 4 = .ok (.iload_n 1, 1) := by decide +kernel
theorem dX5_plate_5 : decode cX5_plate 5 = .ok (.invokevirtual 102, 3) := by decide +kernel
theorem dX5_plate_8 : decode cX5_plate 8 = .ok (.ifCond .ne 5, 3) := by decide +kernel
theorem dX5_plate_11 : decode cX5_plate 11 = .ok (.iconst (-1), 1) := by decide +kernel
theorem dX5_plate_12 : decode cX5_plate 12 = .ok (.ireturn, 1) := by decide +kernel
theorem dX5_plate_13 : decode cX5_plate 13 = .ok (.aload_n 0, 1) := by decide +kernel
theorem dX5_plate_14 : decode cX5_plate 14 = .ok (.getfield 38, 3) := by decide +kernel
theorem dX5_plate_17 : decode cX5_plate 17 = .ok (.iload_n 1, 1) := by decide +kernel
theorem dX5_plate_18 : decode cX5_plate 18 = .ok (.invokevirtual 161, 3) := by decide +kernel
theorem dX5_plate_21 : decode cX5_plate 21 = .ok (.ifCond .ne 6, 3) := by decide +kernel
theorem dX5_plate_24 : decode cX5_plate 24 = .ok (.bipush (-3), 2) := by decide +kernel
theorem dX5_plate_26 : decode cX5_plate 26 = .ok (.ireturn, 1) := by decide +kernel
theorem dX5_plate_27 : decode cX5_plate 27 = .ok (.aload_n 0, 1) := by decide +kernel
theorem dX5_plate_28 : decode cX5_plate 28 = .ok (.getfield 62, 3) := by decide +kernel
theorem dX5_plate_31 : decode cX5_plate 31 = .ok (.aload_n 0, 1) := by decide +kernel
theorem dX5_plate_32 : decode cX5_plate 32 = .ok (.getfield 52, 3) := by decide +kernel
theorem dX5_plate_35 : decode cX5_plate 35 = .ok (.invokevirtual 138, 3) := by decide +kernel
theorem dX5_plate_38 : decode cX5_plate 38 = .ok (.aload_n 0, 1) := by decide +kernel
theorem dX5_plate_39 : decode cX5_plate 39 = .ok (.getfield 52, 3) := by decide +kernel
theorem dX5_plate_42 : decode cX5_plate 42 = .ok (.iload_n 1, 1) := by decide +kernel
theorem dX5_plate_43 : decode cX5_plate 43 = .ok (.invokevirtual 164, 3) := by decide +kernel
theorem dX5_plate_46 : decode cX5_plate 46 = .ok (.pop, 1) := by decide +kernel
theorem dX5_plate_47 : decode cX5_plate 47 = .ok (.aload_n 0, 1) := by decide +kernel
theorem dX5_plate_48 : decode cX5_plate 48 = .ok (.getfield 52, 3) := by decide +kernel
theorem dX5_plate_51 : decode cX5_plate 51 = .ok (.getfield 116, 3) := by decide +kernel
theorem dX5_plate_54 : decode cX5_plate 54 = .ok (.iload_n 1, 1) := by decide +kernel
theorem dX5_plate_55 : decode cX5_plate 55 = .ok (.iconst 1, 1) := by decide +kernel
theorem dX5_plate_56 : decode cX5_plate 56 = .ok (.iadd, 1) := by decide +kernel
theorem dX5_plate_57 : decode cX5_plate 57 = .ok (.iaload, 1) := by decide +kernel
theorem dX5_plate_58 : decode cX5_plate 58 = .ok (.ireturn, 1) := by decide +kernel
set_option maxRecDepth 20000 in
theorem ggX5_undo_X0_takeBack : GoodIn wsX5_undo wsX0_takeBack := goodIn_r _ [8, 9, 10, 11, 12, 13, 14, 15, 16, 17, 18, 19, 20, 21, 22, 23, 24, 25, 41, 42, 43, 44, 45, 46, 47, 48, 49] (by decide +kernel) (by decide +kernel)
set_option maxRecDepth 20000 in
theorem gX5_undo_X0_takeBack : GoodIn wsX5_undo (wsV RX5 170 RX0 yX0_takeBack wsX0_takeBack) := goodIn_app (goodIn_of _ (by decide +kernel)) ggX5_undo_X0_takeBack
theorem dX5_undo_0 : decode cX5_undo 0 = .ok (.aload_n 0, 1) := by decide +kernel
theorem dX5_undo_1 : decode cX5_undo 1 = .ok (.getfield 62, 3) := by decide +kernel
theorem dX5_undo_4 : decode cX5_undo 4 = .ok (.getfield 167, 3) := by decide +kernel
theorem dX5_undo_7 : decode cX5_undo 7 = .ok (.ifCond .ne 6, 3) := by decide +kernel
theorem dX5_undo_10 : decode cX5_undo 10 = .ok (.bipush (-3), 2) := by decide +kernel
theorem dX5_undo_12 : decode cX5_undo 12 = .ok (.ireturn, 1) := by decide +kernel
theorem dX5_undo_13 : decode cX5_undo 13 = .ok (.aload_n 0, 1) := by decide +kernel
theorem dX5_undo_14 : decode cX5_undo 14 = .ok (.getfield 62, 3) := by decide +kernel
theorem dX5_undo_17 : decode cX5_undo 17 = .ok (.aload_n 0, 1) := by decide +kernel
theorem dX5_undo_18 : decode cX5_undo 18 = .ok (.getfield 52, 3) := by decide +kernel
theorem dX5_undo_21 : decode cX5_undo 21 = .ok (.invokevirtual 170, 3) := by decide +kernel
theorem dX5_undo_24 : decode cX5_undo 24 = .ok (.aload_n 0, 1) := by decide +kernel
theorem dX5_undo_25 : decode cX5_undo 25 = .ok (.getfield 62, 3) := by decide +kernel
theorem dX5_undo_28 : decode cX5_undo 28 = .ok (.getfield 167, 3) := by decide +kernel
theorem dX5_undo_31 : decode cX5_undo 31 = .ok (.ireturn, 1) := by decide +kernel
set_option maxRecDepth 20000 in
theorem ggX5_later_X2_hasHouse : GoodIn wsX5_later wsX2_hasHouse := goodIn_r _ [9, 10, 114, 115, 116, 117, 118, 119, 120, 121, 122] (by decide +kernel) (by decide +kernel)
set_option maxRecDepth 20000 in
theorem gX5_later_X2_hasHouse : GoodIn wsX5_later (wsV RX5 102 RX2 yX2_hasHouse wsX2_hasHouse) := goodIn_app (goodIn_of _ (by decide +kernel)) ggX5_later_X2_hasHouse
set_option maxRecDepth 20000 in
theorem ggX5_later_X4_take : GoodIn wsX5_later wsX4_take := goodIn_r _ [15, 16, 17, 18, 19, 20, 21, 22, 23, 24, 108, 109, 110, 111, 112, 113] (by decide +kernel) (by decide +kernel)
set_option maxRecDepth 20000 in
theorem gX5_later_X4_take : GoodIn wsX5_later (wsV RX5 173 RX4 yX4_take wsX4_take) := goodIn_app (goodIn_of _ (by decide +kernel)) ggX5_later_X4_take
set_option maxRecDepth 20000 in
theorem ggX5_later_X4_passHours : GoodIn wsX5_later wsX4_passHours := goodIn_r _ [28, 29, 24, 30, 31, 32, 8, 33, 34, 35, 36, 37, 38, 39, 40, 41, 42, 14, 43, 44, 23, 45, 46, 47, 48, 49, 50, 51, 52, 53, 54, 55, 56, 57, 58, 59, 60, 61, 62, 63, 22, 64, 65, 66, 16, 67, 68, 69, 70, 71, 72, 73, 74, 75, 76, 77, 21, 78, 79, 80, 81, 10, 82, 83, 84, 85, 86, 87, 88, 89, 90, 91, 92, 108, 109, 110, 111, 112, 113, 114, 115, 116, 117, 118, 119, 120, 121, 122] (by decide +kernel) (by decide +kernel)
set_option maxRecDepth 20000 in
theorem gX5_later_X4_passHours : GoodIn wsX5_later (wsV RX5 175 RX4 yX4_passHours wsX4_passHours) := goodIn_app (goodIn_of _ (by decide +kernel)) ggX5_later_X4_passHours
theorem dX5_later_0 : decode cX5_later 0 = .ok (.aload_n 0, 1) := by decide +kernel
theorem dX5_later_1 : decode cX5_later 1 = .ok (.getfield 38, 3) := by decide +kernel
theorem dX5_later_4 : decode cX5_later 4 = .ok (.iload_n 1, 1) := by decide +kernel
theorem dX5_later_5 : decode cX5_later 5 = .ok (.invokevirtual 102, 3) := by decide +kernel
theorem dX5_later_8 : decode cX5_later 8 = .ok (.ifCond .ne 5, 3) := by decide +kernel
theorem dX5_later_11 : decode cX5_later 11 = .ok (.iconst (-1), 1) := by decide +kernel
theorem dX5_later_12 : decode cX5_later 12 = .ok (.ireturn, 1) := by decide +kernel
theorem dX5_later_13 : decode cX5_later 13 = .ok (.iload_n 2, 1) := by decide +kernel
theorem dX5_later_14 : decode cX5_later 14 = .ok (.ifCond .lt 9, 3) := by decide +kernel
theorem dX5_later_17 : decode cX5_later 17 = .ok (.iload_n 2, 1) := by decide +kernel
theorem dX5_later_18 : decode cX5_later 18 = .ok (.bipush 30, 2) := by decide +kernel
theorem dX5_later_20 : decode cX5_later 20 = .ok (.if_icmp .le 6, 3) := by decide +kernel
theorem dX5_later_23 : decode cX5_later 23 = .ok (.bipush (-2), 2) := by decide +kernel
theorem dX5_later_25 : decode cX5_later 25 = .ok (.ireturn, 1) := by decide +kernel
theorem dX5_later_26 : decode cX5_later 26 = .ok (.aload_n 0, 1) := by decide +kernel
theorem dX5_later_27 : decode cX5_later 27 = .ok (.getfield 56, 3) := by decide +kernel
theorem dX5_later_30 : decode cX5_later 30 = .ok (.aload_n 0, 1) := by decide +kernel
theorem dX5_later_31 : decode cX5_later 31 = .ok (.getfield 52, 3) := by decide +kernel
theorem dX5_later_34 : decode cX5_later 34 = .ok (.invokevirtual 173, 3) := by decide +kernel
theorem dX5_later_37 : decode cX5_later 37 = .ok (.aload_n 0, 1) := by decide +kernel
theorem dX5_later_38 : decode cX5_later 38 = .ok (.getfield 56, 3) := by decide +kernel
theorem dX5_later_41 : decode cX5_later 41 = .ok (.iload_n 2, 1) := by decide +kernel
theorem dX5_later_42 : decode cX5_later 42 = .ok (.invokevirtual 175, 3) := by decide +kernel
theorem dX5_later_45 : decode cX5_later 45 = .ok (.aload_n 0, 1) := by decide +kernel
theorem dX5_later_46 : decode cX5_later 46 = .ok (.getfield 56, 3) := by decide +kernel
theorem dX5_later_49 : decode cX5_later 49 = .ok (.getfield 116, 3) := by decide +kernel
theorem dX5_later_52 : decode cX5_later 52 = .ok (.iload_n 1, 1) := by decide +kernel
theorem dX5_later_53 : decode cX5_later 53 = .ok (.iaload, 1) := by decide +kernel
theorem dX5_later_54 : decode cX5_later 54 = .ok (.ireturn, 1) := by decide +kernel
set_option maxRecDepth 20000 in
theorem ggX5_first_X2_hasHouse : GoodIn wsX5_first wsX2_hasHouse := goodIn_r _ [8, 9, 115, 116, 117, 118, 119, 120, 121, 122, 123] (by decide +kernel) (by decide +kernel)
set_option maxRecDepth 20000 in
theorem gX5_first_X2_hasHouse : GoodIn wsX5_first (wsV RX5 102 RX2 yX2_hasHouse wsX2_hasHouse) := goodIn_app (goodIn_of _ (by decide +kernel)) ggX5_first_X2_hasHouse
set_option maxRecDepth 20000 in
theorem ggX5_first_X5_isThing : GoodIn wsX5_first wsX5_isThing := goodIn_r _ [13] (by decide +kernel) (by decide +kernel)
set_option maxRecDepth 20000 in
theorem gX5_first_X5_isThing : GoodIn wsX5_first (va_wsS RX5 179 yX5_isThing wsX5_isThing) := goodIn_app (goodIn_of _ (by decide +kernel)) ggX5_first_X5_isThing
set_option maxRecDepth 20000 in
theorem ggX5_first_X4_take : GoodIn wsX5_first wsX4_take := goodIn_r _ [18, 19, 20, 21, 22, 23, 24, 25, 26, 27, 124, 125, 126, 127, 128, 129] (by decide +kernel) (by decide +kernel)
set_option maxRecDepth 20000 in
theorem gX5_first_X4_take : GoodIn wsX5_first (wsV RX5 173 RX4 yX4_take wsX4_take) := goodIn_app (goodIn_of _ (by decide +kernel)) ggX5_first_X4_take
set_option maxRecDepth 20000 in
theorem ggX5_first_X4_knowsThing : GoodIn wsX5_first wsX4_knowsThing := goodIn_r _ [31, 24, 124, 125, 126, 127, 128, 129] (by decide +kernel) (by decide +kernel)
set_option maxRecDepth 20000 in
theorem gX5_first_X4_knowsThing : GoodIn wsX5_first (wsV RX5 182 RX4 yX4_knowsThing wsX4_knowsThing) := goodIn_app (goodIn_of _ (by decide +kernel)) ggX5_first_X4_knowsThing
set_option maxRecDepth 20000 in
theorem ggX5_first_X4_passHour : GoodIn wsX5_first wsX4_passHour := goodIn_r _ [35, 36, 27, 37, 38, 39, 7, 40, 41, 42, 43, 44, 45, 46, 47, 48, 49, 17, 50, 51, 26, 52, 53, 54, 55, 56, 57, 58, 59, 60, 61, 62, 63, 64, 65, 66, 67, 68, 69, 70, 25, 71, 72, 73, 19, 74, 75, 76, 77, 78, 79, 80, 81, 82, 83, 84, 24, 85, 86, 87, 88, 9, 89, 90, 91, 92, 93, 94, 95, 96, 97, 98, 99, 124, 125, 126, 127, 128, 129, 115, 116, 117, 118, 119, 120, 121, 122, 123] (by decide +kernel) (by decide +kernel)
set_option maxRecDepth 20000 in
theorem gX5_first_X4_passHour : GoodIn wsX5_first (wsV RX5 142 RX4 yX4_passHour wsX4_passHour) := goodIn_app (goodIn_of _ (by decide +kernel)) ggX5_first_X4_passHour
theorem dX5_first_0 : decode cX5_first 0 = .ok (.aload_n 0, 1) := by decide +kernel
theorem dX5_first_1 : decode cX5_first 1 = .ok (.getfield 38, 3) := by decide +kernel
theorem dX5_first_4 : decode cX5_first 4 = .ok (.iload_n 1, 1) := by decide +kernel
theorem dX5_first_5 : decode cX5_first 5 = .ok (.invokevirtual 102, 3) := by decide +kernel
theorem dX5_first_8 : decode cX5_first 8 = .ok (.ifCond .eq 10, 3) := by decide +kernel
theorem dX5_first_11 : decode cX5_first 11 = .ok (.iload_n 2, 1) := by decide +kernel
theorem dX5_first_12 : decode cX5_first 12 = .ok (.invokestatic 179, 3) := by decide +kernel
theorem dX5_first_15 : decode cX5_first 15 = .ok (.ifCond .ne 5, 3) := by decide +kernel
theorem dX5_first_18 : decode cX5_first 18 = .ok (.iconst (-1), 1) := by decide +kernel
theorem dX5_first_19 : decode cX5_first 19 = .ok (.ireturn, 1) := by decide +kernel
theorem dX5_first_20 : decode cX5_first 20 = .ok (.aload_n 0, 1) := by decide +kernel
theorem dX5_first_21 : decode cX5_first 21 = .ok (.getfield 56, 3) := by decide +kernel
theorem dX5_first_24 : decode cX5_first 24 = .ok (.aload_n 0, 1) := by decide +kernel
theorem dX5_first_25 : decode cX5_first 25 = .ok (.getfield 52, 3) := by decide +kernel
theorem dX5_first_28 : decode cX5_first 28 = .ok (.invokevirtual 173, 3) := by decide +kernel
theorem dX5_first_31 : decode cX5_first 31 = .ok (.iconst 0, 1) := by decide +kernel
theorem dX5_first_32 : decode cX5_first 32 = .ok (.istore_n 3, 1) := by decide +kernel
theorem dX5_first_33 : decode cX5_first 33 = .ok (.iload_n 3, 1) := by decide +kernel
theorem dX5_first_34 : decode cX5_first 34 = .ok (.bipush 30, 2) := by decide +kernel
theorem dX5_first_36 : decode cX5_first 36 = .ok (.if_icmp .gt 31, 3) := by decide +kernel
theorem dX5_first_39 : decode cX5_first 39 = .ok (.aload_n 0, 1) := by decide +kernel
theorem dX5_first_40 : decode cX5_first 40 = .ok (.getfield 56, 3) := by decide +kernel
theorem dX5_first_43 : decode cX5_first 43 = .ok (.iload_n 1, 1) := by decide +kernel
theorem dX5_first_44 : decode cX5_first 44 = .ok (.iload_n 2, 1) := by decide +kernel
theorem dX5_first_45 : decode cX5_first 45 = .ok (.invokevirtual 182, 3) := by decide +kernel
theorem dX5_first_48 : decode cX5_first 48 = .ok (.ifCond .eq 5, 3) := by decide +kernel
theorem dX5_first_51 : decode cX5_first 51 = .ok (.iload_n 3, 1) := by decide +kernel
theorem dX5_first_52 : decode cX5_first 52 = .ok (.ireturn, 1) := by decide +kernel
theorem dX5_first_53 : decode cX5_first 53 = .ok (.aload_n 0, 1) := by decide +kernel
theorem dX5_first_54 : decode cX5_first 54 = .ok (.getfield 56, 3) := by decide +kernel
theorem dX5_first_57 : decode cX5_first 57 = .ok (.invokevirtual 142, 3) := by decide +kernel
theorem dX5_first_60 : decode cX5_first 60 = .ok (.pop, 1) := by decide +kernel
theorem dX5_first_61 : decode cX5_first 61 = .ok (.iinc 3 1, 3) := by decide +kernel
theorem dX5_first_64 : decode cX5_first 64 = .ok (.goto (-31), 3) := by decide +kernel
theorem dX5_first_67 : decode cX5_first 67 = .ok (.bipush (-9), 2) := by decide +kernel
theorem dX5_first_69 : decode cX5_first 69 = .ok (.ireturn, 1) := by decide +kernel
set_option maxRecDepth 20000 in
theorem ggX5_keeps_X2_hasHouse : GoodIn wsX5_keeps wsX2_hasHouse := goodIn_r _ [6, 7, 138, 139, 140, 141, 142, 143, 144, 145, 146] (by decide +kernel) (by decide +kernel)
set_option maxRecDepth 20000 in
theorem gX5_keeps_X2_hasHouse : GoodIn wsX5_keeps (wsV RX5 102 RX2 yX2_hasHouse wsX2_hasHouse) := goodIn_app (goodIn_of _ (by decide +kernel)) ggX5_keeps_X2_hasHouse
set_option maxRecDepth 20000 in
theorem ggX5_keeps_X5_isThing : GoodIn wsX5_keeps wsX5_isThing := goodIn_r _ [11] (by decide +kernel) (by decide +kernel)
set_option maxRecDepth 20000 in
theorem gX5_keeps_X5_isThing : GoodIn wsX5_keeps (va_wsS RX5 179 yX5_isThing wsX5_isThing) := goodIn_app (goodIn_of _ (by decide +kernel)) ggX5_keeps_X5_isThing
set_option maxRecDepth 20000 in
theorem ggX5_keeps_X5_isZeroOrOne : GoodIn wsX5_keeps wsX5_isZeroOrOne := goodIn_r _ [14] (by decide +kernel) (by decide +kernel)
set_option maxRecDepth 20000 in
theorem gX5_keeps_X5_isZeroOrOne : GoodIn wsX5_keeps (va_wsS RX5 185 yX5_isZeroOrOne wsX5_isZeroOrOne) := goodIn_app (goodIn_of _ (by decide +kernel)) ggX5_keeps_X5_isZeroOrOne
set_option maxRecDepth 20000 in
theorem ggX5_keeps_X5_fillFewestLowerings : GoodIn wsX5_keeps wsX5_fillFewestLowerings := goodIn_r _ [18, 1, 19, 20, 21, 22, 23, 24, 25, 26, 27, 28, 29, 10, 30, 31, 32, 33, 34, 35, 36, 37, 38, 39, 40, 41, 42, 43, 44, 45, 46, 47, 48, 49, 50, 51, 52, 53, 5, 54, 55, 56, 57, 58, 59, 60, 61, 62, 63, 64, 65, 66, 67, 68, 69, 70, 71, 72, 73, 74, 75, 76, 77, 78, 79, 80, 81, 82, 83, 84, 85, 86, 87, 88, 89, 90, 91, 92, 93, 94, 95, 96, 97, 98, 99, 7, 100, 101, 102, 103, 104, 105, 106, 107, 108, 109, 110, 111, 112, 113, 114, 123, 124, 125, 126, 127, 128, 129, 130, 131, 132, 133, 134, 135, 136, 137, 138, 139, 140, 141, 142, 143, 144, 145, 146, 147, 148, 149, 150, 151, 152] (by decide +kernel) (by decide +kernel)
set_option maxRecDepth 20000 in
theorem gX5_keeps_X5_fillFewestLowerings : GoodIn wsX5_keeps (wsV RX5 188 RX5 yX5_fillFewestLowerings wsX5_fillFewestLowerings) := goodIn_app (goodIn_of _ (by decide +kernel)) ggX5_keeps_X5_fillFewestLowerings
set_option maxRecDepth 20000 in
theorem ggX5_keeps_X5_sumOfLowerings : GoodIn wsX5_keeps wsX5_sumOfLowerings := goodIn_r _ [118, 1, 19, 20, 123, 124, 125, 126, 127, 128, 129, 130, 131, 132, 133, 134, 135, 136, 137, 138, 139, 140, 141, 142, 143, 144, 145, 146] (by decide +kernel) (by decide +kernel)
set_option maxRecDepth 20000 in
theorem gX5_keeps_X5_sumOfLowerings : GoodIn wsX5_keeps (wsV RX5 192 RX5 yX5_sumOfLowerings wsX5_sumOfLowerings) := goodIn_app (goodIn_of _ (by decide +kernel)) ggX5_keeps_X5_sumOfLowerings
set_option maxRecDepth 20000 in
theorem ggX5_keeps_X5_figuresOfLowerings : GoodIn wsX5_keeps wsX5_figuresOfLowerings := goodIn_r _ [122, 1, 19, 20, 123, 124, 125, 126, 127, 128, 129, 130, 131, 132, 133, 134, 135, 136, 137, 138, 139, 140, 141, 142, 143, 144, 145, 146] (by decide +kernel) (by decide +kernel)
set_option maxRecDepth 20000 in
theorem gX5_keeps_X5_figuresOfLowerings : GoodIn wsX5_keeps (wsV RX5 195 RX5 yX5_figuresOfLowerings wsX5_figuresOfLowerings) := goodIn_app (goodIn_of _ (by decide +kernel)) ggX5_keeps_X5_figuresOfLowerings
theorem dX5_keeps_0 : decode cX5_keeps 0 = .ok (.aload_n 0, 1) := by decide +kernel
theorem dX5_keeps_1 : decode cX5_keeps 1 = .ok (.getfield 38, 3) := by decide +kernel
theorem dX5_keeps_4 : decode cX5_keeps 4 = .ok (.iload_n 1, 1) := by decide +kernel
theorem dX5_keeps_5 : decode cX5_keeps 5 = .ok (.invokevirtual 102, 3) := by decide +kernel
theorem dX5_keeps_8 : decode cX5_keeps 8 = .ok (.ifCond .eq 10, 3) := by decide +kernel
theorem dX5_keeps_11 : decode cX5_keeps 11 = .ok (.iload_n 2, 1) := by decide +kernel
theorem dX5_keeps_12 : decode cX5_keeps 12 = .ok (.invokestatic 179, 3) := by decide +kernel
theorem dX5_keeps_15 : decode cX5_keeps 15 = .ok (.ifCond .ne 5, 3) := by decide +kernel
theorem dX5_keeps_18 : decode cX5_keeps 18 = .ok (.iconst (-1), 1) := by decide +kernel
theorem dX5_keeps_19 : decode cX5_keeps 19 = .ok (.ireturn, 1) := by decide +kernel
theorem dX5_keeps_20 : decode cX5_keeps 20 = .ok (.iload_n 3, 1) := by decide +kernel
theorem dX5_keeps_21 : decode cX5_keeps 21 = .ok (.iconst 1, 1) := by decide +kernel
theorem dX5_keeps_22 : decode cX5_keeps 22 = .ok (.if_icmp .lt 17, 3) := by decide +kernel
theorem dX5_keeps_25 : decode cX5_keeps 25 = .ok (.iload_n 3, 1) := by decide +kernel
theorem dX5_keeps_26 : decode cX5_keeps 26 = .ok (.bipush 12, 2) := by decide +kernel
theorem dX5_keeps_28 : decode cX5_keeps 28 = .ok (.if_icmp .gt 11, 3) := by decide +kernel
theorem dX5_keeps_31 : decode cX5_keeps 31 = .ok (.iload 4, 2) := by decide +kernel
theorem dX5_keeps_33 : decode cX5_keeps 33 = .ok (.invokestatic 185, 3) := by decide +kernel
theorem dX5_keeps_36 : decode cX5_keeps 36 = .ok (.ifCond .ne 6, 3) := by decide +kernel
theorem dX5_keeps_39 : decode cX5_keeps 39 = .ok (.bipush (-2), 2) := by decide +kernel
theorem dX5_keeps_41 : decode cX5_keeps 41 = .ok (.ireturn, 1) := by decide +kernel
theorem dX5_keeps_42 : decode cX5_keeps 42 = .ok (.aload_n 0, 1) := by decide +kernel
theorem dX5_keeps_43 : decode cX5_keeps 43 = .ok (.iload_n 1, 1) := by decide +kernel
theorem dX5_keeps_44 : decode cX5_keeps 44 = .ok (.iload_n 2, 1) := by decide +kernel
theorem dX5_keeps_45 : decode cX5_keeps 45 = .ok (.iload_n 3, 1) := by decide +kernel
theorem dX5_keeps_46 : decode cX5_keeps 46 = .ok (.invokevirtual 188, 3) := by decide +kernel
theorem dX5_keeps_49 : decode cX5_keeps 49 = .ok (.ifCond .ne 6, 3) := by decide +kernel
theorem dX5_keeps_52 : decode cX5_keeps 52 = .ok (.bipush (-9), 2) := by decide +kernel
theorem dX5_keeps_54 : decode cX5_keeps 54 = .ok (.ireturn, 1) := by decide +kernel
theorem dX5_keeps_55 : decode cX5_keeps 55 = .ok (.iload 4, 2) := by decide +kernel
theorem dX5_keeps_57 : decode cX5_keeps 57 = .ok (.ifCond .ne 10, 3) := by decide +kernel
theorem dX5_keeps_60 : decode cX5_keeps 60 = .ok (.aload_n 0, 1) := by decide +kernel
theorem dX5_keeps_61 : decode cX5_keeps 61 = .ok (.invokevirtual 192, 3) := by decide +kernel
theorem dX5_keeps_64 : decode cX5_keeps 64 = .ok (.goto 7, 3) := by decide +kernel
theorem dX5_keeps_67 : decode cX5_keeps 67 = .ok (.aload_n 0, 1) := by decide +kernel
theorem dX5_keeps_68 : decode cX5_keeps 68 = .ok (.invokevirtual 195, 3) := by decide +kernel
theorem dX5_keeps_71 : decode cX5_keeps 71 = .ok (.ireturn, 1) := by decide +kernel
set_option maxRecDepth 20000 in
theorem ggX5_tells_X5_isZeroOrOne : GoodIn wsX5_tells wsX5_isZeroOrOne := goodIn_r _ [6] (by decide +kernel) (by decide +kernel)
set_option maxRecDepth 20000 in
theorem gX5_tells_X5_isZeroOrOne : GoodIn wsX5_tells (va_wsS RX5 185 yX5_isZeroOrOne wsX5_isZeroOrOne) := goodIn_app (goodIn_of _ (by decide +kernel)) ggX5_tells_X5_isZeroOrOne
set_option maxRecDepth 20000 in
theorem ggX5_tells_X2_allHouses : GoodIn wsX5_tells wsX2_allHouses := goodIn_r _ [11, 12, 43, 44, 45, 46, 47, 48, 49, 50, 51] (by decide +kernel) (by decide +kernel)
set_option maxRecDepth 20000 in
theorem gX5_tells_X2_allHouses : GoodIn wsX5_tells (wsV RX5 198 RX2 yX2_allHouses wsX2_allHouses) := goodIn_app (goodIn_of _ (by decide +kernel)) ggX5_tells_X2_allHouses
set_option maxRecDepth 20000 in
theorem ggX5_tells_J6_bitCount_0f7a4 : GoodIn wsX5_tells wsJ6_bitCount_0f7a4 := goodIn_r _ [16, 17, 18, 19] (by decide +kernel) (by decide +kernel)
set_option maxRecDepth 20000 in
theorem gX5_tells_J6_bitCount_0f7a4 : GoodIn wsX5_tells (va_wsS RX5 201 yJ6_bitCount_0f7a4 wsJ6_bitCount_0f7a4) := goodIn_app (goodIn_of _ (by decide +kernel)) ggX5_tells_J6_bitCount_0f7a4
set_option maxRecDepth 20000 in
theorem ggX5_tells_X4_knownBy : GoodIn wsX5_tells wsX4_knownBy := goodIn_r _ [24, 25, 26, 27, 52, 53, 54, 55, 56, 57, 43, 44, 45, 46, 47, 48, 49, 50, 51] (by decide +kernel) (by decide +kernel)
set_option maxRecDepth 20000 in
theorem gX5_tells_X4_knownBy : GoodIn wsX5_tells (wsV RX5 206 RX4 yX4_knownBy wsX4_knownBy) := goodIn_app (goodIn_of _ (by decide +kernel)) ggX5_tells_X4_knownBy
theorem dX5_tells_0 : decode cX5_tells 0 = .ok (.iload_n 1, 1) := by decide +kernel
theorem dX5_tells_1 : decode cX5_tells 1 = .ok (.ifCond .lt 16, 3) := by decide +kernel
theorem dX5_tells_4 : decode cX5_tells 4 = .ok (.iload_n 1, 1) := by decide +kernel
theorem dX5_tells_5 : decode cX5_tells 5 = .ok (.bipush 63, 2) := by decide +kernel
theorem dX5_tells_7 : decode cX5_tells 7 = .ok (.if_icmp .gt 10, 3) := by decide +kernel
theorem dX5_tells_10 : decode cX5_tells 10 = .ok (.iload_n 2, 1) := by decide +kernel
theorem dX5_tells_11 : decode cX5_tells 11 = .ok (.invokestatic 185, 3) := by decide +kernel
theorem dX5_tells_14 : decode cX5_tells 14 = .ok (.ifCond .ne 6, 3) := by decide +kernel
theorem dX5_tells_17 : decode cX5_tells 17 = .ok (.bipush (-2), 2) := by decide +kernel
theorem dX5_tells_19 : decode cX5_tells 19 = .ok (.ireturn, 1) := by decide +kernel
theorem dX5_tells_20 : decode cX5_tells 20 = .ok (.bipush (-9), 2) := by decide +kernel
theorem dX5_tells_22 : decode cX5_tells 22 = .ok (.istore_n 3, 1) := by decide +kernel
theorem dX5_tells_23 : decode cX5_tells 23 = .ok (.iconst 0, 1) := by decide +kernel
theorem dX5_tells_24 : decode cX5_tells 24 = .ok (.istore 4, 2) := by decide +kernel
theorem dX5_tells_26 : decode cX5_tells 26 = .ok (.iload 4, 2) := by decide +kernel
theorem dX5_tells_28 : decode cX5_tells 28 = .ok (.aload_n 0, 1) := by decide +kernel
theorem dX5_tells_29 : decode cX5_tells 29 = .ok (.getfield 38, 3) := by decide +kernel
theorem dX5_tells_32 : decode cX5_tells 32 = .ok (.invokevirtual 198, 3) := by decide +kernel
theorem dX5_tells_35 : decode cX5_tells 35 = .ok (.if_icmp .gt 58, 3) := by decide +kernel
theorem dX5_tells_38 : decode cX5_tells 38 = .ok (.iload_n 3, 1) := by decide +kernel
theorem dX5_tells_39 : decode cX5_tells 39 = .ok (.bipush (-9), 2) := by decide +kernel
theorem dX5_tells_41 : decode cX5_tells 41 = .ok (.if_icmp .eq 15, 3) := by decide +kernel
theorem dX5_tells_44 : decode cX5_tells 44 = .ok (.iload 4, 2) := by decide +kernel
theorem dX5_tells_46 : decode cX5_tells 46 = .ok (.invokestatic 201, 3) := by decide +kernel
theorem dX5_tells_49 : decode cX5_tells 49 = .ok (.iload_n 3, 1) := by decide +kernel
theorem dX5_tells_50 : decode cX5_tells 50 = .ok (.invokestatic 201, 3) := by decide +kernel
theorem dX5_tells_53 : decode cX5_tells 53 = .ok (.if_icmp .ge 7, 3) := by decide +kernel
