set_option maxRecDepth 20000 in
theorem ggX0_init_X0_forget : GoodIn wsX0_init wsX0_forget := goodIn_r _ [16, 5, 6, 7, 9, 10, 17, 18, 19, 20, 21, 22] (by decide +kernel) (by decide +kernel)
set_option maxRecDepth 20000 in
theorem gX0_init_X0_forget : GoodIn wsX0_init (wsV RX0 31 RX0 yX0_forget wsX0_forget) := goodIn_app (goodIn_of _ (by decide +kernel)) ggX0_init_X0_forget
theorem dX0_init_0 : decode cX0_init 0 = .ok (.aload_n 0, 1) := by decide +kernel
theorem dX0_init_1 : decode cX0_init 1 = .ok (.invokespecial 3, 3) := by decide +kernel
theorem dX0_init_4 : decode cX0_init 4 = .ok (.aload_n 0, 1) := by decide +kernel
theorem dX0_init_5 : decode cX0_init 5 = .ok (.bipush 60, 2) := by decide +kernel
theorem dX0_init_7 : decode cX0_init 7 = .ok (.newarray .int, 2) := by decide +kernel
theorem dX0_init_9 : decode cX0_init 9 = .ok (.putfield 9, 3) := by decide +kernel
theorem dX0_init_12 : decode cX0_init 12 = .ok (.aload_n 0, 1) := by decide +kernel
theorem dX0_init_13 : decode cX0_init 13 = .ok (.bipush 60, 2) := by decide +kernel
theorem dX0_init_15 : decode cX0_init 15 = .ok (.newarray .int, 2) := by decide +kernel
theorem dX0_init_17 : decode cX0_init 17 = .ok (.putfield 15, 3) := by decide +kernel
theorem dX0_init_20 : decode cX0_init 20 = .ok (.aload_n 0, 1) := by decide +kernel
theorem dX0_init_21 : decode cX0_init 21 = .ok (.bipush 60, 2) := by decide +kernel
theorem dX0_init_23 : decode cX0_init 23 = .ok (.newarray .int, 2) := by decide +kernel
theorem dX0_init_25 : decode cX0_init 25 = .ok (.putfield 18, 3) := by decide +kernel
theorem dX0_init_28 : decode cX0_init 28 = .ok (.aload_n 0, 1) := by decide +kernel
theorem dX0_init_29 : decode cX0_init 29 = .ok (.bipush 60, 2) := by decide +kernel
theorem dX0_init_31 : decode cX0_init 31 = .ok (.newarray .boolean, 2) := by decide +kernel
theorem dX0_init_33 : decode cX0_init 33 = .ok (.putfield 21, 3) := by decide +kernel
theorem dX0_init_36 : decode cX0_init 36 = .ok (.aload_n 0, 1) := by decide +kernel
theorem dX0_init_37 : decode cX0_init 37 = .ok (.bipush 60, 2) := by decide +kernel
theorem dX0_init_39 : decode cX0_init 39 = .ok (.newarray .boolean, 2) := by decide +kernel
theorem dX0_init_41 : decode cX0_init 41 = .ok (.putfield 25, 3) := by decide +kernel
theorem dX0_init_44 : decode cX0_init 44 = .ok (.aload_n 0, 1) := by decide +kernel
theorem dX0_init_45 : decode cX0_init 45 = .ok (.iconst 4, 1) := by decide +kernel
theorem dX0_init_46 : decode cX0_init 46 = .ok (.newarray .int, 2) := by decide +kernel
theorem dX0_init_48 : decode cX0_init 48 = .ok (.dup, 1) := by decide +kernel
theorem dX0_init_49 : decode cX0_init 49 = .ok (.iconst 0, 1) := by decide +kernel
theorem dX0_init_50 : decode cX0_init 50 = .ok (.iconst (-1), 1) := by decide +kernel
theorem dX0_init_51 : decode cX0_init 51 = .ok (.iastore, 1) := by decide +kernel
theorem dX0_init_52 : decode cX0_init 52 = .ok (.dup, 1) := by decide +kernel
theorem dX0_init_53 : decode cX0_init 53 = .ok (.iconst 1, 1) := by decide +kernel
theorem dX0_init_54 : decode cX0_init 54 = .ok (.iconst (-1), 1) := by decide +kernel
theorem dX0_init_55 : decode cX0_init 55 = .ok (.iastore, 1) := by decide +kernel
theorem dX0_init_56 : decode cX0_init 56 = .ok (.dup, 1) := by decide +kernel
theorem dX0_init_57 : decode cX0_init 57 = .ok (.iconst 2, 1) := by decide +kernel
theorem dX0_init_58 : decode cX0_init 58 = .ok (.iconst (-1), 1) := by decide +kernel
theorem dX0_init_59 : decode cX0_init 59 = .ok (.iastore, 1) := by decide +kernel
theorem dX0_init_60 : decode cX0_init 60 = .ok (.dup, 1) := by decide +kernel
theorem dX0_init_61 : decode cX0_init 61 = .ok (.iconst 3, 1) := by decide +kernel
theorem dX0_init_62 : decode cX0_init 62 = .ok (.iconst (-1), 1) := by decide +kernel
theorem dX0_init_63 : decode cX0_init 63 = .ok (.iastore, 1) := by decide +kernel
theorem dX0_init_64 : decode cX0_init 64 = .ok (.putfield 28, 3) := by decide +kernel
theorem dX0_init_67 : decode cX0_init 67 = .ok (.aload_n 0, 1) := by decide +kernel
theorem dX0_init_68 : decode cX0_init 68 = .ok (.invokevirtual 31, 3) := by decide +kernel
theorem dX0_init_71 : decode cX0_init 71 = .ok (.return_, 1) := by decide +kernel
theorem dX0_forget_0 : decode cX0_forget 0 = .ok (.iconst 0, 1) := by decide +kernel
theorem dX0_forget_1 : decode cX0_forget 1 = .ok (.istore_n 1, 1) := by decide +kernel
theorem dX0_forget_2 : decode cX0_forget 2 = .ok (.iload_n 1, 1) := by decide +kernel
theorem dX0_forget_3 : decode cX0_forget 3 = .ok (.bipush 60, 2) := by decide +kernel
theorem dX0_forget_5 : decode cX0_forget 5 = .ok (.if_icmp .ge 44, 3) := by decide +kernel
theorem dX0_forget_8 : decode cX0_forget 8 = .ok (.aload_n 0, 1) := by decide +kernel
theorem dX0_forget_9 : decode cX0_forget 9 = .ok (.getfield 9, 3) := by decide +kernel
theorem dX0_forget_12 : decode cX0_forget 12 = .ok (.iload_n 1, 1) := by decide +kernel
theorem dX0_forget_13 : decode cX0_forget 13 = .ok (.iconst (-1), 1) := by decide +kernel
theorem dX0_forget_14 : decode cX0_forget 14 = .ok (.iastore, 1) := by decide +kernel
theorem dX0_forget_15 : decode cX0_forget 15 = .ok (.aload_n 0, 1) := by decide +kernel
theorem dX0_forget_16 : decode cX0_forget 16 = .ok (.getfield 15, 3) := by decide +kernel
theorem dX0_forget_19 : decode cX0_forget 19 = .ok (.iload_n 1, 1) := by decide +kernel
theorem dX0_forget_20 : decode cX0_forget 20 = .ok (.iconst (-1), 1) := by decide +kernel
theorem dX0_forget_21 : decode cX0_forget 21 = .ok (.iastore, 1) := by decide +kernel
theorem dX0_forget_22 : decode cX0_forget 22 = .ok (.aload_n 0, 1) := by decide +kernel
theorem dX0_forget_23 : decode cX0_forget 23 = .ok (.getfield 18, 3) := by decide +kernel
theorem dX0_forget_26 : decode cX0_forget 26 = .ok (.iload_n 1, 1) := by decide +kernel
theorem dX0_forget_27 : decode cX0_forget 27 = .ok (.iconst (-1), 1) := by decide +kernel
theorem dX0_forget_28 : decode cX0_forget 28 = .ok (.iastore, 1) := by decide +kernel
theorem dX0_forget_29 : decode cX0_forget 29 = .ok (.aload_n 0, 1) := by decide +kernel
theorem dX0_forget_30 : decode cX0_forget 30 = .ok (.getfield 21, 3) := by decide +kernel
theorem dX0_forget_33 : decode cX0_forget 33 = .ok (.iload_n 1, 1) := by decide +kernel
theorem dX0_forget_34 : decode cX0_forget 34 = .ok (.iconst 0, 1) := by decide +kernel
theorem dX0_forget_35 : decode cX0_forget 35 = .ok (.bastore, 1) := by decide +kernel
theorem dX0_forget_36 : decode cX0_forget 36 = .ok (.aload_n 0, 1) := by decide +kernel
theorem dX0_forget_37 : decode cX0_forget 37 = .ok (.getfield 25, 3) := by decide +kernel
theorem dX0_forget_40 : decode cX0_forget 40 = .ok (.iload_n 1, 1) := by decide +kernel
theorem dX0_forget_41 : decode cX0_forget 41 = .ok (.iconst 0, 1) := by decide +kernel
theorem dX0_forget_42 : decode cX0_forget 42 = .ok (.bastore, 1) := by decide +kernel
theorem dX0_forget_43 : decode cX0_forget 43 = .ok (.iinc 1 1, 3) := by decide +kernel
theorem dX0_forget_46 : decode cX0_forget 46 = .ok (.goto (-44), 3) := by decide +kernel
theorem dX0_forget_49 : decode cX0_forget 49 = .ok (.return_, 1) := by decide +kernel
set_option maxRecDepth 20000 in
theorem ggX0_sumUp_X0_countOpen : GoodIn wsX0_sumUp wsX0_countOpen := goodIn_r _ [6, 7, 8, 9, 5, 10, 11, 12, 13, 14, 15, 16, 17, 18, 19, 20, 21] (by decide +kernel) (by decide +kernel)
set_option maxRecDepth 20000 in
theorem gX0_sumUp_X0_countOpen : GoodIn wsX0_sumUp (wsV RX0 34 RX0 yX0_countOpen wsX0_countOpen) := goodIn_app (goodIn_of _ (by decide +kernel)) ggX0_sumUp_X0_countOpen
theorem dX0_sumUp_0 : decode cX0_sumUp 0 = .ok (.aload_n 0, 1) := by decide +kernel
theorem dX0_sumUp_1 : decode cX0_sumUp 1 = .ok (.getfield 28, 3) := by decide +kernel
theorem dX0_sumUp_4 : decode cX0_sumUp 4 = .ok (.iconst 0, 1) := by decide +kernel
theorem dX0_sumUp_5 : decode cX0_sumUp 5 = .ok (.iload_n 1, 1) := by decide +kernel
theorem dX0_sumUp_6 : decode cX0_sumUp 6 = .ok (.iastore, 1) := by decide +kernel
theorem dX0_sumUp_7 : decode cX0_sumUp 7 = .ok (.aload_n 0, 1) := by decide +kernel
theorem dX0_sumUp_8 : decode cX0_sumUp 8 = .ok (.getfield 28, 3) := by decide +kernel
theorem dX0_sumUp_11 : decode cX0_sumUp 11 = .ok (.iconst 1, 1) := by decide +kernel
theorem dX0_sumUp_12 : decode cX0_sumUp 12 = .ok (.iload_n 2, 1) := by decide +kernel
theorem dX0_sumUp_13 : decode cX0_sumUp 13 = .ok (.iastore, 1) := by decide +kernel
theorem dX0_sumUp_14 : decode cX0_sumUp 14 = .ok (.aload_n 0, 1) := by decide +kernel
theorem dX0_sumUp_15 : decode cX0_sumUp 15 = .ok (.getfield 28, 3) := by decide +kernel
theorem dX0_sumUp_18 : decode cX0_sumUp 18 = .ok (.iconst 2, 1) := by decide +kernel
theorem dX0_sumUp_19 : decode cX0_sumUp 19 = .ok (.aload_n 0, 1) := by decide +kernel
theorem dX0_sumUp_20 : decode cX0_sumUp 20 = .ok (.invokevirtual 34, 3) := by decide +kernel
theorem dX0_sumUp_23 : decode cX0_sumUp 23 = .ok (.iastore, 1) := by decide +kernel
theorem dX0_sumUp_24 : decode cX0_sumUp 24 = .ok (.aload_n 0, 1) := by decide +kernel
theorem dX0_sumUp_25 : decode cX0_sumUp 25 = .ok (.getfield 28, 3) := by decide +kernel
theorem dX0_sumUp_28 : decode cX0_sumUp 28 = .ok (.iconst 3, 1) := by decide +kernel
theorem dX0_sumUp_29 : decode cX0_sumUp 29 = .ok (.iload_n 3, 1) := by decide +kernel
theorem dX0_sumUp_30 : decode cX0_sumUp 30 = .ok (.iastore, 1) := by decide +kernel
theorem dX0_sumUp_31 : decode cX0_sumUp 31 = .ok (.return_, 1) := by decide +kernel
theorem dX0_summaryOf_0 : decode cX0_summaryOf 0 = .ok (.iload_n 1, 1) := by decide +kernel
theorem dX0_summaryOf_1 : decode cX0_summaryOf 1 = .ok (.ifCond .lt 21, 3) := by decide +kernel
theorem dX0_summaryOf_4 : decode cX0_summaryOf 4 = .ok (.iload_n 1, 1) := by decide +kernel
theorem dX0_summaryOf_5 : decode cX0_summaryOf 5 = .ok (.aload_n 0, 1) := by decide +kernel
theorem dX0_summaryOf_6 : decode cX0_summaryOf 6 = .ok (.getfield 28, 3) := by decide +kernel
theorem dX0_summaryOf_9 : decode cX0_summaryOf 9 = .ok (.arraylength, 1) := by decide +kernel
theorem dX0_summaryOf_10 : decode cX0_summaryOf 10 = .ok (.if_icmp .ge 12, 3) := by decide +kernel
theorem dX0_summaryOf_13 : decode cX0_summaryOf 13 = .ok (.aload_n 0, 1) := by decide +kernel
theorem dX0_summaryOf_14 : decode cX0_summaryOf 14 = .ok (.getfield 28, 3) := by decide +kernel
theorem dX0_summaryOf_17 : decode cX0_summaryOf 17 = .ok (.iload_n 1, 1) := by decide +kernel
theorem dX0_summaryOf_18 : decode cX0_summaryOf 18 = .ok (.iaload, 1) := by decide +kernel
theorem dX0_summaryOf_19 : decode cX0_summaryOf 19 = .ok (.goto 4, 3) := by decide +kernel
theorem dX0_summaryOf_22 : decode cX0_summaryOf 22 = .ok (.iconst (-1), 1) := by decide +kernel
theorem dX0_summaryOf_23 : decode cX0_summaryOf 23 = .ok (.ireturn, 1) := by decide +kernel
set_option maxRecDepth 20000 in
theorem ggX0_keep_X3_isLine : GoodIn wsX0_keep wsX3_isLine := goodIn_r _ [6] (by decide +kernel) (by decide +kernel)
set_option maxRecDepth 20000 in
theorem gX0_keep_X3_isLine_n38 : GoodIn wsX0_keep (wsX3_isLine) := ggX0_keep_X3_isLine
set_option maxRecDepth 20000 in
theorem ggX0_keep_X0_innermostOpen : GoodIn wsX0_keep wsX0_innermostOpen := goodIn_r _ [11, 12, 13, 14, 10, 15, 1, 16, 4, 5, 6, 22, 23, 24, 25, 26, 27] (by decide +kernel) (by decide +kernel)
set_option maxRecDepth 20000 in
theorem gX0_keep_X0_innermostOpen : GoodIn wsX0_keep (wsV RX0 42 RX0 yX0_innermostOpen wsX0_innermostOpen) := goodIn_app (goodIn_of _ (by decide +kernel)) ggX0_keep_X0_innermostOpen
set_option maxRecDepth 20000 in
theorem ggX0_keep_X0_shutBox : GoodIn wsX0_keep wsX0_shutBox := goodIn_r _ [20, 3, 21, 16, 1, 4, 5, 6, 22, 23, 24, 25, 26, 27] (by decide +kernel) (by decide +kernel)
set_option maxRecDepth 20000 in
theorem gX0_keep_X0_shutBox : GoodIn wsX0_keep (wsV RX0 45 RX0 yX0_shutBox wsX0_shutBox) := goodIn_app (goodIn_of _ (by decide +kernel)) ggX0_keep_X0_shutBox
theorem dX0_keep_0 : decode cX0_keep 0 = .ok (.iload_n 1, 1) := by decide +kernel
theorem dX0_keep_1 : decode cX0_keep 1 = .ok (.invokestatic 38, 3) := by decide +kernel
theorem dX0_keep_4 : decode cX0_keep 4 = .ok (.ifCond .ne 4, 3) := by decide +kernel
theorem dX0_keep_7 : decode cX0_keep 7 = .ok (.return_, 1) := by decide +kernel
theorem dX0_keep_8 : decode cX0_keep 8 = .ok (.aload_n 0, 1) := by decide +kernel
theorem dX0_keep_9 : decode cX0_keep 9 = .ok (.getfield 9, 3) := by decide +kernel
theorem dX0_keep_12 : decode cX0_keep 12 = .ok (.iload_n 1, 1) := by decide +kernel
theorem dX0_keep_13 : decode cX0_keep 13 = .ok (.iload_n 2, 1) := by decide +kernel
theorem dX0_keep_14 : decode cX0_keep 14 = .ok (.iastore, 1) := by decide +kernel
theorem dX0_keep_15 : decode cX0_keep 15 = .ok (.aload_n 0, 1) := by decide +kernel
theorem dX0_keep_16 : decode cX0_keep 16 = .ok (.getfield 15, 3) := by decide +kernel
theorem dX0_keep_19 : decode cX0_keep 19 = .ok (.iload_n 1, 1) := by decide +kernel
theorem dX0_keep_20 : decode cX0_keep 20 = .ok (.iload_n 3, 1) := by decide +kernel
theorem dX0_keep_21 : decode cX0_keep 21 = .ok (.iastore, 1) := by decide +kernel
theorem dX0_keep_22 : decode cX0_keep 22 = .ok (.aload_n 0, 1) := by decide +kernel
theorem dX0_keep_23 : decode cX0_keep 23 = .ok (.getfield 21, 3) := by decide +kernel
theorem dX0_keep_26 : decode cX0_keep 26 = .ok (.iload_n 1, 1) := by decide +kernel
theorem dX0_keep_27 : decode cX0_keep 27 = .ok (.iload_n 3, 1) := by decide +kernel
theorem dX0_keep_28 : decode cX0_keep 28 = .ok (.iconst (-1), 1) := by decide +kernel
theorem dX0_keep_29 : decode cX0_keep 29 = .ok (.if_icmp .eq 7, 3) := by decide +kernel
theorem dX0_keep_32 : decode cX0_keep 32 = .ok (.iconst 1, 1) := by decide +kernel
theorem dX0_keep_33 : decode cX0_keep 33 = .ok (.goto 4, 3) := by decide +kernel
theorem dX0_keep_36 : decode cX0_keep 36 = .ok (.iconst 0, 1) := by decide +kernel
theorem dX0_keep_37 : decode cX0_keep 37 = .ok (.bastore, 1) := by decide +kernel
theorem dX0_keep_38 : decode cX0_keep 38 = .ok (.iload_n 2, 1) := by decide +kernel
theorem dX0_keep_39 : decode cX0_keep 39 = .ok (.iconst 2, 1) := by decide +kernel
theorem dX0_keep_40 : decode cX0_keep 40 = .ok (.if_icmp .ne 14, 3) := by decide +kernel
theorem dX0_keep_43 : decode cX0_keep 43 = .ok (.aload_n 0, 1) := by decide +kernel
theorem dX0_keep_44 : decode cX0_keep 44 = .ok (.aload_n 0, 1) := by decide +kernel
theorem dX0_keep_45 : decode cX0_keep 45 = .ok (.invokevirtual 42, 3) := by decide +kernel
theorem dX0_keep_48 : decode cX0_keep 48 = .ok (.iload_n 1, 1) := by decide +kernel
theorem dX0_keep_49 : decode cX0_keep 49 = .ok (.iconst 1, 1) := by decide +kernel
theorem dX0_keep_50 : decode cX0_keep 50 = .ok (.isub, 1) := by decide +kernel
theorem dX0_keep_51 : decode cX0_keep 51 = .ok (.invokevirtual 45, 3) := by decide +kernel
theorem dX0_keep_54 : decode cX0_keep 54 = .ok (.return_, 1) := by decide +kernel
set_option maxRecDepth 20000 in
theorem ggX0_shutBox_X3_isLine : GoodIn wsX0_shutBox wsX3_isLine := goodIn_r _ [7] (by decide +kernel) (by decide +kernel)
set_option maxRecDepth 20000 in
theorem gX0_shutBox_X3_isLine_n38 : GoodIn wsX0_shutBox (wsX3_isLine) := ggX0_shutBox_X3_isLine
theorem dX0_shutBox_0 : decode cX0_shutBox 0 = .ok (.iload_n 1, 1) := by decide +kernel
theorem dX0_shutBox_1 : decode cX0_shutBox 1 = .ok (.invokestatic 38, 3) := by decide +kernel
theorem dX0_shutBox_4 : decode cX0_shutBox 4 = .ok (.ifCond .eq 10, 3) := by decide +kernel
theorem dX0_shutBox_7 : decode cX0_shutBox 7 = .ok (.iload_n 2, 1) := by decide +kernel
theorem dX0_shutBox_8 : decode cX0_shutBox 8 = .ok (.invokestatic 38, 3) := by decide +kernel
theorem dX0_shutBox_11 : decode cX0_shutBox 11 = .ok (.ifCond .ne 4, 3) := by decide +kernel
theorem dX0_shutBox_14 : decode cX0_shutBox 14 = .ok (.return_, 1) := by decide +kernel
theorem dX0_shutBox_15 : decode cX0_shutBox 15 = .ok (.iload_n 1, 1) := by decide +kernel
theorem dX0_shutBox_16 : decode cX0_shutBox 16 = .ok (.istore_n 3, 1) := by decide +kernel
theorem dX0_shutBox_17 : decode cX0_shutBox 17 = .ok (.iload_n 3, 1) := by decide +kernel
theorem dX0_shutBox_18 : decode cX0_shutBox 18 = .ok (.iload_n 2, 1) := by decide +kernel
theorem dX0_shutBox_19 : decode cX0_shutBox 19 = .ok (.if_icmp .gt 23, 3) := by decide +kernel
theorem dX0_shutBox_22 : decode cX0_shutBox 22 = .ok (.aload_n 0, 1) := by decide +kernel
theorem dX0_shutBox_23 : decode cX0_shutBox 23 = .ok (.getfield 21, 3) := by decide +kernel
theorem dX0_shutBox_26 : decode cX0_shutBox 26 = .ok (.iload_n 3, 1) := by decide +kernel
theorem dX0_shutBox_27 : decode cX0_shutBox 27 = .ok (.iconst 0, 1) := by decide +kernel
theorem dX0_shutBox_28 : decode cX0_shutBox 28 = .ok (.bastore, 1) := by decide +kernel
theorem dX0_shutBox_29 : decode cX0_shutBox 29 = .ok (.aload_n 0, 1) := by decide +kernel
theorem dX0_shutBox_30 : decode cX0_shutBox 30 = .ok (.getfield 25, 3) := by decide +kernel
theorem dX0_shutBox_33 : decode cX0_shutBox 33 = .ok (.iload_n 3, 1) := by decide +kernel
theorem dX0_shutBox_34 : decode cX0_shutBox 34 = .ok (.iconst 0, 1) := by decide +kernel
theorem dX0_shutBox_35 : decode cX0_shutBox 35 = .ok (.bastore, 1) := by decide +kernel
theorem dX0_shutBox_36 : decode cX0_shutBox 36 = .ok (.iinc 3 1, 3) := by decide +kernel
theorem dX0_shutBox_39 : decode cX0_shutBox 39 = .ok (.goto (-22), 3) := by decide +kernel
theorem dX0_shutBox_42 : decode cX0_shutBox 42 = .ok (.aload_n 0, 1) := by decide +kernel
theorem dX0_shutBox_43 : decode cX0_shutBox 43 = .ok (.getfield 18, 3) := by decide +kernel
theorem dX0_shutBox_46 : decode cX0_shutBox 46 = .ok (.iload_n 1, 1) := by decide +kernel
theorem dX0_shutBox_47 : decode cX0_shutBox 47 = .ok (.iload_n 2, 1) := by decide +kernel
theorem dX0_shutBox_48 : decode cX0_shutBox 48 = .ok (.iastore, 1) := by decide +kernel
theorem dX0_shutBox_49 : decode cX0_shutBox 49 = .ok (.aload_n 0, 1) := by decide +kernel
theorem dX0_shutBox_50 : decode cX0_shutBox 50 = .ok (.getfield 25, 3) := by decide +kernel
theorem dX0_shutBox_53 : decode cX0_shutBox 53 = .ok (.iload_n 1, 1) := by decide +kernel
theorem dX0_shutBox_54 : decode cX0_shutBox 54 = .ok (.aload_n 0, 1) := by decide +kernel
theorem dX0_shutBox_55 : decode cX0_shutBox 55 = .ok (.getfield 9, 3) := by decide +kernel
theorem dX0_shutBox_58 : decode cX0_shutBox 58 = .ok (.iload_n 2, 1) := by decide +kernel
theorem dX0_shutBox_59 : decode cX0_shutBox 59 = .ok (.iaload, 1) := by decide +kernel
theorem dX0_shutBox_60 : decode cX0_shutBox 60 = .ok (.iconst 2, 1) := by decide +kernel
theorem dX0_shutBox_61 : decode cX0_shutBox 61 = .ok (.if_icmp .eq 7, 3) := by decide +kernel
theorem dX0_shutBox_64 : decode cX0_shutBox 64 = .ok (.iconst 1, 1) := by decide +kernel
theorem dX0_shutBox_65 : decode cX0_shutBox 65 = .ok (.goto 4, 3) := by decide +kernel
theorem dX0_shutBox_68 : decode cX0_shutBox 68 = .ok (.iconst 0, 1) := by decide +kernel
theorem dX0_shutBox_69 : decode cX0_shutBox 69 = .ok (.bastore, 1) := by decide +kernel
theorem dX0_shutBox_70 : decode cX0_shutBox 70 = .ok (.return_, 1) := by decide +kernel
set_option maxRecDepth 20000 in
theorem ggX0_ruleOf_X3_isLine : GoodIn wsX0_ruleOf wsX3_isLine := goodIn_r _ [4] (by decide +kernel) (by decide +kernel)
set_option maxRecDepth 20000 in
theorem gX0_ruleOf_X3_isLine_n38 : GoodIn wsX0_ruleOf (wsX3_isLine) := ggX0_ruleOf_X3_isLine
theorem dX0_ruleOf_0 : decode cX0_ruleOf 0 = .ok (.iload_n 1, 1) := by decide +kernel
theorem dX0_ruleOf_1 : decode cX0_ruleOf 1 = .ok (.invokestatic 38, 3) := by decide +kernel
theorem dX0_ruleOf_4 : decode cX0_ruleOf 4 = .ok (.ifCond .eq 12, 3) := by decide +kernel
theorem dX0_ruleOf_7 : decode cX0_ruleOf 7 = .ok (.aload_n 0, 1) := by decide +kernel
theorem dX0_ruleOf_8 : decode cX0_ruleOf 8 = .ok (.getfield 9, 3) := by decide +kernel
theorem dX0_ruleOf_11 : decode cX0_ruleOf 11 = .ok (.iload_n 1, 1) := by decide +kernel
theorem dX0_ruleOf_12 : decode cX0_ruleOf 12 = .ok (.iaload, 1) := by decide +kernel
theorem dX0_ruleOf_13 : decode cX0_ruleOf 13 = .ok (.goto 4, 3) := by decide +kernel
theorem dX0_ruleOf_16 : decode cX0_ruleOf 16 = .ok (.iconst (-1), 1) := by decide +kernel
theorem dX0_ruleOf_17 : decode cX0_ruleOf 17 = .ok (.ireturn, 1) := by decide +kernel
set_option maxRecDepth 20000 in
theorem ggX0_headOf_X3_isLine : GoodIn wsX0_headOf wsX3_isLine := goodIn_r _ [4] (by decide +kernel) (by decide +kernel)
set_option maxRecDepth 20000 in
theorem gX0_headOf_X3_isLine_n38 : GoodIn wsX0_headOf (wsX3_isLine) := ggX0_headOf_X3_isLine
theorem dX0_headOf_0 : decode cX0_headOf 0 = .ok (.iload_n 1, 1) := by decide +kernel
theorem dX0_headOf_1 : decode cX0_headOf 1 = .ok (.invokestatic 38, 3) := by decide +kernel
theorem dX0_headOf_4 : decode cX0_headOf 4 = .ok (.ifCond .eq 12, 3) := by decide +kernel
theorem dX0_headOf_7 : decode cX0_headOf 7 = .ok (.aload_n 0, 1) := by decide +kernel
theorem dX0_headOf_8 : decode cX0_headOf 8 = .ok (.getfield 15, 3) := by decide +kernel
theorem dX0_headOf_11 : decode cX0_headOf 11 = .ok (.iload_n 1, 1) := by decide +kernel
theorem dX0_headOf_12 : decode cX0_headOf 12 = .ok (.iaload, 1) := by decide +kernel
theorem dX0_headOf_13 : decode cX0_headOf 13 = .ok (.goto 4, 3) := by decide +kernel
theorem dX0_headOf_16 : decode cX0_headOf 16 = .ok (.iconst (-1), 1) := by decide +kernel
theorem dX0_headOf_17 : decode cX0_headOf 17 = .ok (.ireturn, 1) := by decide +kernel
set_option maxRecDepth 20000 in
theorem ggX0_endOf_X3_isLine : GoodIn wsX0_endOf wsX3_isLine := goodIn_r _ [4] (by decide +kernel) (by decide +kernel)
set_option maxRecDepth 20000 in
theorem gX0_endOf_X3_isLine_n38 : GoodIn wsX0_endOf (wsX3_isLine) := ggX0_endOf_X3_isLine
theorem dX0_endOf_0 : decode cX0_endOf 0 = .ok (.iload_n 1, 1) := by decide +kernel
theorem dX0_endOf_1 : decode cX0_endOf 1 = .ok (.invokestatic 38, 3) := by decide +kernel
theorem dX0_endOf_4 : decode cX0_endOf 4 = .ok (.ifCond .eq 12, 3) := by decide +kernel
theorem dX0_endOf_7 : decode cX0_endOf 7 = .ok (.aload_n 0, 1) := by decide +kernel
theorem dX0_endOf_8 : decode cX0_endOf 8 = .ok (.getfield 18, 3) := by decide +kernel
theorem dX0_endOf_11 : decode cX0_endOf 11 = .ok (.iload_n 1, 1) := by decide +kernel
theorem dX0_endOf_12 : decode cX0_endOf 12 = .ok (.iaload, 1) := by decide +kernel
theorem dX0_endOf_13 : decode cX0_endOf 13 = .ok (.goto 4, 3) := by decide +kernel
theorem dX0_endOf_16 : decode cX0_endOf 16 = .ok (.iconst (-1), 1) := by decide +kernel
theorem dX0_endOf_17 : decode cX0_endOf 17 = .ok (.ireturn, 1) := by decide +kernel
set_option maxRecDepth 20000 in
theorem ggX0_innermostOpen_X0_isOpenBox : GoodIn wsX0_innermostOpen wsX0_isOpenBox := goodIn_r _ [5, 6, 7, 8, 9, 10, 11, 12, 13, 14, 15, 16] (by decide +kernel) (by decide +kernel)
set_option maxRecDepth 20000 in
theorem gX0_innermostOpen_X0_isOpenBox : GoodIn wsX0_innermostOpen (wsV RX0 49 RX0 yX0_isOpenBox wsX0_isOpenBox) := goodIn_app (goodIn_of _ (by decide +kernel)) ggX0_innermostOpen_X0_isOpenBox
theorem dX0_innermostOpen_0 : decode cX0_innermostOpen 0 = .ok (.bipush 59, 2) := by decide +kernel
theorem dX0_innermostOpen_2 : decode cX0_innermostOpen 2 = .ok (.istore_n 1, 1) := by decide +kernel
theorem dX0_innermostOpen_3 : decode cX0_innermostOpen 3 = .ok (.iload_n 1, 1) := by decide +kernel
theorem dX0_innermostOpen_4 : decode cX0_innermostOpen 4 = .ok (.ifCond .lt 19, 3) := by decide +kernel
theorem dX0_innermostOpen_7 : decode cX0_innermostOpen 7 = .ok (.aload_n 0, 1) := by decide +kernel
theorem dX0_innermostOpen_8 : decode cX0_innermostOpen 8 = .ok (.iload_n 1, 1) := by decide +kernel
theorem dX0_innermostOpen_9 : decode cX0_innermostOpen 9 = .ok (.invokevirtual 49, 3) := by decide +kernel
theorem dX0_innermostOpen_12 : decode cX0_innermostOpen 12 = .ok (.ifCond .eq 5, 3) := by decide +kernel
theorem dX0_innermostOpen_15 : decode cX0_innermostOpen 15 = .ok (.iload_n 1, 1) := by decide +kernel
theorem dX0_innermostOpen_16 : decode cX0_innermostOpen 16 = .ok (.ireturn, 1) := by decide +kernel
theorem dX0_innermostOpen_17 : decode cX0_innermostOpen 17 = .ok (.iinc 1 (-1), 3) := by decide +kernel
theorem dX0_innermostOpen_20 : decode cX0_innermostOpen 20 = .ok (.goto (-17), 3) := by decide +kernel
theorem dX0_innermostOpen_23 : decode cX0_innermostOpen 23 = .ok (.iconst (-1), 1) := by decide +kernel
theorem dX0_innermostOpen_24 : decode cX0_innermostOpen 24 = .ok (.ireturn, 1) := by decide +kernel
set_option maxRecDepth 20000 in
theorem ggX0_countOpen_X0_isOpenBox : GoodIn wsX0_countOpen wsX0_isOpenBox := goodIn_r _ [5, 6, 7, 8, 9, 10, 11, 12, 13, 14, 15, 16] (by decide +kernel) (by decide +kernel)
set_option maxRecDepth 20000 in
theorem gX0_countOpen_X0_isOpenBox : GoodIn wsX0_countOpen (wsV RX0 49 RX0 yX0_isOpenBox wsX0_isOpenBox) := goodIn_app (goodIn_of _ (by decide +kernel)) ggX0_countOpen_X0_isOpenBox
theorem dX0_countOpen_0 : decode cX0_countOpen 0 = .ok (.iconst 0, 1) := by decide +kernel
theorem dX0_countOpen_1 : decode cX0_countOpen 1 = .ok (.istore_n 1, 1) := by decide +kernel
theorem dX0_countOpen_2 : decode cX0_countOpen 2 = .ok (.iconst 0, 1) := by decide +kernel
theorem dX0_countOpen_3 : decode cX0_countOpen 3 = .ok (.istore_n 2, 1) := by decide +kernel
theorem dX0_countOpen_4 : decode cX0_countOpen 4 = .ok (.iload_n 2, 1) := by decide +kernel
theorem dX0_countOpen_5 : decode cX0_countOpen 5 = .ok (.bipush 60, 2) := by decide +kernel
theorem dX0_countOpen_7 : decode cX0_countOpen 7 = .ok (.if_icmp .ge 20, 3) := by decide +kernel
theorem dX0_countOpen_10 : decode cX0_countOpen 10 = .ok (.aload_n 0, 1) := by decide +kernel
theorem dX0_countOpen_11 : decode cX0_countOpen 11 = .ok (.iload_n 2, 1) := by decide +kernel
theorem dX0_countOpen_12 : decode cX0_countOpen 12 = .ok (.invokevirtual 49, 3) := by decide +kernel
theorem dX0_countOpen_15 : decode cX0_countOpen 15 = .ok (.ifCond .eq 6, 3) := by decide +kernel
theorem dX0_countOpen_18 : decode cX0_countOpen 18 = .ok (.iinc 1 1, 3) := by decide +kernel
theorem dX0_countOpen_21 : decode cX0_countOpen 21 = .ok (.iinc 2 1, 3) := by decide +kernel
theorem dX0_countOpen_24 : decode cX0_countOpen 24 = .ok (.goto (-20), 3) := by decide +kernel
theorem dX0_countOpen_27 : decode cX0_countOpen 27 = .ok (.iload_n 1, 1) := by decide +kernel
theorem dX0_countOpen_28 : decode cX0_countOpen 28 = .ok (.ireturn, 1) := by decide +kernel
set_option maxRecDepth 20000 in
theorem ggX0_isOpenBox_X3_isLine : GoodIn wsX0_isOpenBox wsX3_isLine := goodIn_r _ [5] (by decide +kernel) (by decide +kernel)
set_option maxRecDepth 20000 in
theorem gX0_isOpenBox_X3_isLine_n38 : GoodIn wsX0_isOpenBox (wsX3_isLine) := ggX0_isOpenBox_X3_isLine
theorem dX0_isOpenBox_0 : decode cX0_isOpenBox 0 = .ok (.iload_n 1, 1) := by decide +kernel
theorem dX0_isOpenBox_1 : decode cX0_isOpenBox 1 = .ok (.invokestatic 38, 3) := by decide +kernel
theorem dX0_isOpenBox_4 : decode cX0_isOpenBox 4 = .ok (.ifCond .eq 27, 3) := by decide +kernel
theorem dX0_isOpenBox_7 : decode cX0_isOpenBox 7 = .ok (.aload_n 0, 1) := by decide +kernel
theorem dX0_isOpenBox_8 : decode cX0_isOpenBox 8 = .ok (.getfield 9, 3) := by decide +kernel
theorem dX0_isOpenBox_11 : decode cX0_isOpenBox 11 = .ok (.iload_n 1, 1) := by decide +kernel
theorem dX0_isOpenBox_12 : decode cX0_isOpenBox 12 = .ok (.iaload, 1) := by decide +kernel
theorem dX0_isOpenBox_13 : decode cX0_isOpenBox 13 = .ok (.iconst 1, 1) := by decide +kernel
theorem dX0_isOpenBox_14 : decode cX0_isOpenBox 14 = .ok (.if_icmp .ne 17, 3) := by decide +kernel
theorem dX0_isOpenBox_17 : decode cX0_isOpenBox 17 = .ok (.aload_n 0, 1) := by decide +kernel
theorem dX0_isOpenBox_18 : decode cX0_isOpenBox 18 = .ok (.getfield 18, 3) := by decide +kernel
theorem dX0_isOpenBox_21 : decode cX0_isOpenBox 21 = .ok (.iload_n 1, 1) := by decide +kernel
theorem dX0_isOpenBox_22 : decode cX0_isOpenBox 22 = .ok (.iaload, 1) := by decide +kernel
theorem dX0_isOpenBox_23 : decode cX0_isOpenBox 23 = .ok (.iconst (-1), 1) := by decide +kernel
theorem dX0_isOpenBox_24 : decode cX0_isOpenBox 24 = .ok (.if_icmp .ne 7, 3) := by decide +kernel
theorem dX0_isOpenBox_27 : decode cX0_isOpenBox 27 = .ok (.iconst 1, 1) := by decide +kernel
theorem dX0_isOpenBox_28 : decode cX0_isOpenBox 28 = .ok (.goto 4, 3) := by decide +kernel
theorem dX0_isOpenBox_31 : decode cX0_isOpenBox 31 = .ok (.iconst 0, 1) := by decide +kernel
theorem dX0_isOpenBox_32 : decode cX0_isOpenBox 32 = .ok (.ireturn, 1) := by decide +kernel
set_option maxRecDepth 20000 in
theorem ggX0_liesInBox_X0_ruleOf : GoodIn wsX0_liesInBox wsX0_ruleOf := goodIn_r _ [5, 6, 7, 8, 9, 15, 16, 17, 18, 19, 20] (by decide +kernel) (by decide +kernel)
set_option maxRecDepth 20000 in
theorem gX0_liesInBox_X0_ruleOf : GoodIn wsX0_liesInBox (wsV RX0 52 RX0 yX0_ruleOf wsX0_ruleOf) := goodIn_app (goodIn_of _ (by decide +kernel)) ggX0_liesInBox_X0_ruleOf
set_option maxRecDepth 20000 in
theorem ggX0_liesInBox_X0_endOf : GoodIn wsX0_liesInBox wsX0_endOf := goodIn_r _ [13, 14, 7, 8, 9, 15, 16, 17, 18, 19, 20] (by decide +kernel) (by decide +kernel)
set_option maxRecDepth 20000 in
theorem gX0_liesInBox_X0_endOf : GoodIn wsX0_liesInBox (wsV RX0 56 RX0 yX0_endOf wsX0_endOf) := goodIn_app (goodIn_of _ (by decide +kernel)) ggX0_liesInBox_X0_endOf
theorem dX0_liesInBox_0 : decode cX0_liesInBox 0 = .ok (.aload_n 0, 1) := by decide +kernel
theorem dX0_liesInBox_1 : decode cX0_liesInBox 1 = .ok (.iload_n 2, 1) := by decide +kernel
theorem dX0_liesInBox_2 : decode cX0_liesInBox 2 = .ok (.invokevirtual 52, 3) := by decide +kernel
theorem dX0_liesInBox_5 : decode cX0_liesInBox 5 = .ok (.iconst 1, 1) := by decide +kernel
theorem dX0_liesInBox_6 : decode cX0_liesInBox 6 = .ok (.if_icmp .ne 30, 3) := by decide +kernel
theorem dX0_liesInBox_9 : decode cX0_liesInBox 9 = .ok (.iload_n 2, 1) := by decide +kernel
theorem dX0_liesInBox_10 : decode cX0_liesInBox 10 = .ok (.iload_n 1, 1) := by decide +kernel
theorem dX0_liesInBox_11 : decode cX0_liesInBox 11 = .ok (.if_icmp .gt 25, 3) := by decide +kernel
theorem dX0_liesInBox_14 : decode cX0_liesInBox 14 = .ok (.aload_n 0, 1) := by decide +kernel
theorem dX0_liesInBox_15 : decode cX0_liesInBox 15 = .ok (.iload_n 2, 1) := by decide +kernel
theorem dX0_liesInBox_16 : decode cX0_liesInBox 16 = .ok (.invokevirtual 56, 3) := by decide +kernel
theorem dX0_liesInBox_19 : decode cX0_liesInBox 19 = .ok (.iconst (-1), 1) := by decide +kernel
theorem dX0_liesInBox_20 : decode cX0_liesInBox 20 = .ok (.if_icmp .eq 12, 3) := by decide +kernel
theorem dX0_liesInBox_23 : decode cX0_liesInBox 23 = .ok (.iload_n 1, 1) := by decide +kernel
theorem dX0_liesInBox_24 : decode cX0_liesInBox 24 = .ok (.aload_n 0, 1) := by decide +kernel
theorem dX0_liesInBox_25 : decode cX0_liesInBox 25 = .ok (.iload_n 2, 1) := by decide +kernel
theorem dX0_liesInBox_26 : decode cX0_liesInBox 26 = .ok (.invokevirtual 56, 3) := by decide +kernel
theorem dX0_liesInBox_29 : decode cX0_liesInBox 29 = .ok (.if_icmp .gt 7, 3) := by decide +kernel
theorem dX0_liesInBox_32 : decode cX0_liesInBox 32 = .ok (.iconst 1, 1) := by decide +kernel
theorem dX0_liesInBox_33 : decode cX0_liesInBox 33 = .ok (.goto 4, 3) := by decide +kernel
theorem dX0_liesInBox_36 : decode cX0_liesInBox 36 = .ok (.iconst 0, 1) := by decide +kernel
theorem dX0_liesInBox_37 : decode cX0_liesInBox 37 = .ok (.ireturn, 1) := by decide +kernel
set_option maxRecDepth 20000 in
theorem ggX0_isInForce_X3_isLine : GoodIn wsX0_isInForce wsX3_isLine := goodIn_r _ [4] (by decide +kernel) (by decide +kernel)
set_option maxRecDepth 20000 in
theorem gX0_isInForce_X3_isLine_n38 : GoodIn wsX0_isInForce (wsX3_isLine) := ggX0_isInForce_X3_isLine
theorem dX0_isInForce_0 : decode cX0_isInForce 0 = .ok (.iload_n 1, 1) := by decide +kernel
theorem dX0_isInForce_1 : decode cX0_isInForce 1 = .ok (.invokestatic 38, 3) := by decide +kernel
theorem dX0_isInForce_4 : decode cX0_isInForce 4 = .ok (.ifCond .eq 16, 3) := by decide +kernel
theorem dX0_isInForce_7 : decode cX0_isInForce 7 = .ok (.aload_n 0, 1) := by decide +kernel
theorem dX0_isInForce_8 : decode cX0_isInForce 8 = .ok (.getfield 21, 3) := by decide +kernel
theorem dX0_isInForce_11 : decode cX0_isInForce 11 = .ok (.iload_n 1, 1) := by decide +kernel
theorem dX0_isInForce_12 : decode cX0_isInForce 12 = .ok (.baload, 1) := by decide +kernel
theorem dX0_isInForce_13 : decode cX0_isInForce 13 = .ok (.ifCond .eq 7, 3) := by decide +kernel
theorem dX0_isInForce_16 : decode cX0_isInForce 16 = .ok (.iconst 1, 1) := by decide +kernel
theorem dX0_isInForce_17 : decode cX0_isInForce 17 = .ok (.goto 4, 3) := by decide +kernel
theorem dX0_isInForce_20 : decode cX0_isInForce 20 = .ok (.iconst 0, 1) := by decide +kernel
theorem dX0_isInForce_21 : decode cX0_isInForce 21 = .ok (.ireturn, 1) := by decide +kernel
set_option maxRecDepth 20000 in
theorem ggX0_isUsableBox_X3_isLine : GoodIn wsX0_isUsableBox wsX3_isLine := goodIn_r _ [4] (by decide +kernel) (by decide +kernel)
set_option maxRecDepth 20000 in
theorem gX0_isUsableBox_X3_isLine_n38 : GoodIn wsX0_isUsableBox (wsX3_isLine) := ggX0_isUsableBox_X3_isLine
theorem dX0_isUsableBox_0 : decode cX0_isUsableBox 0 = .ok (.iload_n 1, 1) := by decide +kernel
theorem dX0_isUsableBox_1 : decode cX0_isUsableBox 1 = .ok (.invokestatic 38, 3) := by decide +kernel
theorem dX0_isUsableBox_4 : decode cX0_isUsableBox 4 = .ok (.ifCond .eq 16, 3) := by decide +kernel
theorem dX0_isUsableBox_7 : decode cX0_isUsableBox 7 = .ok (.aload_n 0, 1) := by decide +kernel
theorem dX0_isUsableBox_8 : decode cX0_isUsableBox 8 = .ok (.getfield 25, 3) := by decide +kernel
theorem dX0_isUsableBox_11 : decode cX0_isUsableBox 11 = .ok (.iload_n 1, 1) := by decide +kernel
theorem dX0_isUsableBox_12 : decode cX0_isUsableBox 12 = .ok (.baload, 1) := by decide +kernel
theorem dX0_isUsableBox_13 : decode cX0_isUsableBox 13 = .ok (.ifCond .eq 7, 3) := by decide +kernel
theorem dX0_isUsableBox_16 : decode cX0_isUsableBox 16 = .ok (.iconst 1, 1) := by decide +kernel
theorem dX0_isUsableBox_17 : decode cX0_isUsableBox 17 = .ok (.goto 4, 3) := by decide +kernel
theorem dX0_isUsableBox_20 : decode cX0_isUsableBox 20 = .ok (.iconst 0, 1) := by decide +kernel
theorem dX0_isUsableBox_21 : decode cX0_isUsableBox 21 = .ok (.ireturn, 1) := by decide +kernel
set_option maxRecDepth 20000 in
theorem ggX0_isGround_X0_ruleOf : GoodIn wsX0_isGround wsX0_ruleOf := goodIn_r _ [5, 6, 7, 8, 9, 19, 20, 21, 22, 23, 24] (by decide +kernel) (by decide +kernel)
set_option maxRecDepth 20000 in
theorem gX0_isGround_X0_ruleOf : GoodIn wsX0_isGround (wsV RX0 52 RX0 yX0_ruleOf wsX0_ruleOf) := goodIn_app (goodIn_of _ (by decide +kernel)) ggX0_isGround_X0_ruleOf
set_option maxRecDepth 20000 in
theorem ggX0_isGround_X0_liesInBox : GoodIn wsX0_isGround wsX0_liesInBox := goodIn_r _ [13, 1, 2, 3, 4, 5, 6, 7, 8, 9, 14, 15, 16, 17, 18, 19, 20, 21, 22, 23, 24] (by decide +kernel) (by decide +kernel)
set_option maxRecDepth 20000 in
theorem gX0_isGround_X0_liesInBox : GoodIn wsX0_isGround (wsV RX0 59 RX0 yX0_liesInBox wsX0_liesInBox) := goodIn_app (goodIn_of _ (by decide +kernel)) ggX0_isGround_X0_liesInBox
theorem dX0_isGround_0 : decode cX0_isGround 0 = .ok (.aload_n 0, 1) := by decide +kernel
theorem dX0_isGround_1 : decode cX0_isGround 1 = .ok (.iload_n 1, 1) := by decide +kernel
theorem dX0_isGround_2 : decode cX0_isGround 2 = .ok (.invokevirtual 52, 3) := by decide +kernel
theorem dX0_isGround_5 : decode cX0_isGround 5 = .ok (.ifCond .eq 12, 3) := by decide +kernel
theorem dX0_isGround_8 : decode cX0_isGround 8 = .ok (.aload_n 0, 1) := by decide +kernel
theorem dX0_isGround_9 : decode cX0_isGround 9 = .ok (.iload_n 2, 1) := by decide +kernel
theorem dX0_isGround_10 : decode cX0_isGround 10 = .ok (.iload_n 1, 1) := by decide +kernel
theorem dX0_isGround_11 : decode cX0_isGround 11 = .ok (.invokevirtual 59, 3) := by decide +kernel
theorem dX0_isGround_14 : decode cX0_isGround 14 = .ok (.ifCond .eq 7, 3) := by decide +kernel
theorem dX0_isGround_17 : decode cX0_isGround 17 = .ok (.iconst 1, 1) := by decide +kernel
theorem dX0_isGround_18 : decode cX0_isGround 18 = .ok (.goto 4, 3) := by decide +kernel
theorem dX0_isGround_21 : decode cX0_isGround 21 = .ok (.iconst 0, 1) := by decide +kernel
theorem dX0_isGround_22 : decode cX0_isGround 22 = .ok (.ireturn, 1) := by decide +kernel
set_option maxRecDepth 20000 in
theorem ggX0_groundOf_X0_headOf : GoodIn wsX0_groundOf wsX0_headOf := goodIn_r _ [5, 6, 7, 8, 9, 28, 29, 30, 31, 32, 33] (by decide +kernel) (by decide +kernel)
set_option maxRecDepth 20000 in
theorem gX0_groundOf_X0_headOf : GoodIn wsX0_groundOf (wsV RX0 63 RX0 yX0_headOf wsX0_headOf) := goodIn_app (goodIn_of _ (by decide +kernel)) ggX0_groundOf_X0_headOf
set_option maxRecDepth 20000 in
theorem ggX0_groundOf_X0_isGround : GoodIn wsX0_groundOf wsX0_isGround := goodIn_r _ [13, 14, 15, 16, 4, 17, 18, 7, 8, 9, 19, 20, 21, 22, 23, 24, 25, 26, 27, 28, 29, 30, 31, 32, 33] (by decide +kernel) (by decide +kernel)
set_option maxRecDepth 20000 in
theorem gX0_groundOf_X0_isGround : GoodIn wsX0_groundOf (wsV RX0 66 RX0 yX0_isGround wsX0_isGround) := goodIn_app (goodIn_of _ (by decide +kernel)) ggX0_groundOf_X0_isGround
theorem dX0_groundOf_0 : decode cX0_groundOf 0 = .ok (.aload_n 0, 1) := by decide +kernel
theorem dX0_groundOf_1 : decode cX0_groundOf 1 = .ok (.iload_n 1, 1) := by decide +kernel
theorem dX0_groundOf_2 : decode cX0_groundOf 2 = .ok (.invokevirtual 63, 3) := by decide +kernel
theorem dX0_groundOf_5 : decode cX0_groundOf 5 = .ok (.iconst (-1), 1) := by decide +kernel
theorem dX0_groundOf_6 : decode cX0_groundOf 6 = .ok (.if_icmp .ne 5, 3) := by decide +kernel
theorem dX0_groundOf_9 : decode cX0_groundOf 9 = .ok (.iconst (-1), 1) := by decide +kernel
theorem dX0_groundOf_10 : decode cX0_groundOf 10 = .ok (.ireturn, 1) := by decide +kernel
theorem dX0_groundOf_11 : decode cX0_groundOf 11 = .ok (.iconst 0, 1) := by decide +kernel
theorem dX0_groundOf_12 : decode cX0_groundOf 12 = .ok (.istore_n 3, 1) := by decide +kernel
theorem dX0_groundOf_13 : decode cX0_groundOf 13 = .ok (.iconst 0, 1) := by decide +kernel
theorem dX0_groundOf_14 : decode cX0_groundOf 14 = .ok (.istore 4, 2) := by decide +kernel
theorem dX0_groundOf_16 : decode cX0_groundOf 16 = .ok (.iload 4, 2) := by decide +kernel
theorem dX0_groundOf_18 : decode cX0_groundOf 18 = .ok (.iload_n 1, 1) := by decide +kernel
theorem dX0_groundOf_19 : decode cX0_groundOf 19 = .ok (.if_icmp .gt 37, 3) := by decide +kernel
theorem dX0_groundOf_22 : decode cX0_groundOf 22 = .ok (.iload 4, 2) := by decide +kernel
theorem dX0_groundOf_24 : decode cX0_groundOf 24 = .ok (.bipush 60, 2) := by decide +kernel
theorem dX0_groundOf_26 : decode cX0_groundOf 26 = .ok (.if_icmp .ge 30, 3) := by decide +kernel
theorem dX0_groundOf_29 : decode cX0_groundOf 29 = .ok (.aload_n 0, 1) := by decide +kernel
theorem dX0_groundOf_30 : decode cX0_groundOf 30 = .ok (.iload 4, 2) := by decide +kernel
theorem dX0_groundOf_32 : decode cX0_groundOf 32 = .ok (.iload_n 1, 1) := by decide +kernel
theorem dX0_groundOf_33 : decode cX0_groundOf 33 = .ok (.invokevirtual 66, 3) := by decide +kernel
theorem dX0_groundOf_36 : decode cX0_groundOf 36 = .ok (.ifCond .eq 14, 3) := by decide +kernel
theorem dX0_groundOf_39 : decode cX0_groundOf 39 = .ok (.iload_n 3, 1) := by decide +kernel
theorem dX0_groundOf_40 : decode cX0_groundOf 40 = .ok (.iload_n 2, 1) := by decide +kernel
theorem dX0_groundOf_41 : decode cX0_groundOf 41 = .ok (.if_icmp .ne 6, 3) := by decide +kernel
theorem dX0_groundOf_44 : decode cX0_groundOf 44 = .ok (.iload 4, 2) := by decide +kernel
theorem dX0_groundOf_46 : decode cX0_groundOf 46 = .ok (.ireturn, 1) := by decide +kernel
theorem dX0_groundOf_47 : decode cX0_groundOf 47 = .ok (.iinc 3 1, 3) := by decide +kernel
theorem dX0_groundOf_50 : decode cX0_groundOf 50 = .ok (.iinc 4 1, 3) := by decide +kernel
theorem dX0_groundOf_53 : decode cX0_groundOf 53 = .ok (.goto (-37), 3) := by decide +kernel
theorem dX0_groundOf_56 : decode cX0_groundOf 56 = .ok (.iconst (-1), 1) := by decide +kernel
theorem dX0_groundOf_57 : decode cX0_groundOf 57 = .ok (.ireturn, 1) := by decide +kernel
theorem dX1_init_0 : decode cX1_init 0 = .ok (.aload_n 0, 1) := by decide +kernel
theorem dX1_init_1 : decode cX1_init 1 = .ok (.invokespecial 3, 3) := by decide +kernel
theorem dX1_init_4 : decode cX1_init 4 = .ok (.aload_n 0, 1) := by decide +kernel
theorem dX1_init_5 : decode cX1_init 5 = .ok (.bipush 80, 2) := by decide +kernel
theorem dX1_init_7 : decode cX1_init 7 = .ok (.newarray .int, 2) := by decide +kernel
theorem dX1_init_9 : decode cX1_init 9 = .ok (.putfield 9, 3) := by decide +kernel
theorem dX1_init_12 : decode cX1_init 12 = .ok (.aload_n 0, 1) := by decide +kernel
theorem dX1_init_13 : decode cX1_init 13 = .ok (.bipush 80, 2) := by decide +kernel
theorem dX1_init_15 : decode cX1_init 15 = .ok (.newarray .int, 2) := by decide +kernel
theorem dX1_init_17 : decode cX1_init 17 = .ok (.putfield 15, 3) := by decide +kernel
theorem dX1_init_20 : decode cX1_init 20 = .ok (.aload_n 0, 1) := by decide +kernel
theorem dX1_init_21 : decode cX1_init 21 = .ok (.bipush 80, 2) := by decide +kernel
theorem dX1_init_23 : decode cX1_init 23 = .ok (.newarray .int, 2) := by decide +kernel
theorem dX1_init_25 : decode cX1_init 25 = .ok (.putfield 18, 3) := by decide +kernel
theorem dX1_init_28 : decode cX1_init 28 = .ok (.aload_n 0, 1) := by decide +kernel
theorem dX1_init_29 : decode cX1_init 29 = .ok (.bipush 80, 2) := by decide +kernel
theorem dX1_init_31 : decode cX1_init 31 = .ok (.newarray .int, 2) := by decide +kernel
theorem dX1_init_33 : decode cX1_init 33 = .ok (.putfield 21, 3) := by decide +kernel
theorem dX1_init_36 : decode cX1_init 36 = .ok (.aload_n 0, 1) := by decide +kernel
theorem dX1_init_37 : decode cX1_init 37 = .ok (.bipush 80, 2) := by decide +kernel
theorem dX1_init_39 : decode cX1_init 39 = .ok (.newarray .long, 2) := by decide +kernel
theorem dX1_init_41 : decode cX1_init 41 = .ok (.putfield 24, 3) := by decide +kernel
theorem dX1_init_44 : decode cX1_init 44 = .ok (.aload_n 0, 1) := by decide +kernel
theorem dX1_init_45 : decode cX1_init 45 = .ok (.bipush 80, 2) := by decide +kernel
theorem dX1_init_47 : decode cX1_init 47 = .ok (.newarray .int, 2) := by decide +kernel
theorem dX1_init_49 : decode cX1_init 49 = .ok (.putfield 28, 3) := by decide +kernel
theorem dX1_init_52 : decode cX1_init 52 = .ok (.aload_n 0, 1) := by decide +kernel
theorem dX1_init_53 : decode cX1_init 53 = .ok (.iconst 0, 1) := by decide +kernel
theorem dX1_init_54 : decode cX1_init 54 = .ok (.putfield 31, 3) := by decide +kernel
theorem dX1_init_57 : decode cX1_init 57 = .ok (.return_, 1) := by decide +kernel
theorem dX1_count_0 : decode cX1_count 0 = .ok (.aload_n 0, 1) := by decide +kernel
theorem dX1_count_1 : decode cX1_count 1 = .ok (.getfield 31, 3) := by decide +kernel
theorem dX1_count_4 : decode cX1_count 4 = .ok (.ireturn, 1) := by decide +kernel
theorem dX1_has_0 : decode cX1_has 0 = .ok (.iload_n 1, 1) := by decide +kernel
theorem dX1_has_1 : decode cX1_has 1 = .ok (.ifCond .lt 15, 3) := by decide +kernel
theorem dX1_has_4 : decode cX1_has 4 = .ok (.iload_n 1, 1) := by decide +kernel
theorem dX1_has_5 : decode cX1_has 5 = .ok (.aload_n 0, 1) := by decide +kernel
theorem dX1_has_6 : decode cX1_has 6 = .ok (.getfield 31, 3) := by decide +kernel
theorem dX1_has_9 : decode cX1_has 9 = .ok (.if_icmp .ge 7, 3) := by decide +kernel
theorem dX1_has_12 : decode cX1_has 12 = .ok (.iconst 1, 1) := by decide +kernel
theorem dX1_has_13 : decode cX1_has 13 = .ok (.goto 4, 3) := by decide +kernel
theorem dX1_has_16 : decode cX1_has 16 = .ok (.iconst 0, 1) := by decide +kernel
theorem dX1_has_17 : decode cX1_has 17 = .ok (.ireturn, 1) := by decide +kernel
set_option maxRecDepth 20000 in
theorem ggX1_kindOf_X1_has : GoodIn wsX1_kindOf wsX1_has := goodIn_r _ [6, 7, 8, 9, 10, 11, 12, 13, 14] (by decide +kernel) (by decide +kernel)
set_option maxRecDepth 20000 in
theorem gX1_kindOf_X1_has : GoodIn wsX1_kindOf (wsV RX1 35 RX1 yX1_has wsX1_has) := goodIn_app (goodIn_of _ (by decide +kernel)) ggX1_kindOf_X1_has
theorem dX1_kindOf_0 : decode cX1_kindOf 0 = .ok (.aload_n 0, 1) := by decide +kernel
theorem dX1_kindOf_1 : decode cX1_kindOf 1 = .ok (.iload_n 1, 1) := by decide +kernel
theorem dX1_kindOf_2 : decode cX1_kindOf 2 = .ok (.invokevirtual 35, 3) := by decide +kernel
theorem dX1_kindOf_5 : decode cX1_kindOf 5 = .ok (.ifCond .eq 12, 3) := by decide +kernel
theorem dX1_kindOf_8 : decode cX1_kindOf 8 = .ok (.aload_n 0, 1) := by decide +kernel
theorem dX1_kindOf_9 : decode cX1_kindOf 9 = .ok (.getfield 9, 3) := by decide +kernel
theorem dX1_kindOf_12 : decode cX1_kindOf 12 = .ok (.iload_n 1, 1) := by decide +kernel
theorem dX1_kindOf_13 : decode cX1_kindOf 13 = .ok (.iaload, 1) := by decide +kernel
theorem dX1_kindOf_14 : decode cX1_kindOf 14 = .ok (.goto 4, 3) := by decide +kernel
theorem dX1_kindOf_17 : decode cX1_kindOf 17 = .ok (.iconst (-1), 1) := by decide +kernel
theorem dX1_kindOf_18 : decode cX1_kindOf 18 = .ok (.ireturn, 1) := by decide +kernel
set_option maxRecDepth 20000 in
theorem ggX1_firstOf_X1_has : GoodIn wsX1_firstOf wsX1_has := goodIn_r _ [6, 7, 8, 9, 10, 11, 12, 13, 14] (by decide +kernel) (by decide +kernel)
set_option maxRecDepth 20000 in
theorem gX1_firstOf_X1_has : GoodIn wsX1_firstOf (wsV RX1 35 RX1 yX1_has wsX1_has) := goodIn_app (goodIn_of _ (by decide +kernel)) ggX1_firstOf_X1_has
theorem dX1_firstOf_0 : decode cX1_firstOf 0 = .ok (.aload_n 0, 1) := by decide +kernel
theorem dX1_firstOf_1 : decode cX1_firstOf 1 = .ok (.iload_n 1, 1) := by decide +kernel
theorem dX1_firstOf_2 : decode cX1_firstOf 2 = .ok (.invokevirtual 35, 3) := by decide +kernel
theorem dX1_firstOf_5 : decode cX1_firstOf 5 = .ok (.ifCond .eq 12, 3) := by decide +kernel
theorem dX1_firstOf_8 : decode cX1_firstOf 8 = .ok (.aload_n 0, 1) := by decide +kernel
theorem dX1_firstOf_9 : decode cX1_firstOf 9 = .ok (.getfield 15, 3) := by decide +kernel
theorem dX1_firstOf_12 : decode cX1_firstOf 12 = .ok (.iload_n 1, 1) := by decide +kernel
theorem dX1_firstOf_13 : decode cX1_firstOf 13 = .ok (.iaload, 1) := by decide +kernel
theorem dX1_firstOf_14 : decode cX1_firstOf 14 = .ok (.goto 4, 3) := by decide +kernel
theorem dX1_firstOf_17 : decode cX1_firstOf 17 = .ok (.iconst (-1), 1) := by decide +kernel
theorem dX1_firstOf_18 : decode cX1_firstOf 18 = .ok (.ireturn, 1) := by decide +kernel
set_option maxRecDepth 20000 in
theorem ggX1_secondOf_X1_has : GoodIn wsX1_secondOf wsX1_has := goodIn_r _ [6, 7, 8, 9, 10, 11, 12, 13, 14] (by decide +kernel) (by decide +kernel)
set_option maxRecDepth 20000 in
theorem gX1_secondOf_X1_has : GoodIn wsX1_secondOf (wsV RX1 35 RX1 yX1_has wsX1_has) := goodIn_app (goodIn_of _ (by decide +kernel)) ggX1_secondOf_X1_has
theorem dX1_secondOf_0 : decode cX1_secondOf 0 = .ok (.aload_n 0, 1) := by decide +kernel
theorem dX1_secondOf_1 : decode cX1_secondOf 1 = .ok (.iload_n 1, 1) := by decide +kernel
theorem dX1_secondOf_2 : decode cX1_secondOf 2 = .ok (.invokevirtual 35, 3) := by decide +kernel
theorem dX1_secondOf_5 : decode cX1_secondOf 5 = .ok (.ifCond .eq 12, 3) := by decide +kernel
theorem dX1_secondOf_8 : decode cX1_secondOf 8 = .ok (.aload_n 0, 1) := by decide +kernel
theorem dX1_secondOf_9 : decode cX1_secondOf 9 = .ok (.getfield 18, 3) := by decide +kernel
theorem dX1_secondOf_12 : decode cX1_secondOf 12 = .ok (.iload_n 1, 1) := by decide +kernel
theorem dX1_secondOf_13 : decode cX1_secondOf 13 = .ok (.iaload, 1) := by decide +kernel
theorem dX1_secondOf_14 : decode cX1_secondOf 14 = .ok (.goto 4, 3) := by decide +kernel
theorem dX1_secondOf_17 : decode cX1_secondOf 17 = .ok (.iconst (-1), 1) := by decide +kernel
theorem dX1_secondOf_18 : decode cX1_secondOf 18 = .ok (.ireturn, 1) := by decide +kernel
set_option maxRecDepth 20000 in
theorem ggX1_heightOf_X1_has : GoodIn wsX1_heightOf wsX1_has := goodIn_r _ [6, 7, 8, 9, 10, 11, 12, 13, 14] (by decide +kernel) (by decide +kernel)
set_option maxRecDepth 20000 in
theorem gX1_heightOf_X1_has : GoodIn wsX1_heightOf (wsV RX1 35 RX1 yX1_has wsX1_has) := goodIn_app (goodIn_of _ (by decide +kernel)) ggX1_heightOf_X1_has
theorem dX1_heightOf_0 : decode cX1_heightOf 0 = .ok (.aload_n 0, 1) := by decide +kernel
theorem dX1_heightOf_1 : decode cX1_heightOf 1 = .ok (.iload_n 1, 1) := by decide +kernel
theorem dX1_heightOf_2 : decode cX1_heightOf 2 = .ok (.invokevirtual 35, 3) := by decide +kernel
theorem dX1_heightOf_5 : decode cX1_heightOf 5 = .ok (.ifCond .eq 12, 3) := by decide +kernel
theorem dX1_heightOf_8 : decode cX1_heightOf 8 = .ok (.aload_n 0, 1) := by decide +kernel
theorem dX1_heightOf_9 : decode cX1_heightOf 9 = .ok (.getfield 21, 3) := by decide +kernel
theorem dX1_heightOf_12 : decode cX1_heightOf 12 = .ok (.iload_n 1, 1) := by decide +kernel
theorem dX1_heightOf_13 : decode cX1_heightOf 13 = .ok (.iaload, 1) := by decide +kernel
theorem dX1_heightOf_14 : decode cX1_heightOf 14 = .ok (.goto 4, 3) := by decide +kernel
theorem dX1_heightOf_17 : decode cX1_heightOf 17 = .ok (.iconst 0, 1) := by decide +kernel
theorem dX1_heightOf_18 : decode cX1_heightOf 18 = .ok (.ireturn, 1) := by decide +kernel
set_option maxRecDepth 20000 in
theorem ggX1_tableOf_X1_has : GoodIn wsX1_tableOf wsX1_has := goodIn_r _ [6, 7, 8, 9, 10, 11, 12, 13, 14] (by decide +kernel) (by decide +kernel)
set_option maxRecDepth 20000 in
theorem gX1_tableOf_X1_has : GoodIn wsX1_tableOf (wsV RX1 35 RX1 yX1_has wsX1_has) := goodIn_app (goodIn_of _ (by decide +kernel)) ggX1_tableOf_X1_has
theorem dX1_tableOf_0 : decode cX1_tableOf 0 = .ok (.aload_n 0, 1) := by decide +kernel
theorem dX1_tableOf_1 : decode cX1_tableOf 1 = .ok (.iload_n 1, 1) := by decide +kernel
theorem dX1_tableOf_2 : decode cX1_tableOf 2 = .ok (.invokevirtual 35, 3) := by decide +kernel
theorem dX1_tableOf_5 : decode cX1_tableOf 5 = .ok (.ifCond .eq 12, 3) := by decide +kernel
theorem dX1_tableOf_8 : decode cX1_tableOf 8 = .ok (.aload_n 0, 1) := by decide +kernel
theorem dX1_tableOf_9 : decode cX1_tableOf 9 = .ok (.getfield 24, 3) := by decide +kernel
theorem dX1_tableOf_12 : decode cX1_tableOf 12 = .ok (.iload_n 1, 1) := by decide +kernel
theorem dX1_tableOf_13 : decode cX1_tableOf 13 = .ok (.laload, 1) := by decide +kernel
theorem dX1_tableOf_14 : decode cX1_tableOf 14 = .ok (.goto 4, 3) := by decide +kernel
theorem dX1_tableOf_17 : decode cX1_tableOf 17 = .ok (.lconst 0, 1) := by decide +kernel
theorem dX1_tableOf_18 : decode cX1_tableOf 18 = .ok (.lreturn, 1) := by decide +kernel
set_option maxRecDepth 20000 in
theorem ggX1_make_X1_find : GoodIn wsX1_make wsX1_find := goodIn_r _ [15, 5, 6, 7, 8, 37, 38, 39, 40, 41, 42, 43] (by decide +kernel) (by decide +kernel)
set_option maxRecDepth 20000 in
theorem gX1_make_X1_find : GoodIn wsX1_make (wsV RX1 39 RX1 yX1_find wsX1_find) := goodIn_app (goodIn_of _ (by decide +kernel)) ggX1_make_X1_find
set_option maxRecDepth 20000 in
theorem ggX1_make_X1_heightOf : GoodIn wsX1_make wsX1_heightOf := goodIn_r _ [19, 9, 20, 21, 22, 14, 23, 5, 37, 38, 39, 40, 41, 42, 43] (by decide +kernel) (by decide +kernel)
set_option maxRecDepth 20000 in
theorem gX1_make_X1_heightOf : GoodIn wsX1_make (wsV RX1 43 RX1 yX1_heightOf wsX1_heightOf) := goodIn_app (goodIn_of _ (by decide +kernel)) ggX1_make_X1_heightOf
set_option maxRecDepth 20000 in
theorem ggX1_make_X1_tableFor : GoodIn wsX1_make wsX1_tableFor := goodIn_r _ [27, 28, 29, 30, 31, 32, 33, 34, 35, 14, 36, 10, 20, 21, 22, 23, 5, 37, 38, 39, 40, 41, 42, 43] (by decide +kernel) (by decide +kernel)
set_option maxRecDepth 20000 in
theorem gX1_make_X1_tableFor : GoodIn wsX1_make (wsV RX1 53 RX1 yX1_tableFor wsX1_tableFor) := goodIn_app (goodIn_of _ (by decide +kernel)) ggX1_make_X1_tableFor
theorem dX1_make_0 : decode cX1_make 0 = .ok (.aload_n 0, 1) := by decide +kernel
theorem dX1_make_1 : decode cX1_make 1 = .ok (.iload_n 1, 1) := by decide +kernel
theorem dX1_make_2 : decode cX1_make 2 = .ok (.iload_n 2, 1) := by decide +kernel
theorem dX1_make_3 : decode cX1_make 3 = .ok (.iload_n 3, 1) := by decide +kernel
theorem dX1_make_4 : decode cX1_make 4 = .ok (.invokevirtual 39, 3) := by decide +kernel
theorem dX1_make_7 : decode cX1_make 7 = .ok (.istore 4, 2) := by decide +kernel
theorem dX1_make_9 : decode cX1_make 9 = .ok (.iload 4, 2) := by decide +kernel
theorem dX1_make_11 : decode cX1_make 11 = .ok (.iconst (-1), 1) := by decide +kernel
theorem dX1_make_12 : decode cX1_make 12 = .ok (.if_icmp .eq 6, 3) := by decide +kernel
theorem dX1_make_15 : decode cX1_make 15 = .ok (.iload 4, 2) := by decide +kernel
theorem dX1_make_17 : decode cX1_make 17 = .ok (.ireturn, 1) := by decide +kernel
theorem dX1_make_18 : decode cX1_make 18 = .ok (.iload_n 1, 1) := by decide +kernel
theorem dX1_make_19 : decode cX1_make 19 = .ok (.iconst 2, 1) := by decide +kernel
theorem dX1_make_20 : decode cX1_make 20 = .ok (.if_icmp .ge 7, 3) := by decide +kernel
theorem dX1_make_23 : decode cX1_make 23 = .ok (.iconst 1, 1) := by decide +kernel
theorem dX1_make_24 : decode cX1_make 24 = .ok (.goto 18, 3) := by decide +kernel
theorem dX1_make_27 : decode cX1_make 27 = .ok (.iconst 1, 1) := by decide +kernel
theorem dX1_make_28 : decode cX1_make 28 = .ok (.aload_n 0, 1) := by decide +kernel
theorem dX1_make_29 : decode cX1_make 29 = .ok (.iload_n 2, 1) := by decide +kernel
theorem dX1_make_30 : decode cX1_make 30 = .ok (.invokevirtual 43, 3) := by decide +kernel
theorem dX1_make_33 : decode cX1_make 33 = .ok (.aload_n 0, 1) := by decide +kernel
theorem dX1_make_34 : decode cX1_make 34 = .ok (.iload_n 3, 1) := by decide +kernel
theorem dX1_make_35 : decode cX1_make 35 = .ok (.invokevirtual 43, 3) := by decide +kernel
theorem dX1_make_38 : decode cX1_make 38 = .ok (.invokestatic 47, 3) := by decide +kernel
theorem dX1_make_41 : decode cX1_make 41 = .ok (.iadd, 1) := by decide +kernel
theorem dX1_make_42 : decode cX1_make 42 = .ok (.istore 5, 2) := by decide +kernel
theorem dX1_make_44 : decode cX1_make 44 = .ok (.aload_n 0, 1) := by decide +kernel
theorem dX1_make_45 : decode cX1_make 45 = .ok (.getfield 31, 3) := by decide +kernel
theorem dX1_make_48 : decode cX1_make 48 = .ok (.bipush 80, 2) := by decide +kernel
theorem dX1_make_50 : decode cX1_make 50 = .ok (.if_icmp .ge 10, 3) := by decide +kernel
theorem dX1_make_53 : decode cX1_make 53 = .ok (.iload 5, 2) := by decide +kernel
theorem dX1_make_55 : decode cX1_make 55 = .ok (.bipush 12, 2) := by decide +kernel
theorem dX1_make_57 : decode cX1_make 57 = .ok (.if_icmp .le 6, 3) := by decide +kernel
theorem dX1_make_60 : decode cX1_make 60 = .ok (.bipush (-4), 2) := by decide +kernel
theorem dX1_make_62 : decode cX1_make 62 = .ok (.ireturn, 1) := by decide +kernel
theorem dX1_make_63 : decode cX1_make 63 = .ok (.aload_n 0, 1) := by decide +kernel
theorem dX1_make_64 : decode cX1_make 64 = .ok (.getfield 9, 3) := by decide +kernel
theorem dX1_make_67 : decode cX1_make 67 = .ok (.aload_n 0, 1) := by decide +kernel
theorem dX1_make_68 : decode cX1_make 68 = .ok (.getfield 31, 3) := by decide +kernel
theorem dX1_make_71 : decode cX1_make 71 = .ok (.iload_n 1, 1) := by decide +kernel
theorem dX1_make_72 : decode cX1_make 72 = .ok (.iastore, 1) := by decide +kernel
theorem dX1_make_73 : decode cX1_make 73 = .ok (.aload_n 0, 1) := by decide +kernel
theorem dX1_make_74 : decode cX1_make 74 = .ok (.getfield 15, 3) := by decide +kernel
theorem dX1_make_77 : decode cX1_make 77 = .ok (.aload_n 0, 1) := by decide +kernel
theorem dX1_make_78 : decode cX1_make 78 = .ok (.getfield 31, 3) := by decide +kernel
theorem dX1_make_81 : decode cX1_make 81 = .ok (.iload_n 2, 1) := by decide +kernel
theorem dX1_make_82 : decode cX1_make 82 = .ok (.iastore, 1) := by decide +kernel
theorem dX1_make_83 : decode cX1_make 83 = .ok (.aload_n 0, 1) := by decide +kernel
theorem dX1_make_84 : decode cX1_make 84 = .ok (.getfield 18, 3) := by decide +kernel
theorem dX1_make_87 : decode cX1_make 87 = .ok (.aload_n 0, 1) := by decide +kernel
theorem dX1_make_88 : decode cX1_make 88 = .ok (.getfield 31, 3) := by decide +kernel
theorem dX1_make_91 : decode cX1_make 91 = .ok (.iload_n 3, 1) := by decide +kernel
theorem dX1_make_92 : decode cX1_make 92 = .ok (.iastore, 1) := by decide +kernel
theorem dX1_make_93 : decode cX1_make 93 = .ok (.aload_n 0, 1) := by decide +kernel
theorem dX1_make_94 : decode cX1_make 94 = .ok (.getfield 21, 3) := by decide +kernel
theorem dX1_make_97 : decode cX1_make 97 = .ok (.aload_n 0, 1) := by decide +kernel
theorem dX1_make_98 : decode cX1_make 98 = .ok (.getfield 31, 3) := by decide +kernel
theorem dX1_make_101 : decode cX1_make 101 = .ok (.iload 5, 2) := by decide +kernel
theorem dX1_make_103 : decode cX1_make 103 = .ok (.iastore, 1) := by decide +kernel
theorem dX1_make_104 : decode cX1_make 104 = .ok (.aload_n 0, 1) := by decide +kernel
theorem dX1_make_105 : decode cX1_make 105 = .ok (.getfield 24, 3) := by decide +kernel
theorem dX1_make_108 : decode cX1_make 108 = .ok (.aload_n 0, 1) := by decide +kernel
theorem dX1_make_109 : decode cX1_make 109 = .ok (.getfield 31, 3) := by decide +kernel
theorem dX1_make_112 : decode cX1_make 112 = .ok (.aload_n 0, 1) := by decide +kernel
theorem dX1_make_113 : decode cX1_make 113 = .ok (.iload_n 1, 1) := by decide +kernel
theorem dX1_make_114 : decode cX1_make 114 = .ok (.iload_n 2, 1) := by decide +kernel
theorem dX1_make_115 : decode cX1_make 115 = .ok (.iload_n 3, 1) := by decide +kernel
theorem dX1_make_116 : decode cX1_make 116 = .ok (.invokevirtual 53, 3) := by decide +kernel
theorem dX1_make_119 : decode cX1_make 119 = .ok (.lastore, 1) := by decide +kernel
theorem dX1_make_120 : decode cX1_make 120 = .ok (.aload_n 0, 1) := by decide +kernel
theorem dX1_make_121 : decode cX1_make 121 = .ok (.dup, 1) := by decide +kernel
theorem dX1_make_122 : decode cX1_make 122 = .ok (.getfield 31, 3) := by decide +kernel
theorem dX1_make_125 : decode cX1_make 125 = .ok (.iconst 1, 1) := by decide +kernel
theorem dX1_make_126 : decode cX1_make 126 = .ok (.iadd, 1) := by decide +kernel
theorem dX1_make_127 : decode cX1_make 127 = .ok (.putfield 31, 3) := by decide +kernel
theorem dX1_make_130 : decode cX1_make 130 = .ok (.aload_n 0, 1) := by decide +kernel
theorem dX1_make_131 : decode cX1_make 131 = .ok (.getfield 31, 3) := by decide +kernel
theorem dX1_make_134 : decode cX1_make 134 = .ok (.iconst 1, 1) := by decide +kernel
theorem dX1_make_135 : decode cX1_make 135 = .ok (.isub, 1) := by decide +kernel
theorem dX1_make_136 : decode cX1_make 136 = .ok (.ireturn, 1) := by decide +kernel
theorem dX1_find_0 : decode cX1_find 0 = .ok (.iconst 0, 1) := by decide +kernel
theorem dX1_find_1 : decode cX1_find 1 = .ok (.istore 4, 2) := by decide +kernel
theorem dX1_find_3 : decode cX1_find 3 = .ok (.iload 4, 2) := by decide +kernel
theorem dX1_find_5 : decode cX1_find 5 = .ok (.aload_n 0, 1) := by decide +kernel
theorem dX1_find_6 : decode cX1_find 6 = .ok (.getfield 31, 3) := by decide +kernel
theorem dX1_find_9 : decode cX1_find 9 = .ok (.if_icmp .ge 45, 3) := by decide +kernel
theorem dX1_find_12 : decode cX1_find 12 = .ok (.aload_n 0, 1) := by decide +kernel
theorem dX1_find_13 : decode cX1_find 13 = .ok (.getfield 9, 3) := by decide +kernel
theorem dX1_find_16 : decode cX1_find 16 = .ok (.iload 4, 2) := by decide +kernel
theorem dX1_find_18 : decode cX1_find 18 = .ok (.iaload, 1) := by decide +kernel
theorem dX1_find_19 : decode cX1_find 19 = .ok (.iload_n 1, 1) := by decide +kernel
theorem dX1_find_20 : decode cX1_find 20 = .ok (.if_icmp .ne 28, 3) := by decide +kernel
theorem dX1_find_23 : decode cX1_find 23 = .ok (.aload_n 0, 1) := by decide +kernel
theorem dX1_find_24 : decode cX1_find 24 = .ok (.getfield 15, 3) := by decide +kernel
theorem dX1_find_27 : decode cX1_find 27 = .ok (.iload 4, 2) := by decide +kernel
theorem dX1_find_29 : decode cX1_find 29 = .ok (.iaload, 1) := by decide +kernel
theorem dX1_find_30 : decode cX1_find 30 = .ok (.iload_n 2, 1) := by decide +kernel
theorem dX1_find_31 : decode cX1_find 31 = .ok (.if_icmp .ne 17, 3) := by decide +kernel
theorem dX1_find_34 : decode cX1_find 34 = .ok (.aload_n 0, 1) := by decide +kernel
theorem dX1_find_35 : decode cX1_find 35 = .ok (.getfield 18, 3) := by decide +kernel
theorem dX1_find_38 : decode cX1_find 38 = .ok (.iload 4, 2) := by decide +kernel
theorem dX1_find_40 : decode cX1_find 40 = .ok (.iaload, 1) := by decide +kernel
theorem dX1_find_41 : decode cX1_find 41 = .ok (.iload_n 3, 1) := by decide +kernel
theorem dX1_find_42 : decode cX1_find 42 = .ok (.if_icmp .ne 6, 3) := by decide +kernel
theorem dX1_find_45 : decode cX1_find 45 = .ok (.iload 4, 2) := by decide +kernel
theorem dX1_find_47 : decode cX1_find 47 = .ok (.ireturn, 1) := by decide +kernel
theorem dX1_find_48 : decode cX1_find 48 = .ok (.iinc 4 1, 3) := by decide +kernel
theorem dX1_find_51 : decode cX1_find 51 = .ok (.goto (-48), 3) := by decide +kernel
theorem dX1_find_54 : decode cX1_find 54 = .ok (.iconst (-1), 1) := by decide +kernel
theorem dX1_find_55 : decode cX1_find 55 = .ok (.ireturn, 1) := by decide +kernel
set_option maxRecDepth 20000 in
theorem ggX1_tableFor_X3_isLetter : GoodIn wsX1_tableFor wsX3_isLetter := goodIn_r _ [5] (by decide +kernel) (by decide +kernel)
set_option maxRecDepth 20000 in
theorem gX1_tableFor_X3_isLetter_n57 : GoodIn wsX1_tableFor (wsX3_isLetter) := ggX1_tableFor_X3_isLetter
set_option maxRecDepth 20000 in
theorem ggX1_tableFor_X1_tableOf : GoodIn wsX1_tableFor wsX1_tableOf := goodIn_r _ [10, 11, 12, 13, 14, 9, 15, 16, 17, 18, 19, 20, 21, 22, 23] (by decide +kernel) (by decide +kernel)
set_option maxRecDepth 20000 in
theorem gX1_tableFor_X1_tableOf : GoodIn wsX1_tableFor (wsV RX1 63 RX1 yX1_tableOf wsX1_tableOf) := goodIn_app (goodIn_of _ (by decide +kernel)) ggX1_tableFor_X1_tableOf
theorem dX1_tableFor_0 : decode cX1_tableFor 0 = .ok (.iload_n 1, 1) := by decide +kernel
theorem dX1_tableFor_1 : decode cX1_tableFor 1 = .ok (.tableswitch 88 1 4 #[31, 48, 60, 72], 31) := by decide +kernel
theorem dX1_tableFor_32 : decode cX1_tableFor 32 = .ok (.iload_n 2, 1) := by decide +kernel
theorem dX1_tableFor_33 : decode cX1_tableFor 33 = .ok (.invokestatic 57, 3) := by decide +kernel
theorem dX1_tableFor_36 : decode cX1_tableFor 36 = .ok (.ifCond .eq 11, 3) := by decide +kernel
theorem dX1_tableFor_39 : decode cX1_tableFor 39 = .ok (.getstatic 60, 3) := by decide +kernel
theorem dX1_tableFor_42 : decode cX1_tableFor 42 = .ok (.iload_n 2, 1) := by decide +kernel
theorem dX1_tableFor_43 : decode cX1_tableFor 43 = .ok (.laload, 1) := by decide +kernel
theorem dX1_tableFor_44 : decode cX1_tableFor 44 = .ok (.goto 4, 3) := by decide +kernel
theorem dX1_tableFor_47 : decode cX1_tableFor 47 = .ok (.lconst 0, 1) := by decide +kernel
theorem dX1_tableFor_48 : decode cX1_tableFor 48 = .ok (.lreturn, 1) := by decide +kernel
theorem dX1_tableFor_49 : decode cX1_tableFor 49 = .ok (.aload_n 0, 1) := by decide +kernel
theorem dX1_tableFor_50 : decode cX1_tableFor 50 = .ok (.iload_n 2, 1) := by decide +kernel
theorem dX1_tableFor_51 : decode cX1_tableFor 51 = .ok (.invokevirtual 63, 3) := by decide +kernel
theorem dX1_tableFor_54 : decode cX1_tableFor 54 = .ok (.aload_n 0, 1) := by decide +kernel
theorem dX1_tableFor_55 : decode cX1_tableFor 55 = .ok (.iload_n 3, 1) := by decide +kernel
theorem dX1_tableFor_56 : decode cX1_tableFor 56 = .ok (.invokevirtual 63, 3) := by decide +kernel
theorem dX1_tableFor_59 : decode cX1_tableFor 59 = .ok (.land, 1) := by decide +kernel
theorem dX1_tableFor_60 : decode cX1_tableFor 60 = .ok (.lreturn, 1) := by decide +kernel
theorem dX1_tableFor_61 : decode cX1_tableFor 61 = .ok (.aload_n 0, 1) := by decide +kernel
theorem dX1_tableFor_62 : decode cX1_tableFor 62 = .ok (.iload_n 2, 1) := by decide +kernel
theorem dX1_tableFor_63 : decode cX1_tableFor 63 = .ok (.invokevirtual 63, 3) := by decide +kernel
theorem dX1_tableFor_66 : decode cX1_tableFor 66 = .ok (.aload_n 0, 1) := by decide +kernel
theorem dX1_tableFor_67 : decode cX1_tableFor 67 = .ok (.iload_n 3, 1) := by decide +kernel
theorem dX1_tableFor_68 : decode cX1_tableFor 68 = .ok (.invokevirtual 63, 3) := by decide +kernel
theorem dX1_tableFor_71 : decode cX1_tableFor 71 = .ok (.lor, 1) := by decide +kernel
theorem dX1_tableFor_72 : decode cX1_tableFor 72 = .ok (.lreturn, 1) := by decide +kernel
theorem dX1_tableFor_73 : decode cX1_tableFor 73 = .ok (.aload_n 0, 1) := by decide +kernel
theorem dX1_tableFor_74 : decode cX1_tableFor 74 = .ok (.iload_n 2, 1) := by decide +kernel
theorem dX1_tableFor_75 : decode cX1_tableFor 75 = .ok (.invokevirtual 63, 3) := by decide +kernel
theorem dX1_tableFor_78 : decode cX1_tableFor 78 = .ok (.ldc2_w 67, 3) := by decide +kernel
theorem dX1_tableFor_81 : decode cX1_tableFor 81 = .ok (.lxor, 1) := by decide +kernel
theorem dX1_tableFor_82 : decode cX1_tableFor 82 = .ok (.aload_n 0, 1) := by decide +kernel
theorem dX1_tableFor_83 : decode cX1_tableFor 83 = .ok (.iload_n 3, 1) := by decide +kernel
theorem dX1_tableFor_84 : decode cX1_tableFor 84 = .ok (.invokevirtual 63, 3) := by decide +kernel
theorem dX1_tableFor_87 : decode cX1_tableFor 87 = .ok (.lor, 1) := by decide +kernel
theorem dX1_tableFor_88 : decode cX1_tableFor 88 = .ok (.lreturn, 1) := by decide +kernel
theorem dX1_tableFor_89 : decode cX1_tableFor 89 = .ok (.lconst 0, 1) := by decide +kernel
theorem dX1_tableFor_90 : decode cX1_tableFor 90 = .ok (.lreturn, 1) := by decide +kernel
set_option maxRecDepth 20000 in
theorem ggX1_replace_J7_fill_53178 : GoodIn wsX1_replace wsJ7_fill_53178 := goodIn_r _ [5] (by decide +kernel) (by decide +kernel)
set_option maxRecDepth 20000 in
theorem gX1_replace_J7_fill_53178 : GoodIn wsX1_replace (va_wsS RX1 69 yJ7_fill_53178 wsJ7_fill_53178) := goodIn_app (goodIn_of _ (by decide +kernel)) ggX1_replace_J7_fill_53178
set_option maxRecDepth 20000 in
theorem ggX1_replace_X1_replaceIn : GoodIn wsX1_replace wsX1_replaceIn := goodIn_r _ [10, 11, 12, 1, 13, 14, 15, 16, 9, 17, 18, 6, 7, 8, 19, 20, 21, 22, 23, 24, 25, 26, 27, 28, 29, 30, 31, 32, 33, 34, 35, 36, 37, 38, 39, 40, 41, 42, 43, 44, 45, 46, 47, 48, 49, 50, 51, 52, 53, 54, 55, 56] (by decide +kernel) (by decide +kernel)
set_option maxRecDepth 20000 in
theorem gX1_replace_X1_replaceIn : GoodIn wsX1_replace (wsV RX1 75 RX1 yX1_replaceIn wsX1_replaceIn) := goodIn_app (goodIn_of _ (by decide +kernel)) ggX1_replace_X1_replaceIn
theorem dX1_replace_0 : decode cX1_replace 0 = .ok (.aload_n 0, 1) := by decide +kernel
theorem dX1_replace_1 : decode cX1_replace 1 = .ok (.getfield 28, 3) := by decide +kernel
theorem dX1_replace_4 : decode cX1_replace 4 = .ok (.iconst (-1), 1) := by decide +kernel
theorem dX1_replace_5 : decode cX1_replace 5 = .ok (.invokestatic 69, 3) := by decide +kernel
theorem dX1_replace_8 : decode cX1_replace 8 = .ok (.aload_n 0, 1) := by decide +kernel
theorem dX1_replace_9 : decode cX1_replace 9 = .ok (.iload_n 1, 1) := by decide +kernel
theorem dX1_replace_10 : decode cX1_replace 10 = .ok (.iload_n 2, 1) := by decide +kernel
theorem dX1_replace_11 : decode cX1_replace 11 = .ok (.iload_n 3, 1) := by decide +kernel
theorem dX1_replace_12 : decode cX1_replace 12 = .ok (.iconst 1, 1) := by decide +kernel
theorem dX1_replace_13 : decode cX1_replace 13 = .ok (.invokevirtual 75, 3) := by decide +kernel
theorem dX1_replace_16 : decode cX1_replace 16 = .ok (.ireturn, 1) := by decide +kernel
set_option maxRecDepth 20000 in
theorem ggX1_replaceIn_X1_has : GoodIn wsX1_replaceIn wsX1_has := goodIn_r _ [9, 10, 45, 46, 47, 48, 49, 50, 51] (by decide +kernel) (by decide +kernel)
set_option maxRecDepth 20000 in
theorem gX1_replaceIn_X1_has : GoodIn wsX1_replaceIn (wsV RX1 35 RX1 yX1_has wsX1_has) := goodIn_app (goodIn_of _ (by decide +kernel)) ggX1_replaceIn_X1_has
set_option maxRecDepth 20000 in
theorem ggX1_replaceIn_X1_replaceIn : GoodIn wsX1_replaceIn wsX1_replaceIn := goodIn_r _ [0, 1, 2, 3, 4, 5, 6, 7, 8, 9, 10, 11, 12, 13, 14, 15, 16, 17, 18, 19, 20, 21, 22, 23, 24, 25, 26, 27, 28, 29, 30, 31, 32, 33, 34, 35, 36, 37, 38, 39, 40, 41, 42, 43, 44, 45, 46, 47, 48, 49, 50, 51] (by decide +kernel) (by decide +kernel)
set_option maxRecDepth 20000 in
theorem gX1_replaceIn_X1_replaceIn : GoodIn wsX1_replaceIn (wsV RX1 75 RX1 yX1_replaceIn wsX1_replaceIn) := goodIn_app (goodIn_of _ (by decide +kernel)) ggX1_replaceIn_X1_replaceIn
set_option maxRecDepth 20000 in
theorem ggX1_replaceIn_X1_make : GoodIn wsX1_replaceIn wsX1_make := goodIn_r _ [17, 18, 19, 20, 21, 10, 1, 2, 4, 22, 23, 24, 25, 26, 8, 27, 28, 29, 30, 31, 5, 6, 7, 9, 32, 33, 34, 35, 36, 37, 38, 39, 40, 41, 42, 43, 44, 45, 46, 47, 48, 49, 50, 51] (by decide +kernel) (by decide +kernel)
set_option maxRecDepth 20000 in
theorem gX1_replaceIn_X1_make : GoodIn wsX1_replaceIn (wsV RX1 79 RX1 yX1_make wsX1_make) := goodIn_app (goodIn_of _ (by decide +kernel)) ggX1_replaceIn_X1_make
theorem dX1_replaceIn_0 : decode cX1_replaceIn 0 = .ok (.iload 4, 2) := by decide +kernel
theorem dX1_replaceIn_2 : decode cX1_replaceIn 2 = .ok (.bipush 12, 2) := by decide +kernel
theorem dX1_replaceIn_4 : decode cX1_replaceIn 4 = .ok (.if_icmp .gt 11, 3) := by decide +kernel
theorem dX1_replaceIn_7 : decode cX1_replaceIn 7 = .ok (.aload_n 0, 1) := by decide +kernel
theorem dX1_replaceIn_8 : decode cX1_replaceIn 8 = .ok (.iload_n 1, 1) := by decide +kernel
theorem dX1_replaceIn_9 : decode cX1_replaceIn 9 = .ok (.invokevirtual 35, 3) := by decide +kernel
theorem dX1_replaceIn_12 : decode cX1_replaceIn 12 = .ok (.ifCond .ne 6, 3) := by decide +kernel
theorem dX1_replaceIn_15 : decode cX1_replaceIn 15 = .ok (.bipush (-4), 2) := by decide +kernel
theorem dX1_replaceIn_17 : decode cX1_replaceIn 17 = .ok (.ireturn, 1) := by decide +kernel
theorem dX1_replaceIn_18 : decode cX1_replaceIn 18 = .ok (.aload_n 0, 1) := by decide +kernel
theorem dX1_replaceIn_19 : decode cX1_replaceIn 19 = .ok (.getfield 9, 3) := by decide +kernel
theorem dX1_replaceIn_22 : decode cX1_replaceIn 22 = .ok (.iload_n 1, 1) := by decide +kernel
theorem dX1_replaceIn_23 : decode cX1_replaceIn 23 = .ok (.iaload, 1) := by decide +kernel
theorem dX1_replaceIn_24 : decode cX1_replaceIn 24 = .ok (.iconst 2, 1) := by decide +kernel
theorem dX1_replaceIn_25 : decode cX1_replaceIn 25 = .ok (.if_icmp .ge 29, 3) := by decide +kernel
theorem dX1_replaceIn_28 : decode cX1_replaceIn 28 = .ok (.aload_n 0, 1) := by decide +kernel
theorem dX1_replaceIn_29 : decode cX1_replaceIn 29 = .ok (.getfield 9, 3) := by decide +kernel
theorem dX1_replaceIn_32 : decode cX1_replaceIn 32 = .ok (.iload_n 1, 1) := by decide +kernel
theorem dX1_replaceIn_33 : decode cX1_replaceIn 33 = .ok (.iaload, 1) := by decide +kernel
theorem dX1_replaceIn_34 : decode cX1_replaceIn 34 = .ok (.iconst 1, 1) := by decide +kernel
theorem dX1_replaceIn_35 : decode cX1_replaceIn 35 = .ok (.if_icmp .ne 17, 3) := by decide +kernel
theorem dX1_replaceIn_38 : decode cX1_replaceIn 38 = .ok (.aload_n 0, 1) := by decide +kernel
theorem dX1_replaceIn_39 : decode cX1_replaceIn 39 = .ok (.getfield 15, 3) := by decide +kernel
theorem dX1_replaceIn_42 : decode cX1_replaceIn 42 = .ok (.iload_n 1, 1) := by decide +kernel
theorem dX1_replaceIn_43 : decode cX1_replaceIn 43 = .ok (.iaload, 1) := by decide +kernel
theorem dX1_replaceIn_44 : decode cX1_replaceIn 44 = .ok (.iload_n 2, 1) := by decide +kernel
theorem dX1_replaceIn_45 : decode cX1_replaceIn 45 = .ok (.if_icmp .ne 7, 3) := by decide +kernel
theorem dX1_replaceIn_48 : decode cX1_replaceIn 48 = .ok (.iload_n 3, 1) := by decide +kernel
theorem dX1_replaceIn_49 : decode cX1_replaceIn 49 = .ok (.goto 4, 3) := by decide +kernel
theorem dX1_replaceIn_52 : decode cX1_replaceIn 52 = .ok (.iload_n 1, 1) := by decide +kernel
theorem dX1_replaceIn_53 : decode cX1_replaceIn 53 = .ok (.ireturn, 1) := by decide +kernel
theorem dX1_replaceIn_54 : decode cX1_replaceIn 54 = .ok (.aload_n 0, 1) := by decide +kernel
theorem dX1_replaceIn_55 : decode cX1_replaceIn 55 = .ok (.getfield 28, 3) := by decide +kernel
theorem dX1_replaceIn_58 : decode cX1_replaceIn 58 = .ok (.iload_n 1, 1) := by decide +kernel
theorem dX1_replaceIn_59 : decode cX1_replaceIn 59 = .ok (.iaload, 1) := by decide +kernel
theorem dX1_replaceIn_60 : decode cX1_replaceIn 60 = .ok (.iconst (-1), 1) := by decide +kernel
theorem dX1_replaceIn_61 : decode cX1_replaceIn 61 = .ok (.if_icmp .eq 10, 3) := by decide +kernel
theorem dX1_replaceIn_64 : decode cX1_replaceIn 64 = .ok (.aload_n 0, 1) := by decide +kernel
theorem dX1_replaceIn_65 : decode cX1_replaceIn 65 = .ok (.getfield 28, 3) := by decide +kernel
theorem dX1_replaceIn_68 : decode cX1_replaceIn 68 = .ok (.iload_n 1, 1) := by decide +kernel
theorem dX1_replaceIn_69 : decode cX1_replaceIn 69 = .ok (.iaload, 1) := by decide +kernel
theorem dX1_replaceIn_70 : decode cX1_replaceIn 70 = .ok (.ireturn, 1) := by decide +kernel
theorem dX1_replaceIn_71 : decode cX1_replaceIn 71 = .ok (.aload_n 0, 1) := by decide +kernel
theorem dX1_replaceIn_72 : decode cX1_replaceIn 72 = .ok (.aload_n 0, 1) := by decide +kernel
theorem dX1_replaceIn_73 : decode cX1_replaceIn 73 = .ok (.getfield 15, 3) := by decide +kernel
theorem dX1_replaceIn_76 : decode cX1_replaceIn 76 = .ok (.iload_n 1, 1) := by decide +kernel
theorem dX1_replaceIn_77 : decode cX1_replaceIn 77 = .ok (.iaload, 1) := by decide +kernel
theorem dX1_replaceIn_78 : decode cX1_replaceIn 78 = .ok (.iload_n 2, 1) := by decide +kernel
theorem dX1_replaceIn_79 : decode cX1_replaceIn 79 = .ok (.iload_n 3, 1) := by decide +kernel
theorem dX1_replaceIn_80 : decode cX1_replaceIn 80 = .ok (.iload 4, 2) := by decide +kernel
theorem dX1_replaceIn_82 : decode cX1_replaceIn 82 = .ok (.iconst 1, 1) := by decide +kernel
theorem dX1_replaceIn_83 : decode cX1_replaceIn 83 = .ok (.iadd, 1) := by decide +kernel
theorem dX1_replaceIn_84 : decode cX1_replaceIn 84 = .ok (.invokevirtual 75, 3) := by decide +kernel
theorem dX1_replaceIn_87 : decode cX1_replaceIn 87 = .ok (.istore 5, 2) := by decide +kernel
theorem dX1_replaceIn_89 : decode cX1_replaceIn 89 = .ok (.iload 5, 2) := by decide +kernel
theorem dX1_replaceIn_91 : decode cX1_replaceIn 91 = .ok (.bipush (-4), 2) := by decide +kernel
theorem dX1_replaceIn_93 : decode cX1_replaceIn 93 = .ok (.if_icmp .ne 6, 3) := by decide +kernel
theorem dX1_replaceIn_96 : decode cX1_replaceIn 96 = .ok (.bipush (-4), 2) := by decide +kernel
theorem dX1_replaceIn_98 : decode cX1_replaceIn 98 = .ok (.ireturn, 1) := by decide +kernel
theorem dX1_replaceIn_99 : decode cX1_replaceIn 99 = .ok (.aload_n 0, 1) := by decide +kernel
theorem dX1_replaceIn_100 : decode cX1_replaceIn 100 = .ok (.aload_n 0, 1) := by decide +kernel
theorem dX1_replaceIn_101 : decode cX1_replaceIn 101 = .ok (.getfield 18, 3) := by decide +kernel
theorem dX1_replaceIn_104 : decode cX1_replaceIn 104 = .ok (.iload_n 1, 1) := by decide +kernel
theorem dX1_replaceIn_105 : decode cX1_replaceIn 105 = .ok (.iaload, 1) := by decide +kernel
theorem dX1_replaceIn_106 : decode cX1_replaceIn 106 = .ok (.iload_n 2, 1) := by decide +kernel
theorem dX1_replaceIn_107 : decode cX1_replaceIn 107 = .ok (.iload_n 3, 1) := by decide +kernel
theorem dX1_replaceIn_108 : decode cX1_replaceIn 108 = .ok (.iload 4, 2) := by decide +kernel
theorem dX1_replaceIn_110 : decode cX1_replaceIn 110 = .ok (.iconst 1, 1) := by decide +kernel
theorem dX1_replaceIn_111 : decode cX1_replaceIn 111 = .ok (.iadd, 1) := by decide +kernel
theorem dX1_replaceIn_112 : decode cX1_replaceIn 112 = .ok (.invokevirtual 75, 3) := by decide +kernel
theorem dX1_replaceIn_115 : decode cX1_replaceIn 115 = .ok (.istore 6, 2) := by decide +kernel
theorem dX1_replaceIn_117 : decode cX1_replaceIn 117 = .ok (.iload 6, 2) := by decide +kernel
theorem dX1_replaceIn_119 : decode cX1_replaceIn 119 = .ok (.bipush (-4), 2) := by decide +kernel
theorem dX1_replaceIn_121 : decode cX1_replaceIn 121 = .ok (.if_icmp .ne 6, 3) := by decide +kernel
theorem dX1_replaceIn_124 : decode cX1_replaceIn 124 = .ok (.bipush (-4), 2) := by decide +kernel
theorem dX1_replaceIn_126 : decode cX1_replaceIn 126 = .ok (.ireturn, 1) := by decide +kernel
theorem dX1_replaceIn_127 : decode cX1_replaceIn 127 = .ok (.aload_n 0, 1) := by decide +kernel
theorem dX1_replaceIn_128 : decode cX1_replaceIn 128 = .ok (.getfield 28, 3) := by decide +kernel
theorem dX1_replaceIn_131 : decode cX1_replaceIn 131 = .ok (.iload_n 1, 1) := by decide +kernel
theorem dX1_replaceIn_132 : decode cX1_replaceIn 132 = .ok (.aload_n 0, 1) := by decide +kernel
theorem dX1_replaceIn_133 : decode cX1_replaceIn 133 = .ok (.aload_n 0, 1) := by decide +kernel
theorem dX1_replaceIn_134 : decode cX1_replaceIn 134 = .ok (.getfield 9, 3) := by decide +kernel
theorem dX1_replaceIn_137 : decode cX1_replaceIn 137 = .ok (.iload_n 1, 1) := by decide +kernel
theorem dX1_replaceIn_138 : decode cX1_replaceIn 138 = .ok (.iaload, 1) := by decide +kernel
theorem dX1_replaceIn_139 : decode cX1_replaceIn 139 = .ok (.iload 5, 2) := by decide +kernel
theorem dX1_replaceIn_141 : decode cX1_replaceIn 141 = .ok (.iload 6, 2) := by decide +kernel
theorem dX1_replaceIn_143 : decode cX1_replaceIn 143 = .ok (.invokevirtual 79, 3) := by decide +kernel
theorem dX1_replaceIn_146 : decode cX1_replaceIn 146 = .ok (.iastore, 1) := by decide +kernel
theorem dX1_replaceIn_147 : decode cX1_replaceIn 147 = .ok (.aload_n 0, 1) := by decide +kernel
theorem dX1_replaceIn_148 : decode cX1_replaceIn 148 = .ok (.getfield 28, 3) := by decide +kernel
theorem dX1_replaceIn_151 : decode cX1_replaceIn 151 = .ok (.iload_n 1, 1) := by decide +kernel
theorem dX1_replaceIn_152 : decode cX1_replaceIn 152 = .ok (.iaload, 1) := by decide +kernel
theorem dX1_replaceIn_153 : decode cX1_replaceIn 153 = .ok (.ireturn, 1) := by decide +kernel
theorem dX2_init_0 : decode cX2_init 0 = .ok (.aload_n 0, 1) := by decide +kernel
theorem dX2_init_1 : decode cX2_init 1 = .ok (.invokespecial 3, 3) := by decide +kernel
theorem dX2_init_4 : decode cX2_init 4 = .ok (.aload_n 0, 1) := by decide +kernel
theorem dX2_init_5 : decode cX2_init 5 = .ok (.bipush 60, 2) := by decide +kernel
theorem dX2_init_7 : decode cX2_init 7 = .ok (.newarray .boolean, 2) := by decide +kernel
theorem dX2_init_9 : decode cX2_init 9 = .ok (.putfield 9, 3) := by decide +kernel
theorem dX2_init_12 : decode cX2_init 12 = .ok (.aload_n 0, 1) := by decide +kernel
theorem dX2_init_13 : decode cX2_init 13 = .ok (.bipush 60, 2) := by decide +kernel
theorem dX2_init_15 : decode cX2_init 15 = .ok (.newarray .int, 2) := by decide +kernel
theorem dX2_init_17 : decode cX2_init 17 = .ok (.putfield 15, 3) := by decide +kernel
theorem dX2_init_20 : decode cX2_init 20 = .ok (.aload_n 0, 1) := by decide +kernel
theorem dX2_init_21 : decode cX2_init 21 = .ok (.bipush 60, 2) := by decide +kernel
theorem dX2_init_23 : decode cX2_init 23 = .ok (.newarray .int, 2) := by decide +kernel
theorem dX2_init_25 : decode cX2_init 25 = .ok (.putfield 19, 3) := by decide +kernel
theorem dX2_init_28 : decode cX2_init 28 = .ok (.aload_n 0, 1) := by decide +kernel
theorem dX2_init_29 : decode cX2_init 29 = .ok (.bipush 60, 2) := by decide +kernel
theorem dX2_init_31 : decode cX2_init 31 = .ok (.newarray .int, 2) := by decide +kernel
theorem dX2_init_33 : decode cX2_init 33 = .ok (.putfield 22, 3) := by decide +kernel
theorem dX2_init_36 : decode cX2_init 36 = .ok (.aload_n 0, 1) := by decide +kernel
theorem dX2_init_37 : decode cX2_init 37 = .ok (.bipush 60, 2) := by decide +kernel
theorem dX2_init_39 : decode cX2_init 39 = .ok (.newarray .int, 2) := by decide +kernel
theorem dX2_init_41 : decode cX2_init 41 = .ok (.putfield 25, 3) := by decide +kernel
theorem dX2_init_44 : decode cX2_init 44 = .ok (.aload_n 0, 1) := by decide +kernel
theorem dX2_init_45 : decode cX2_init 45 = .ok (.bipush 60, 2) := by decide +kernel
theorem dX2_init_47 : decode cX2_init 47 = .ok (.newarray .int, 2) := by decide +kernel
theorem dX2_init_49 : decode cX2_init 49 = .ok (.putfield 28, 3) := by decide +kernel
theorem dX2_init_52 : decode cX2_init 52 = .ok (.return_, 1) := by decide +kernel
set_option maxRecDepth 20000 in
theorem ggX2_isLaid_X3_isLine : GoodIn wsX2_isLaid wsX3_isLine := goodIn_r _ [4] (by decide +kernel) (by decide +kernel)
set_option maxRecDepth 20000 in
theorem gX2_isLaid_X3_isLine_n31 : GoodIn wsX2_isLaid (wsX3_isLine) := ggX2_isLaid_X3_isLine
theorem dX2_isLaid_0 : decode cX2_isLaid 0 = .ok (.iload_n 1, 1) := by decide +kernel
theorem dX2_isLaid_1 : decode cX2_isLaid 1 = .ok (.invokestatic 31, 3) := by decide +kernel
theorem dX2_isLaid_4 : decode cX2_isLaid 4 = .ok (.ifCond .eq 16, 3) := by decide +kernel
theorem dX2_isLaid_7 : decode cX2_isLaid 7 = .ok (.aload_n 0, 1) := by decide +kernel
theorem dX2_isLaid_8 : decode cX2_isLaid 8 = .ok (.getfield 9, 3) := by decide +kernel
theorem dX2_isLaid_11 : decode cX2_isLaid 11 = .ok (.iload_n 1, 1) := by decide +kernel
theorem dX2_isLaid_12 : decode cX2_isLaid 12 = .ok (.baload, 1) := by decide +kernel
theorem dX2_isLaid_13 : decode cX2_isLaid 13 = .ok (.ifCond .eq 7, 3) := by decide +kernel
theorem dX2_isLaid_16 : decode cX2_isLaid 16 = .ok (.iconst 1, 1) := by decide +kernel
theorem dX2_isLaid_17 : decode cX2_isLaid 17 = .ok (.goto 4, 3) := by decide +kernel
theorem dX2_isLaid_20 : decode cX2_isLaid 20 = .ok (.iconst 0, 1) := by decide +kernel
theorem dX2_isLaid_21 : decode cX2_isLaid 21 = .ok (.ireturn, 1) := by decide +kernel
set_option maxRecDepth 20000 in
theorem ggX2_put_X3_isLine : GoodIn wsX2_put wsX3_isLine := goodIn_r _ [9] (by decide +kernel) (by decide +kernel)
set_option maxRecDepth 20000 in
theorem gX2_put_X3_isLine_n31 : GoodIn wsX2_put (wsX3_isLine) := ggX2_put_X3_isLine
theorem dX2_put_0 : decode cX2_put 0 = .ok (.iload_n 1, 1) := by decide +kernel
theorem dX2_put_1 : decode cX2_put 1 = .ok (.invokestatic 31, 3) := by decide +kernel
theorem dX2_put_4 : decode cX2_put 4 = .ok (.ifCond .eq 48, 3) := by decide +kernel
theorem dX2_put_7 : decode cX2_put 7 = .ok (.aload_n 0, 1) := by decide +kernel
theorem dX2_put_8 : decode cX2_put 8 = .ok (.getfield 9, 3) := by decide +kernel
theorem dX2_put_11 : decode cX2_put 11 = .ok (.iload_n 1, 1) := by decide +kernel
theorem dX2_put_12 : decode cX2_put 12 = .ok (.iconst 1, 1) := by decide +kernel
theorem dX2_put_13 : decode cX2_put 13 = .ok (.bastore, 1) := by decide +kernel
theorem dX2_put_14 : decode cX2_put 14 = .ok (.aload_n 0, 1) := by decide +kernel
theorem dX2_put_15 : decode cX2_put 15 = .ok (.getfield 15, 3) := by decide +kernel
theorem dX2_put_18 : decode cX2_put 18 = .ok (.iload_n 1, 1) := by decide +kernel
theorem dX2_put_19 : decode cX2_put 19 = .ok (.iload_n 2, 1) := by decide +kernel
theorem dX2_put_20 : decode cX2_put 20 = .ok (.iastore, 1) := by decide +kernel
theorem dX2_put_21 : decode cX2_put 21 = .ok (.aload_n 0, 1) := by decide +kernel
theorem dX2_put_22 : decode cX2_put 22 = .ok (.getfield 19, 3) := by decide +kernel
theorem dX2_put_25 : decode cX2_put 25 = .ok (.iload_n 1, 1) := by decide +kernel
theorem dX2_put_26 : decode cX2_put 26 = .ok (.iload_n 3, 1) := by decide +kernel
theorem dX2_put_27 : decode cX2_put 27 = .ok (.iastore, 1) := by decide +kernel
theorem dX2_put_28 : decode cX2_put 28 = .ok (.aload_n 0, 1) := by decide +kernel
theorem dX2_put_29 : decode cX2_put 29 = .ok (.getfield 22, 3) := by decide +kernel
theorem dX2_put_32 : decode cX2_put 32 = .ok (.iload_n 1, 1) := by decide +kernel
theorem dX2_put_33 : decode cX2_put 33 = .ok (.iload 4, 2) := by decide +kernel
theorem dX2_put_35 : decode cX2_put 35 = .ok (.iastore, 1) := by decide +kernel
theorem dX2_put_36 : decode cX2_put 36 = .ok (.aload_n 0, 1) := by decide +kernel
theorem dX2_put_37 : decode cX2_put 37 = .ok (.getfield 25, 3) := by decide +kernel
theorem dX2_put_40 : decode cX2_put 40 = .ok (.iload_n 1, 1) := by decide +kernel
theorem dX2_put_41 : decode cX2_put 41 = .ok (.iload 5, 2) := by decide +kernel
theorem dX2_put_43 : decode cX2_put 43 = .ok (.iastore, 1) := by decide +kernel
theorem dX2_put_44 : decode cX2_put 44 = .ok (.aload_n 0, 1) := by decide +kernel
theorem dX2_put_45 : decode cX2_put 45 = .ok (.getfield 28, 3) := by decide +kernel
theorem dX2_put_48 : decode cX2_put 48 = .ok (.iload_n 1, 1) := by decide +kernel
theorem dX2_put_49 : decode cX2_put 49 = .ok (.iload 6, 2) := by decide +kernel
theorem dX2_put_51 : decode cX2_put 51 = .ok (.iastore, 1) := by decide +kernel
theorem dX2_put_52 : decode cX2_put 52 = .ok (.return_, 1) := by decide +kernel
set_option maxRecDepth 20000 in
theorem ggX2_clear_X3_isLine : GoodIn wsX2_clear wsX3_isLine := goodIn_r _ [4] (by decide +kernel) (by decide +kernel)
set_option maxRecDepth 20000 in
theorem gX2_clear_X3_isLine_n31 : GoodIn wsX2_clear (wsX3_isLine) := ggX2_clear_X3_isLine
theorem dX2_clear_0 : decode cX2_clear 0 = .ok (.iload_n 1, 1) := by decide +kernel
theorem dX2_clear_1 : decode cX2_clear 1 = .ok (.invokestatic 31, 3) := by decide +kernel
theorem dX2_clear_4 : decode cX2_clear 4 = .ok (.ifCond .eq 10, 3) := by decide +kernel
theorem dX2_clear_7 : decode cX2_clear 7 = .ok (.aload_n 0, 1) := by decide +kernel
theorem dX2_clear_8 : decode cX2_clear 8 = .ok (.getfield 9, 3) := by decide +kernel
theorem dX2_clear_11 : decode cX2_clear 11 = .ok (.iload_n 1, 1) := by decide +kernel
theorem dX2_clear_12 : decode cX2_clear 12 = .ok (.iconst 0, 1) := by decide +kernel
theorem dX2_clear_13 : decode cX2_clear 13 = .ok (.bastore, 1) := by decide +kernel
theorem dX2_clear_14 : decode cX2_clear 14 = .ok (.return_, 1) := by decide +kernel
set_option maxRecDepth 20000 in
theorem ggX2_ruleOf_X3_isLine : GoodIn wsX2_ruleOf wsX3_isLine := goodIn_r _ [4] (by decide +kernel) (by decide +kernel)
set_option maxRecDepth 20000 in
theorem gX2_ruleOf_X3_isLine_n31 : GoodIn wsX2_ruleOf (wsX3_isLine) := ggX2_ruleOf_X3_isLine
theorem dX2_ruleOf_0 : decode cX2_ruleOf 0 = .ok (.iload_n 1, 1) := by decide +kernel
theorem dX2_ruleOf_1 : decode cX2_ruleOf 1 = .ok (.invokestatic 31, 3) := by decide +kernel
theorem dX2_ruleOf_4 : decode cX2_ruleOf 4 = .ok (.ifCond .eq 12, 3) := by decide +kernel
theorem dX2_ruleOf_7 : decode cX2_ruleOf 7 = .ok (.aload_n 0, 1) := by decide +kernel
theorem dX2_ruleOf_8 : decode cX2_ruleOf 8 = .ok (.getfield 15, 3) := by decide +kernel
theorem dX2_ruleOf_11 : decode cX2_ruleOf 11 = .ok (.iload_n 1, 1) := by decide +kernel
theorem dX2_ruleOf_12 : decode cX2_ruleOf 12 = .ok (.iaload, 1) := by decide +kernel
theorem dX2_ruleOf_13 : decode cX2_ruleOf 13 = .ok (.goto 4, 3) := by decide +kernel
theorem dX2_ruleOf_16 : decode cX2_ruleOf 16 = .ok (.iconst (-1), 1) := by decide +kernel
theorem dX2_ruleOf_17 : decode cX2_ruleOf 17 = .ok (.ireturn, 1) := by decide +kernel
set_option maxRecDepth 20000 in
theorem ggX2_pOf_X3_isLine : GoodIn wsX2_pOf wsX3_isLine := goodIn_r _ [4] (by decide +kernel) (by decide +kernel)
set_option maxRecDepth 20000 in
theorem gX2_pOf_X3_isLine_n31 : GoodIn wsX2_pOf (wsX3_isLine) := ggX2_pOf_X3_isLine
theorem dX2_pOf_0 : decode cX2_pOf 0 = .ok (.iload_n 1, 1) := by decide +kernel
theorem dX2_pOf_1 : decode cX2_pOf 1 = .ok (.invokestatic 31, 3) := by decide +kernel
theorem dX2_pOf_4 : decode cX2_pOf 4 = .ok (.ifCond .eq 12, 3) := by decide +kernel
theorem dX2_pOf_7 : decode cX2_pOf 7 = .ok (.aload_n 0, 1) := by decide +kernel
theorem dX2_pOf_8 : decode cX2_pOf 8 = .ok (.getfield 19, 3) := by decide +kernel
theorem dX2_pOf_11 : decode cX2_pOf 11 = .ok (.iload_n 1, 1) := by decide +kernel
theorem dX2_pOf_12 : decode cX2_pOf 12 = .ok (.iaload, 1) := by decide +kernel
theorem dX2_pOf_13 : decode cX2_pOf 13 = .ok (.goto 4, 3) := by decide +kernel
theorem dX2_pOf_16 : decode cX2_pOf 16 = .ok (.iconst (-1), 1) := by decide +kernel
theorem dX2_pOf_17 : decode cX2_pOf 17 = .ok (.ireturn, 1) := by decide +kernel
set_option maxRecDepth 20000 in
theorem ggX2_qOf_X3_isLine : GoodIn wsX2_qOf wsX3_isLine := goodIn_r _ [4] (by decide +kernel) (by decide +kernel)
set_option maxRecDepth 20000 in
theorem gX2_qOf_X3_isLine_n31 : GoodIn wsX2_qOf (wsX3_isLine) := ggX2_qOf_X3_isLine
theorem dX2_qOf_0 : decode cX2_qOf 0 = .ok (.iload_n 1, 1) := by decide +kernel
theorem dX2_qOf_1 : decode cX2_qOf 1 = .ok (.invokestatic 31, 3) := by decide +kernel
theorem dX2_qOf_4 : decode cX2_qOf 4 = .ok (.ifCond .eq 12, 3) := by decide +kernel
theorem dX2_qOf_7 : decode cX2_qOf 7 = .ok (.aload_n 0, 1) := by decide +kernel
theorem dX2_qOf_8 : decode cX2_qOf 8 = .ok (.getfield 22, 3) := by decide +kernel
theorem dX2_qOf_11 : decode cX2_qOf 11 = .ok (.iload_n 1, 1) := by decide +kernel
theorem dX2_qOf_12 : decode cX2_qOf 12 = .ok (.iaload, 1) := by decide +kernel
theorem dX2_qOf_13 : decode cX2_qOf 13 = .ok (.goto 4, 3) := by decide +kernel
theorem dX2_qOf_16 : decode cX2_qOf 16 = .ok (.iconst (-1), 1) := by decide +kernel
theorem dX2_qOf_17 : decode cX2_qOf 17 = .ok (.ireturn, 1) := by decide +kernel
set_option maxRecDepth 20000 in
theorem ggX2_rOf_X3_isLine : GoodIn wsX2_rOf wsX3_isLine := goodIn_r _ [4] (by decide +kernel) (by decide +kernel)
set_option maxRecDepth 20000 in
theorem gX2_rOf_X3_isLine_n31 : GoodIn wsX2_rOf (wsX3_isLine) := ggX2_rOf_X3_isLine
theorem dX2_rOf_0 : decode cX2_rOf 0 = .ok (.iload_n 1, 1) := by decide +kernel
theorem dX2_rOf_1 : decode cX2_rOf 1 = .ok (.invokestatic 31, 3) := by decide +kernel
theorem dX2_rOf_4 : decode cX2_rOf 4 = .ok (.ifCond .eq 12, 3) := by decide +kernel
theorem dX2_rOf_7 : decode cX2_rOf 7 = .ok (.aload_n 0, 1) := by decide +kernel
theorem dX2_rOf_8 : decode cX2_rOf 8 = .ok (.getfield 25, 3) := by decide +kernel
theorem dX2_rOf_11 : decode cX2_rOf 11 = .ok (.iload_n 1, 1) := by decide +kernel
theorem dX2_rOf_12 : decode cX2_rOf 12 = .ok (.iaload, 1) := by decide +kernel
theorem dX2_rOf_13 : decode cX2_rOf 13 = .ok (.goto 4, 3) := by decide +kernel
theorem dX2_rOf_16 : decode cX2_rOf 16 = .ok (.iconst (-1), 1) := by decide +kernel
theorem dX2_rOf_17 : decode cX2_rOf 17 = .ok (.ireturn, 1) := by decide +kernel
set_option maxRecDepth 20000 in
theorem ggX2_formulaOf_X3_isLine : GoodIn wsX2_formulaOf wsX3_isLine := goodIn_r _ [4] (by decide +kernel) (by decide +kernel)
set_option maxRecDepth 20000 in
theorem gX2_formulaOf_X3_isLine_n31 : GoodIn wsX2_formulaOf (wsX3_isLine) := ggX2_formulaOf_X3_isLine
theorem dX2_formulaOf_0 : decode cX2_formulaOf 0 = .ok (.iload_n 1, 1) := by decide +kernel
theorem dX2_formulaOf_1 : decode cX2_formulaOf 1 = .ok (.invokestatic 31, 3) := by decide +kernel
theorem dX2_formulaOf_4 : decode cX2_formulaOf 4 = .ok (.ifCond .eq 12, 3) := by decide +kernel
theorem dX2_formulaOf_7 : decode cX2_formulaOf 7 = .ok (.aload_n 0, 1) := by decide +kernel
theorem dX2_formulaOf_8 : decode cX2_formulaOf 8 = .ok (.getfield 28, 3) := by decide +kernel
theorem dX2_formulaOf_11 : decode cX2_formulaOf 11 = .ok (.iload_n 1, 1) := by decide +kernel
theorem dX2_formulaOf_12 : decode cX2_formulaOf 12 = .ok (.iaload, 1) := by decide +kernel
theorem dX2_formulaOf_13 : decode cX2_formulaOf 13 = .ok (.goto 4, 3) := by decide +kernel
theorem dX2_formulaOf_16 : decode cX2_formulaOf 16 = .ok (.iconst (-1), 1) := by decide +kernel
theorem dX2_formulaOf_17 : decode cX2_formulaOf 17 = .ok (.ireturn, 1) := by decide +kernel
set_option maxRecDepth 20000 in
theorem ggX3_init_X1_init : GoodIn wsX3_init wsX1_init := goodIn_r _ [17, 18, 2, 3, 19, 20, 21, 22, 23, 24, 25, 26, 27, 52, 53, 54, 55, 56, 57, 58] (by decide +kernel) (by decide +kernel)
set_option maxRecDepth 20000 in
theorem gX3_init_X1_init_n9 : GoodIn wsX3_init (wsX1_init) := ggX3_init_X1_init
set_option maxRecDepth 20000 in
theorem ggX3_init_X2_init : GoodIn wsX3_init wsX2_init := goodIn_r _ [29, 30, 2, 3, 31, 32, 19, 33, 34, 35, 36, 37, 62, 63, 64, 65, 66, 67] (by decide +kernel) (by decide +kernel)
set_option maxRecDepth 20000 in
theorem gX3_init_X2_init_n18 : GoodIn wsX3_init (wsX2_init) := ggX3_init_X2_init
set_option maxRecDepth 20000 in
theorem ggX3_init_X0_init : GoodIn wsX3_init wsX0_init := goodIn_r _ [40, 41, 2, 3, 19, 42, 43, 44, 31, 45, 46, 47, 48, 49, 50, 14, 51, 68, 69, 70, 71, 72, 73] (by decide +kernel) (by decide +kernel)
set_option maxRecDepth 20000 in
theorem gX3_init_X0_init : GoodIn wsX3_init (wsX0_init) := ggX3_init_X0_init
theorem dX3_init_0 : decode cX3_init 0 = .ok (.aload_n 0, 1) := by decide +kernel
theorem dX3_init_1 : decode cX3_init 1 = .ok (.invokespecial 1, 3) := by decide +kernel
theorem dX3_init_4 : decode cX3_init 4 = .ok (.aload_n 0, 1) := by decide +kernel
theorem dX3_init_5 : decode cX3_init 5 = .ok (.new 7, 3) := by decide +kernel
theorem dX3_init_8 : decode cX3_init 8 = .ok (.dup, 1) := by decide +kernel
theorem dX3_init_9 : decode cX3_init 9 = .ok (.invokespecial 9, 3) := by decide +kernel
theorem dX3_init_12 : decode cX3_init 12 = .ok (.putfield 10, 3) := by decide +kernel
theorem dX3_init_15 : decode cX3_init 15 = .ok (.aload_n 0, 1) := by decide +kernel
theorem dX3_init_16 : decode cX3_init 16 = .ok (.new 16, 3) := by decide +kernel
theorem dX3_init_19 : decode cX3_init 19 = .ok (.dup, 1) := by decide +kernel
theorem dX3_init_20 : decode cX3_init 20 = .ok (.invokespecial 18, 3) := by decide +kernel
theorem dX3_init_23 : decode cX3_init 23 = .ok (.putfield 19, 3) := by decide +kernel
theorem dX3_init_26 : decode cX3_init 26 = .ok (.aload_n 0, 1) := by decide +kernel
theorem dX3_init_27 : decode cX3_init 27 = .ok (.new 23, 3) := by decide +kernel
theorem dX3_init_30 : decode cX3_init 30 = .ok (.dup, 1) := by decide +kernel
theorem dX3_init_31 : decode cX3_init 31 = .ok (.invokespecial 25, 3) := by decide +kernel
theorem dX3_init_34 : decode cX3_init 34 = .ok (.putfield 26, 3) := by decide +kernel
theorem dX3_init_37 : decode cX3_init 37 = .ok (.return_, 1) := by decide +kernel
set_option maxRecDepth 20000 in
theorem ggX3_formula_X1_make : GoodIn wsX3_formula wsX1_make := goodIn_r _ [6, 7, 8, 9, 10, 11, 12, 13, 14, 15, 16, 17, 18, 19, 5, 20, 21, 22, 23, 24, 25, 26, 27, 28, 29, 30, 31, 32, 33, 34, 35, 36, 37, 38, 39, 40, 41, 47, 48, 49, 50, 51, 52, 53] (by decide +kernel) (by decide +kernel)
set_option maxRecDepth 20000 in
theorem gX3_formula_X1_make : GoodIn wsX3_formula (wsV RX3 30 RX1 yX1_make wsX1_make) := goodIn_app (goodIn_of _ (by decide +kernel)) ggX3_formula_X1_make
set_option maxRecDepth 20000 in
theorem ggX3_formula_X3_isLetter : GoodIn wsX3_formula wsX3_isLetter := goodIn_r _ [37] (by decide +kernel) (by decide +kernel)
set_option maxRecDepth 20000 in
theorem gX3_formula_X3_isLetter : GoodIn wsX3_formula (va_wsS RX3 34 yX3_isLetter wsX3_isLetter) := goodIn_app (goodIn_of _ (by decide +kernel)) ggX3_formula_X3_isLetter
set_option maxRecDepth 20000 in
theorem ggX3_formula_X1_has : GoodIn wsX3_formula wsX1_has := goodIn_r _ [28, 11, 47, 48, 49, 50, 51, 52, 53] (by decide +kernel) (by decide +kernel)
set_option maxRecDepth 20000 in
theorem gX3_formula_X1_has : GoodIn wsX3_formula (wsV RX3 38 RX1 yX1_has wsX1_has) := goodIn_app (goodIn_of _ (by decide +kernel)) ggX3_formula_X1_has
theorem dX3_formula_0 : decode cX3_formula 0 = .ok (.iload_n 1, 1) := by decide +kernel
theorem dX3_formula_1 : decode cX3_formula 1 = .ok (.tableswitch 107 0 4 #[35, 46, 69, 69, 69], 35) := by decide +kernel
theorem dX3_formula_36 : decode cX3_formula 36 = .ok (.aload_n 0, 1) := by decide +kernel
theorem dX3_formula_37 : decode cX3_formula 37 = .ok (.getfield 10, 3) := by decide +kernel
theorem dX3_formula_40 : decode cX3_formula 40 = .ok (.iconst 0, 1) := by decide +kernel
theorem dX3_formula_41 : decode cX3_formula 41 = .ok (.iconst (-1), 1) := by decide +kernel
theorem dX3_formula_42 : decode cX3_formula 42 = .ok (.iconst (-1), 1) := by decide +kernel
theorem dX3_formula_43 : decode cX3_formula 43 = .ok (.invokevirtual 30, 3) := by decide +kernel
theorem dX3_formula_46 : decode cX3_formula 46 = .ok (.ireturn, 1) := by decide +kernel
theorem dX3_formula_47 : decode cX3_formula 47 = .ok (.iload_n 2, 1) := by decide +kernel
theorem dX3_formula_48 : decode cX3_formula 48 = .ok (.invokestatic 34, 3) := by decide +kernel
theorem dX3_formula_51 : decode cX3_formula 51 = .ok (.ifCond .eq 16, 3) := by decide +kernel
theorem dX3_formula_54 : decode cX3_formula 54 = .ok (.aload_n 0, 1) := by decide +kernel
theorem dX3_formula_55 : decode cX3_formula 55 = .ok (.getfield 10, 3) := by decide +kernel
theorem dX3_formula_58 : decode cX3_formula 58 = .ok (.iconst 1, 1) := by decide +kernel
theorem dX3_formula_59 : decode cX3_formula 59 = .ok (.iload_n 2, 1) := by decide +kernel
theorem dX3_formula_60 : decode cX3_formula 60 = .ok (.iconst (-1), 1) := by decide +kernel
theorem dX3_formula_61 : decode cX3_formula 61 = .ok (.invokevirtual 30, 3) := by decide +kernel
theorem dX3_formula_64 : decode cX3_formula 64 = .ok (.goto 5, 3) := by decide +kernel
theorem dX3_formula_67 : decode cX3_formula 67 = .ok (.bipush (-3), 2) := by decide +kernel
theorem dX3_formula_69 : decode cX3_formula 69 = .ok (.ireturn, 1) := by decide +kernel
theorem dX3_formula_70 : decode cX3_formula 70 = .ok (.aload_n 0, 1) := by decide +kernel
theorem dX3_formula_71 : decode cX3_formula 71 = .ok (.getfield 10, 3) := by decide +kernel
theorem dX3_formula_74 : decode cX3_formula 74 = .ok (.iload_n 2, 1) := by decide +kernel
theorem dX3_formula_75 : decode cX3_formula 75 = .ok (.invokevirtual 38, 3) := by decide +kernel
theorem dX3_formula_78 : decode cX3_formula 78 = .ok (.ifCond .eq 27, 3) := by decide +kernel
theorem dX3_formula_81 : decode cX3_formula 81 = .ok (.aload_n 0, 1) := by decide +kernel
theorem dX3_formula_82 : decode cX3_formula 82 = .ok (.getfield 10, 3) := by decide +kernel
theorem dX3_formula_85 : decode cX3_formula 85 = .ok (.iload_n 3, 1) := by decide +kernel
theorem dX3_formula_86 : decode cX3_formula 86 = .ok (.invokevirtual 38, 3) := by decide +kernel
theorem dX3_formula_89 : decode cX3_formula 89 = .ok (.ifCond .eq 16, 3) := by decide +kernel
theorem dX3_formula_92 : decode cX3_formula 92 = .ok (.aload_n 0, 1) := by decide +kernel
theorem dX3_formula_93 : decode cX3_formula 93 = .ok (.getfield 10, 3) := by decide +kernel
theorem dX3_formula_96 : decode cX3_formula 96 = .ok (.iload_n 1, 1) := by decide +kernel
theorem dX3_formula_97 : decode cX3_formula 97 = .ok (.iload_n 2, 1) := by decide +kernel
theorem dX3_formula_98 : decode cX3_formula 98 = .ok (.iload_n 3, 1) := by decide +kernel
theorem dX3_formula_99 : decode cX3_formula 99 = .ok (.invokevirtual 30, 3) := by decide +kernel
theorem dX3_formula_102 : decode cX3_formula 102 = .ok (.goto 5, 3) := by decide +kernel
theorem dX3_formula_105 : decode cX3_formula 105 = .ok (.bipush (-2), 2) := by decide +kernel
theorem dX3_formula_107 : decode cX3_formula 107 = .ok (.ireturn, 1) := by decide +kernel
theorem dX3_formula_108 : decode cX3_formula 108 = .ok (.bipush (-3), 2) := by decide +kernel
theorem dX3_formula_110 : decode cX3_formula 110 = .ok (.ireturn, 1) := by decide +kernel
set_option maxRecDepth 20000 in
theorem ggX3_about_X1_has : GoodIn wsX3_about wsX1_has := goodIn_r _ [6, 7, 32, 33, 34, 35, 36, 37, 38] (by decide +kernel) (by decide +kernel)
set_option maxRecDepth 20000 in
theorem gX3_about_X1_has : GoodIn wsX3_about (wsV RX3 38 RX1 yX1_has wsX1_has) := goodIn_app (goodIn_of _ (by decide +kernel)) ggX3_about_X1_has
set_option maxRecDepth 20000 in
theorem ggX3_about_X1_kindOf : GoodIn wsX3_about wsX1_kindOf := goodIn_r _ [11, 12, 13, 3, 4, 5, 6, 7, 32, 33, 34, 35, 36, 37, 38] (by decide +kernel) (by decide +kernel)
set_option maxRecDepth 20000 in
theorem gX3_about_X1_kindOf : GoodIn wsX3_about (wsV RX3 41 RX1 yX1_kindOf wsX1_kindOf) := goodIn_app (goodIn_of _ (by decide +kernel)) ggX3_about_X1_kindOf
set_option maxRecDepth 20000 in
theorem ggX3_about_X1_firstOf : GoodIn wsX3_about wsX1_firstOf := goodIn_r _ [17, 18, 13, 3, 4, 5, 6, 7, 32, 33, 34, 35, 36, 37, 38] (by decide +kernel) (by decide +kernel)
set_option maxRecDepth 20000 in
theorem gX3_about_X1_firstOf : GoodIn wsX3_about (wsV RX3 45 RX1 yX1_firstOf wsX1_firstOf) := goodIn_app (goodIn_of _ (by decide +kernel)) ggX3_about_X1_firstOf
set_option maxRecDepth 20000 in
theorem ggX3_about_X1_secondOf : GoodIn wsX3_about wsX1_secondOf := goodIn_r _ [22, 23, 13, 3, 4, 5, 6, 7, 32, 33, 34, 35, 36, 37, 38] (by decide +kernel) (by decide +kernel)
set_option maxRecDepth 20000 in
theorem gX3_about_X1_secondOf : GoodIn wsX3_about (wsV RX3 48 RX1 yX1_secondOf wsX1_secondOf) := goodIn_app (goodIn_of _ (by decide +kernel)) ggX3_about_X1_secondOf
set_option maxRecDepth 20000 in
theorem ggX3_about_X1_heightOf : GoodIn wsX3_about wsX1_heightOf := goodIn_r _ [27, 28, 13, 3, 4, 5, 6, 7, 32, 33, 34, 35, 36, 37, 38] (by decide +kernel) (by decide +kernel)
set_option maxRecDepth 20000 in
theorem gX3_about_X1_heightOf : GoodIn wsX3_about (wsV RX3 51 RX1 yX1_heightOf wsX1_heightOf) := goodIn_app (goodIn_of _ (by decide +kernel)) ggX3_about_X1_heightOf
theorem dX3_about_0 : decode cX3_about 0 = .ok (.aload_n 0, 1) := by decide +kernel
theorem dX3_about_1 : decode cX3_about 1 = .ok (.getfield 10, 3) := by decide +kernel
theorem dX3_about_4 : decode cX3_about 4 = .ok (.iload_n 1, 1) := by decide +kernel
theorem dX3_about_5 : decode cX3_about 5 = .ok (.invokevirtual 38, 3) := by decide +kernel
theorem dX3_about_8 : decode cX3_about 8 = .ok (.ifCond .ne 6, 3) := by decide +kernel
theorem dX3_about_11 : decode cX3_about 11 = .ok (.bipush (-2), 2) := by decide +kernel
theorem dX3_about_13 : decode cX3_about 13 = .ok (.ireturn, 1) := by decide +kernel
theorem dX3_about_14 : decode cX3_about 14 = .ok (.iload_n 2, 1) := by decide +kernel
theorem dX3_about_15 : decode cX3_about 15 = .ok (.tableswitch 65 0 3 #[29, 38, 47, 56], 29) := by decide +kernel
theorem dX3_about_44 : decode cX3_about 44 = .ok (.aload_n 0, 1) := by decide +kernel
theorem dX3_about_45 : decode cX3_about 45 = .ok (.getfield 10, 3) := by decide +kernel
theorem dX3_about_48 : decode cX3_about 48 = .ok (.iload_n 1, 1) := by decide +kernel
theorem dX3_about_49 : decode cX3_about 49 = .ok (.invokevirtual 41, 3) := by decide +kernel
theorem dX3_about_52 : decode cX3_about 52 = .ok (.ireturn, 1) := by decide +kernel
theorem dX3_about_53 : decode cX3_about 53 = .ok (.aload_n 0, 1) := by decide +kernel
theorem dX3_about_54 : decode cX3_about 54 = .ok (.getfield 10, 3) := by decide +kernel
theorem dX3_about_57 : decode cX3_about 57 = .ok (.iload_n 1, 1) := by decide +kernel
theorem dX3_about_58 : decode cX3_about 58 = .ok (.invokevirtual 45, 3) := by decide +kernel
theorem dX3_about_61 : decode cX3_about 61 = .ok (.ireturn, 1) := by decide +kernel
theorem dX3_about_62 : decode cX3_about 62 = .ok (.aload_n 0, 1) := by decide +kernel
theorem dX3_about_63 : decode cX3_about 63 = .ok (.getfield 10, 3) := by decide +kernel
theorem dX3_about_66 : decode cX3_about 66 = .ok (.iload_n 1, 1) := by decide +kernel
theorem dX3_about_67 : decode cX3_about 67 = .ok (.invokevirtual 48, 3) := by decide +kernel
theorem dX3_about_70 : decode cX3_about 70 = .ok (.ireturn, 1) := by decide +kernel
theorem dX3_about_71 : decode cX3_about 71 = .ok (.aload_n 0, 1) := by decide +kernel
theorem dX3_about_72 : decode cX3_about 72 = .ok (.getfield 10, 3) := by decide +kernel
theorem dX3_about_75 : decode cX3_about 75 = .ok (.iload_n 1, 1) := by decide +kernel
theorem dX3_about_76 : decode cX3_about 76 = .ok (.invokevirtual 51, 3) := by decide +kernel
theorem dX3_about_79 : decode cX3_about 79 = .ok (.ireturn, 1) := by decide +kernel
theorem dX3_about_80 : decode cX3_about 80 = .ok (.bipush (-3), 2) := by decide +kernel
theorem dX3_about_82 : decode cX3_about 82 = .ok (.ireturn, 1) := by decide +kernel
set_option maxRecDepth 20000 in
theorem ggX3_value_X1_has : GoodIn wsX3_value wsX1_has := goodIn_r _ [6, 7, 17, 18, 19, 20, 21, 22, 23] (by decide +kernel) (by decide +kernel)
set_option maxRecDepth 20000 in
theorem gX3_value_X1_has : GoodIn wsX3_value (wsV RX3 38 RX1 yX1_has wsX1_has) := goodIn_app (goodIn_of _ (by decide +kernel)) ggX3_value_X1_has
set_option maxRecDepth 20000 in
theorem ggX3_value_X1_tableOf : GoodIn wsX3_value wsX1_tableOf := goodIn_r _ [11, 12, 13, 3, 4, 5, 6, 7, 17, 18, 19, 20, 21, 22, 23] (by decide +kernel) (by decide +kernel)
set_option maxRecDepth 20000 in
theorem gX3_value_X1_tableOf : GoodIn wsX3_value (wsV RX3 54 RX1 yX1_tableOf wsX1_tableOf) := goodIn_app (goodIn_of _ (by decide +kernel)) ggX3_value_X1_tableOf
theorem dX3_value_0 : decode cX3_value 0 = .ok (.aload_n 0, 1) := by decide +kernel
theorem dX3_value_1 : decode cX3_value 1 = .ok (.getfield 10, 3) := by decide +kernel
theorem dX3_value_4 : decode cX3_value 4 = .ok (.iload_n 1, 1) := by decide +kernel
theorem dX3_value_5 : decode cX3_value 5 = .ok (.invokevirtual 38, 3) := by decide +kernel
theorem dX3_value_8 : decode cX3_value 8 = .ok (.ifCond .ne 6, 3) := by decide +kernel
theorem dX3_value_11 : decode cX3_value 11 = .ok (.bipush (-2), 2) := by decide +kernel
theorem dX3_value_13 : decode cX3_value 13 = .ok (.ireturn, 1) := by decide +kernel
theorem dX3_value_14 : decode cX3_value 14 = .ok (.iload_n 2, 1) := by decide +kernel
theorem dX3_value_15 : decode cX3_value 15 = .ok (.ifCond .lt 9, 3) := by decide +kernel
theorem dX3_value_18 : decode cX3_value 18 = .ok (.iload_n 2, 1) := by decide +kernel
theorem dX3_value_19 : decode cX3_value 19 = .ok (.bipush 64, 2) := by decide +kernel
theorem dX3_value_21 : decode cX3_value 21 = .ok (.if_icmp .lt 6, 3) := by decide +kernel
theorem dX3_value_24 : decode cX3_value 24 = .ok (.bipush (-3), 2) := by decide +kernel
theorem dX3_value_26 : decode cX3_value 26 = .ok (.ireturn, 1) := by decide +kernel
theorem dX3_value_27 : decode cX3_value 27 = .ok (.aload_n 0, 1) := by decide +kernel
theorem dX3_value_28 : decode cX3_value 28 = .ok (.getfield 10, 3) := by decide +kernel
theorem dX3_value_31 : decode cX3_value 31 = .ok (.iload_n 1, 1) := by decide +kernel
theorem dX3_value_32 : decode cX3_value 32 = .ok (.invokevirtual 54, 3) := by decide +kernel
theorem dX3_value_35 : decode cX3_value 35 = .ok (.iload_n 2, 1) := by decide +kernel
theorem dX3_value_36 : decode cX3_value 36 = .ok (.lushr, 1) := by decide +kernel
theorem dX3_value_37 : decode cX3_value 37 = .ok (.lconst 1, 1) := by decide +kernel
theorem dX3_value_38 : decode cX3_value 38 = .ok (.land, 1) := by decide +kernel
theorem dX3_value_39 : decode cX3_value 39 = .ok (.l2i, 1) := by decide +kernel
theorem dX3_value_40 : decode cX3_value 40 = .ok (.ireturn, 1) := by decide +kernel
set_option maxRecDepth 20000 in
theorem ggX3_truths_X1_has : GoodIn wsX3_truths wsX1_has := goodIn_r _ [6, 7, 24, 25, 26, 27, 28, 29, 30] (by decide +kernel) (by decide +kernel)
set_option maxRecDepth 20000 in
theorem gX3_truths_X1_has : GoodIn wsX3_truths (wsV RX3 38 RX1 yX1_has wsX1_has) := goodIn_app (goodIn_of _ (by decide +kernel)) ggX3_truths_X1_has
set_option maxRecDepth 20000 in
theorem ggX3_truths_X1_tableOf : GoodIn wsX3_truths wsX1_tableOf := goodIn_r _ [11, 12, 13, 3, 4, 5, 6, 7, 24, 25, 26, 27, 28, 29, 30] (by decide +kernel) (by decide +kernel)
set_option maxRecDepth 20000 in
theorem gX3_truths_X1_tableOf : GoodIn wsX3_truths (wsV RX3 54 RX1 yX1_tableOf wsX1_tableOf) := goodIn_app (goodIn_of _ (by decide +kernel)) ggX3_truths_X1_tableOf
set_option maxRecDepth 20000 in
theorem ggX3_truths_J13_bitCount_95d88 : GoodIn wsX3_truths wsJ13_bitCount_95d88 := goodIn_r _ [17, 18, 19, 20] (by decide +kernel) (by decide +kernel)
set_option maxRecDepth 20000 in
theorem gX3_truths_J13_bitCount_95d88 : GoodIn wsX3_truths (va_wsS RX3 58 yJ13_bitCount_95d88 wsJ13_bitCount_95d88) := goodIn_app (goodIn_of _ (by decide +kernel)) ggX3_truths_J13_bitCount_95d88
theorem dX3_truths_0 : decode cX3_truths 0 = .ok (.aload_n 0, 1) := by decide +kernel
theorem dX3_truths_1 : decode cX3_truths 1 = .ok (.getfield 10, 3) := by decide +kernel
theorem dX3_truths_4 : decode cX3_truths 4 = .ok (.iload_n 1, 1) := by decide +kernel
theorem dX3_truths_5 : decode cX3_truths 5 = .ok (.invokevirtual 38, 3) := by decide +kernel
theorem dX3_truths_8 : decode cX3_truths 8 = .ok (.ifCond .eq 17, 3) := by decide +kernel
theorem dX3_truths_11 : decode cX3_truths 11 = .ok (.aload_n 0, 1) := by decide +kernel
theorem dX3_truths_12 : decode cX3_truths 12 = .ok (.getfield 10, 3) := by decide +kernel
theorem dX3_truths_15 : decode cX3_truths 15 = .ok (.iload_n 1, 1) := by decide +kernel
theorem dX3_truths_16 : decode cX3_truths 16 = .ok (.invokevirtual 54, 3) := by decide +kernel
theorem dX3_truths_19 : decode cX3_truths 19 = .ok (.invokestatic 58, 3) := by decide +kernel
theorem dX3_truths_22 : decode cX3_truths 22 = .ok (.goto 5, 3) := by decide +kernel
theorem dX3_truths_25 : decode cX3_truths 25 = .ok (.bipush (-2), 2) := by decide +kernel
theorem dX3_truths_27 : decode cX3_truths 27 = .ok (.ireturn, 1) := by decide +kernel
set_option maxRecDepth 20000 in
theorem ggX3_instead_X1_has : GoodIn wsX3_instead wsX1_has := goodIn_r _ [6, 7, 60, 61, 62, 63, 64, 65, 66] (by decide +kernel) (by decide +kernel)
set_option maxRecDepth 20000 in
theorem gX3_instead_X1_has : GoodIn wsX3_instead (wsV RX3 38 RX1 yX1_has wsX1_has) := goodIn_app (goodIn_of _ (by decide +kernel)) ggX3_instead_X1_has
set_option maxRecDepth 20000 in
theorem ggX3_instead_X3_isLetter : GoodIn wsX3_instead wsX3_isLetter := goodIn_r _ [11] (by decide +kernel) (by decide +kernel)
set_option maxRecDepth 20000 in
theorem gX3_instead_X3_isLetter : GoodIn wsX3_instead (va_wsS RX3 34 yX3_isLetter wsX3_isLetter) := goodIn_app (goodIn_of _ (by decide +kernel)) ggX3_instead_X3_isLetter
set_option maxRecDepth 20000 in
theorem ggX3_instead_X1_replace : GoodIn wsX3_instead wsX1_replace := goodIn_r _ [15, 16, 17, 18, 19, 20, 21, 22, 23, 5, 24, 25, 26, 27, 28, 3, 4, 6, 7, 29, 30, 31, 32, 33, 34, 35, 36, 37, 38, 39, 40, 41, 42, 43, 44, 45, 46, 47, 48, 49, 50, 51, 52, 9, 10, 11, 53, 54, 55, 56, 60, 61, 62, 63, 64, 65, 66] (by decide +kernel) (by decide +kernel)
set_option maxRecDepth 20000 in
theorem gX3_instead_X1_replace : GoodIn wsX3_instead (wsV RX3 64 RX1 yX1_replace wsX1_replace) := goodIn_app (goodIn_of _ (by decide +kernel)) ggX3_instead_X1_replace
theorem dX3_instead_0 : decode cX3_instead 0 = .ok (.aload_n 0, 1) := by decide +kernel
theorem dX3_instead_1 : decode cX3_instead 1 = .ok (.getfield 10, 3) := by decide +kernel
theorem dX3_instead_4 : decode cX3_instead 4 = .ok (.iload_n 1, 1) := by decide +kernel
theorem dX3_instead_5 : decode cX3_instead 5 = .ok (.invokevirtual 38, 3) := by decide +kernel
theorem dX3_instead_8 : decode cX3_instead 8 = .ok (.ifCond .eq 14, 3) := by decide +kernel
theorem dX3_instead_11 : decode cX3_instead 11 = .ok (.aload_n 0, 1) := by decide +kernel
theorem dX3_instead_12 : decode cX3_instead 12 = .ok (.getfield 10, 3) := by decide +kernel
theorem dX3_instead_15 : decode cX3_instead 15 = .ok (.iload_n 3, 1) := by decide +kernel
theorem dX3_instead_16 : decode cX3_instead 16 = .ok (.invokevirtual 38, 3) := by decide +kernel
theorem dX3_instead_19 : decode cX3_instead 19 = .ok (.ifCond .ne 6, 3) := by decide +kernel
theorem dX3_instead_22 : decode cX3_instead 22 = .ok (.bipush (-2), 2) := by decide +kernel
theorem dX3_instead_24 : decode cX3_instead 24 = .ok (.ireturn, 1) := by decide +kernel
theorem dX3_instead_25 : decode cX3_instead 25 = .ok (.iload_n 2, 1) := by decide +kernel
theorem dX3_instead_26 : decode cX3_instead 26 = .ok (.invokestatic 34, 3) := by decide +kernel
theorem dX3_instead_29 : decode cX3_instead 29 = .ok (.ifCond .eq 16, 3) := by decide +kernel
theorem dX3_instead_32 : decode cX3_instead 32 = .ok (.aload_n 0, 1) := by decide +kernel
theorem dX3_instead_33 : decode cX3_instead 33 = .ok (.getfield 10, 3) := by decide +kernel
theorem dX3_instead_36 : decode cX3_instead 36 = .ok (.iload_n 1, 1) := by decide +kernel
theorem dX3_instead_37 : decode cX3_instead 37 = .ok (.iload_n 2, 1) := by decide +kernel
theorem dX3_instead_38 : decode cX3_instead 38 = .ok (.iload_n 3, 1) := by decide +kernel
theorem dX3_instead_39 : decode cX3_instead 39 = .ok (.invokevirtual 64, 3) := by decide +kernel
theorem dX3_instead_42 : decode cX3_instead 42 = .ok (.goto 5, 3) := by decide +kernel
theorem dX3_instead_45 : decode cX3_instead 45 = .ok (.bipush (-3), 2) := by decide +kernel
theorem dX3_instead_47 : decode cX3_instead 47 = .ok (.ireturn, 1) := by decide +kernel
set_option maxRecDepth 20000 in
theorem ggX3_lay_X3_isLine : GoodIn wsX3_lay wsX3_isLine := goodIn_r _ [5] (by decide +kernel) (by decide +kernel)
set_option maxRecDepth 20000 in
theorem gX3_lay_X3_isLine : GoodIn wsX3_lay (va_wsS RX3 67 yX3_isLine wsX3_isLine) := goodIn_app (goodIn_of _ (by decide +kernel)) ggX3_lay_X3_isLine
set_option maxRecDepth 20000 in
theorem ggX3_lay_X2_isLaid : GoodIn wsX3_lay wsX2_isLaid := goodIn_r _ [10, 11, 3, 4, 5, 24, 25, 26, 27, 28, 29] (by decide +kernel) (by decide +kernel)
set_option maxRecDepth 20000 in
theorem gX3_lay_X2_isLaid : GoodIn wsX3_lay (wsV RX3 70 RX2 yX2_isLaid wsX2_isLaid) := goodIn_app (goodIn_of _ (by decide +kernel)) ggX3_lay_X2_isLaid
set_option maxRecDepth 20000 in
theorem ggX3_lay_X2_put : GoodIn wsX3_lay wsX2_put := goodIn_r _ [15, 11, 16, 17, 18, 19, 20, 3, 4, 5, 24, 25, 26, 27, 28, 29] (by decide +kernel) (by decide +kernel)
set_option maxRecDepth 20000 in
theorem gX3_lay_X2_put : GoodIn wsX3_lay (wsV RX3 73 RX2 yX2_put wsX2_put) := goodIn_app (goodIn_of _ (by decide +kernel)) ggX3_lay_X2_put
theorem dX3_lay_0 : decode cX3_lay 0 = .ok (.iload_n 1, 1) := by decide +kernel
theorem dX3_lay_1 : decode cX3_lay 1 = .ok (.invokestatic 67, 3) := by decide +kernel
theorem dX3_lay_4 : decode cX3_lay 4 = .ok (.ifCond .ne 6, 3) := by decide +kernel
theorem dX3_lay_7 : decode cX3_lay 7 = .ok (.bipush (-3), 2) := by decide +kernel
theorem dX3_lay_9 : decode cX3_lay 9 = .ok (.ireturn, 1) := by decide +kernel
theorem dX3_lay_10 : decode cX3_lay 10 = .ok (.aload_n 0, 1) := by decide +kernel
theorem dX3_lay_11 : decode cX3_lay 11 = .ok (.getfield 19, 3) := by decide +kernel
theorem dX3_lay_14 : decode cX3_lay 14 = .ok (.iload_n 1, 1) := by decide +kernel
theorem dX3_lay_15 : decode cX3_lay 15 = .ok (.invokevirtual 70, 3) := by decide +kernel
theorem dX3_lay_18 : decode cX3_lay 18 = .ok (.istore 7, 2) := by decide +kernel
theorem dX3_lay_20 : decode cX3_lay 20 = .ok (.aload_n 0, 1) := by decide +kernel
theorem dX3_lay_21 : decode cX3_lay 21 = .ok (.getfield 19, 3) := by decide +kernel
theorem dX3_lay_24 : decode cX3_lay 24 = .ok (.iload_n 1, 1) := by decide +kernel
theorem dX3_lay_25 : decode cX3_lay 25 = .ok (.iload_n 2, 1) := by decide +kernel
theorem dX3_lay_26 : decode cX3_lay 26 = .ok (.iload_n 3, 1) := by decide +kernel
theorem dX3_lay_27 : decode cX3_lay 27 = .ok (.iload 4, 2) := by decide +kernel
theorem dX3_lay_29 : decode cX3_lay 29 = .ok (.iload 5, 2) := by decide +kernel
theorem dX3_lay_31 : decode cX3_lay 31 = .ok (.iload 6, 2) := by decide +kernel
theorem dX3_lay_33 : decode cX3_lay 33 = .ok (.invokevirtual 73, 3) := by decide +kernel
theorem dX3_lay_36 : decode cX3_lay 36 = .ok (.iload 7, 2) := by decide +kernel
theorem dX3_lay_38 : decode cX3_lay 38 = .ok (.ifCond .eq 7, 3) := by decide +kernel
theorem dX3_lay_41 : decode cX3_lay 41 = .ok (.iconst 0, 1) := by decide +kernel
theorem dX3_lay_42 : decode cX3_lay 42 = .ok (.goto 4, 3) := by decide +kernel
theorem dX3_lay_45 : decode cX3_lay 45 = .ok (.iconst 1, 1) := by decide +kernel
theorem dX3_lay_46 : decode cX3_lay 46 = .ok (.ireturn, 1) := by decide +kernel
set_option maxRecDepth 20000 in
theorem ggX3_take_X3_isLine : GoodIn wsX3_take wsX3_isLine := goodIn_r _ [5] (by decide +kernel) (by decide +kernel)
set_option maxRecDepth 20000 in
theorem gX3_take_X3_isLine : GoodIn wsX3_take (va_wsS RX3 67 yX3_isLine wsX3_isLine) := goodIn_app (goodIn_of _ (by decide +kernel)) ggX3_take_X3_isLine
set_option maxRecDepth 20000 in
theorem ggX3_take_X2_isLaid : GoodIn wsX3_take wsX2_isLaid := goodIn_r _ [10, 11, 3, 4, 5, 19, 20, 21, 22, 23, 24] (by decide +kernel) (by decide +kernel)
set_option maxRecDepth 20000 in
theorem gX3_take_X2_isLaid : GoodIn wsX3_take (wsV RX3 70 RX2 yX2_isLaid wsX2_isLaid) := goodIn_app (goodIn_of _ (by decide +kernel)) ggX3_take_X2_isLaid
set_option maxRecDepth 20000 in
theorem ggX3_take_X2_clear : GoodIn wsX3_take wsX2_clear := goodIn_r _ [15, 11, 3, 4, 5, 19, 20, 21, 22, 23, 24] (by decide +kernel) (by decide +kernel)
set_option maxRecDepth 20000 in
theorem gX3_take_X2_clear : GoodIn wsX3_take (wsV RX3 77 RX2 yX2_clear wsX2_clear) := goodIn_app (goodIn_of _ (by decide +kernel)) ggX3_take_X2_clear
theorem dX3_take_0 : decode cX3_take 0 = .ok (.iload_n 1, 1) := by decide +kernel
theorem dX3_take_1 : decode cX3_take 1 = .ok (.invokestatic 67, 3) := by decide +kernel
theorem dX3_take_4 : decode cX3_take 4 = .ok (.ifCond .ne 6, 3) := by decide +kernel
theorem dX3_take_7 : decode cX3_take 7 = .ok (.bipush (-3), 2) := by decide +kernel
theorem dX3_take_9 : decode cX3_take 9 = .ok (.ireturn, 1) := by decide +kernel
theorem dX3_take_10 : decode cX3_take 10 = .ok (.aload_n 0, 1) := by decide +kernel
theorem dX3_take_11 : decode cX3_take 11 = .ok (.getfield 19, 3) := by decide +kernel
theorem dX3_take_14 : decode cX3_take 14 = .ok (.iload_n 1, 1) := by decide +kernel
theorem dX3_take_15 : decode cX3_take 15 = .ok (.invokevirtual 70, 3) := by decide +kernel
theorem dX3_take_18 : decode cX3_take 18 = .ok (.istore_n 2, 1) := by decide +kernel
theorem dX3_take_19 : decode cX3_take 19 = .ok (.aload_n 0, 1) := by decide +kernel
theorem dX3_take_20 : decode cX3_take 20 = .ok (.getfield 19, 3) := by decide +kernel
theorem dX3_take_23 : decode cX3_take 23 = .ok (.iload_n 1, 1) := by decide +kernel
theorem dX3_take_24 : decode cX3_take 24 = .ok (.invokevirtual 77, 3) := by decide +kernel
theorem dX3_take_27 : decode cX3_take 27 = .ok (.iload_n 2, 1) := by decide +kernel
theorem dX3_take_28 : decode cX3_take 28 = .ok (.ifCond .eq 7, 3) := by decide +kernel
theorem dX3_take_31 : decode cX3_take 31 = .ok (.iconst 1, 1) := by decide +kernel
theorem dX3_take_32 : decode cX3_take 32 = .ok (.goto 4, 3) := by decide +kernel
theorem dX3_take_35 : decode cX3_take 35 = .ok (.iconst 0, 1) := by decide +kernel
theorem dX3_take_36 : decode cX3_take 36 = .ok (.ireturn, 1) := by decide +kernel
set_option maxRecDepth 20000 in
theorem ggX3_check_X1_count : GoodIn wsX3_check wsX1_count := goodIn_r _ [8, 9, 194, 195, 196, 197, 198, 199, 200] (by decide +kernel) (by decide +kernel)
set_option maxRecDepth 20000 in
theorem gX3_check_X1_count : GoodIn wsX3_check (wsV RX3 81 RX1 yX1_count wsX1_count) := goodIn_app (goodIn_of _ (by decide +kernel)) ggX3_check_X1_count
set_option maxRecDepth 20000 in
theorem ggX3_check_X0_forget : GoodIn wsX3_check wsX0_forget := goodIn_r _ [14, 15, 16, 17, 18, 19, 201, 202, 203, 204, 205, 206] (by decide +kernel) (by decide +kernel)
set_option maxRecDepth 20000 in
theorem gX3_check_X0_forget : GoodIn wsX3_check (wsV RX3 85 RX0 yX0_forget wsX0_forget) := goodIn_app (goodIn_of _ (by decide +kernel)) ggX3_check_X0_forget
set_option maxRecDepth 20000 in
theorem ggX3_check_X2_isLaid : GoodIn wsX3_check wsX2_isLaid := goodIn_r _ [24, 25, 26, 27, 28, 207, 208, 209, 210, 211, 212] (by decide +kernel) (by decide +kernel)
set_option maxRecDepth 20000 in
theorem gX3_check_X2_isLaid : GoodIn wsX3_check (wsV RX3 70 RX2 yX2_isLaid wsX2_isLaid) := goodIn_app (goodIn_of _ (by decide +kernel)) ggX3_check_X2_isLaid
set_option maxRecDepth 20000 in
theorem ggX3_check_X3_lookAt : GoodIn wsX3_check wsX3_lookAt := goodIn_r _ [32, 2, 3, 33, 34, 35, 27, 36, 37, 38, 39, 40, 23, 41, 42, 26, 28, 43, 44, 45, 46, 1, 47, 48, 49, 50, 51, 52, 53, 54, 55, 56, 57, 58, 59, 13, 60, 18, 61, 62, 63, 64, 65, 66, 67, 68, 69, 70, 71, 72, 73, 74, 75, 76, 77, 78, 79, 80, 81, 7, 82, 9, 83, 84, 85, 86, 16, 87, 88, 89, 90, 91, 92, 93, 94, 95, 96, 97, 98, 99, 100, 101, 102, 103, 104, 105, 106, 107, 108, 109, 110, 111, 112, 113, 114, 115, 116, 117, 118, 119, 120, 121, 122, 15, 17, 123, 124, 125, 126, 19, 127, 128, 129, 130, 131, 132, 133, 134, 135, 136, 137, 138, 139, 140, 141, 142, 143, 144, 145, 146, 147, 148, 149, 150, 151, 152, 153, 154, 155, 156, 157, 158, 159, 160, 161, 162, 163, 164, 165, 166, 167, 168, 169, 170, 171, 172, 173, 174, 175, 176, 177, 178, 179, 180, 181, 191, 192, 193, 207, 208, 209, 210, 211, 212, 201, 202, 203, 204, 205, 206, 194, 195, 196, 197, 198, 199, 200] (by decide +kernel) (by decide +kernel)
set_option maxRecDepth 20000 in
theorem gX3_check_X3_lookAt : GoodIn wsX3_check (wsV RX3 88 RX3 yX3_lookAt wsX3_lookAt) := goodIn_app (goodIn_of _ (by decide +kernel)) ggX3_check_X3_lookAt
set_option maxRecDepth 20000 in
theorem ggX3_check_X0_sumUp : GoodIn wsX3_check wsX0_sumUp := goodIn_r _ [185, 186, 187, 188, 189, 13, 190, 119, 120, 121, 122, 15, 17, 26, 27, 28, 201, 202, 203, 204, 205, 206] (by decide +kernel) (by decide +kernel)
set_option maxRecDepth 20000 in
theorem gX3_check_X0_sumUp : GoodIn wsX3_check (wsV RX3 91 RX0 yX0_sumUp wsX0_sumUp) := goodIn_app (goodIn_of _ (by decide +kernel)) ggX3_check_X0_sumUp
theorem dX3_check_0 : decode cX3_check 0 = .ok (.aload_n 0, 1) := by decide +kernel
theorem dX3_check_1 : decode cX3_check 1 = .ok (.getfield 10, 3) := by decide +kernel
theorem dX3_check_4 : decode cX3_check 4 = .ok (.invokevirtual 81, 3) := by decide +kernel
theorem dX3_check_7 : decode cX3_check 7 = .ok (.istore_n 1, 1) := by decide +kernel
theorem dX3_check_8 : decode cX3_check 8 = .ok (.iconst 0, 1) := by decide +kernel
theorem dX3_check_9 : decode cX3_check 9 = .ok (.istore_n 2, 1) := by decide +kernel
theorem dX3_check_10 : decode cX3_check 10 = .ok (.iconst 0, 1) := by decide +kernel
theorem dX3_check_11 : decode cX3_check 11 = .ok (.istore_n 3, 1) := by decide +kernel
theorem dX3_check_12 : decode cX3_check 12 = .ok (.aload_n 0, 1) := by decide +kernel
theorem dX3_check_13 : decode cX3_check 13 = .ok (.getfield 26, 3) := by decide +kernel
theorem dX3_check_16 : decode cX3_check 16 = .ok (.invokevirtual 85, 3) := by decide +kernel
theorem dX3_check_19 : decode cX3_check 19 = .ok (.iload_n 3, 1) := by decide +kernel
theorem dX3_check_20 : decode cX3_check 20 = .ok (.bipush 60, 2) := by decide +kernel
theorem dX3_check_22 : decode cX3_check 22 = .ok (.if_icmp .ge 33, 3) := by decide +kernel
theorem dX3_check_25 : decode cX3_check 25 = .ok (.aload_n 0, 1) := by decide +kernel
theorem dX3_check_26 : decode cX3_check 26 = .ok (.getfield 19, 3) := by decide +kernel
theorem dX3_check_29 : decode cX3_check 29 = .ok (.iload_n 3, 1) := by decide +kernel
theorem dX3_check_30 : decode cX3_check 30 = .ok (.invokevirtual 70, 3) := by decide +kernel
theorem dX3_check_33 : decode cX3_check 33 = .ok (.ifCond .eq 22, 3) := by decide +kernel
theorem dX3_check_36 : decode cX3_check 36 = .ok (.aload_n 0, 1) := by decide +kernel
theorem dX3_check_37 : decode cX3_check 37 = .ok (.iload_n 3, 1) := by decide +kernel
theorem dX3_check_38 : decode cX3_check 38 = .ok (.invokevirtual 88, 3) := by decide +kernel
theorem dX3_check_41 : decode cX3_check 41 = .ok (.istore_n 2, 1) := by decide +kernel
theorem dX3_check_42 : decode cX3_check 42 = .ok (.iload_n 2, 1) := by decide +kernel
theorem dX3_check_43 : decode cX3_check 43 = .ok (.ifCond .eq 6, 3) := by decide +kernel
theorem dX3_check_46 : decode cX3_check 46 = .ok (.goto 9, 3) := by decide +kernel
theorem dX3_check_49 : decode cX3_check 49 = .ok (.iinc 3 1, 3) := by decide +kernel
theorem dX3_check_52 : decode cX3_check 52 = .ok (.goto (-33), 3) := by decide +kernel
theorem dX3_check_55 : decode cX3_check 55 = .ok (.aload_n 0, 1) := by decide +kernel
theorem dX3_check_56 : decode cX3_check 56 = .ok (.getfield 26, 3) := by decide +kernel
theorem dX3_check_59 : decode cX3_check 59 = .ok (.iload_n 2, 1) := by decide +kernel
theorem dX3_check_60 : decode cX3_check 60 = .ok (.iload_n 3, 1) := by decide +kernel
theorem dX3_check_61 : decode cX3_check 61 = .ok (.aload_n 0, 1) := by decide +kernel
theorem dX3_check_62 : decode cX3_check 62 = .ok (.getfield 10, 3) := by decide +kernel
theorem dX3_check_65 : decode cX3_check 65 = .ok (.invokevirtual 81, 3) := by decide +kernel
theorem dX3_check_68 : decode cX3_check 68 = .ok (.iload_n 1, 1) := by decide +kernel
theorem dX3_check_69 : decode cX3_check 69 = .ok (.isub, 1) := by decide +kernel
theorem dX3_check_70 : decode cX3_check 70 = .ok (.invokevirtual 91, 3) := by decide +kernel
theorem dX3_check_73 : decode cX3_check 73 = .ok (.iload_n 3, 1) := by decide +kernel
theorem dX3_check_74 : decode cX3_check 74 = .ok (.ireturn, 1) := by decide +kernel
set_option maxRecDepth 20000 in
theorem ggX3_told_X0_summaryOf : GoodIn wsX3_told wsX0_summaryOf := goodIn_r _ [6, 7, 11, 12, 13, 14, 15, 16] (by decide +kernel) (by decide +kernel)
set_option maxRecDepth 20000 in
theorem gX3_told_X0_summaryOf : GoodIn wsX3_told (wsV RX3 95 RX0 yX0_summaryOf wsX0_summaryOf) := goodIn_app (goodIn_of _ (by decide +kernel)) ggX3_told_X0_summaryOf
theorem dX3_told_0 : decode cX3_told 0 = .ok (.iload_n 1, 1) := by decide +kernel
theorem dX3_told_1 : decode cX3_told 1 = .ok (.ifCond .lt 19, 3) := by decide +kernel
theorem dX3_told_4 : decode cX3_told 4 = .ok (.iload_n 1, 1) := by decide +kernel
theorem dX3_told_5 : decode cX3_told 5 = .ok (.iconst 4, 1) := by decide +kernel
theorem dX3_told_6 : decode cX3_told 6 = .ok (.if_icmp .ge 14, 3) := by decide +kernel
theorem dX3_told_9 : decode cX3_told 9 = .ok (.aload_n 0, 1) := by decide +kernel
theorem dX3_told_10 : decode cX3_told 10 = .ok (.getfield 26, 3) := by decide +kernel
theorem dX3_told_13 : decode cX3_told 13 = .ok (.iload_n 1, 1) := by decide +kernel
theorem dX3_told_14 : decode cX3_told 14 = .ok (.invokevirtual 95, 3) := by decide +kernel
theorem dX3_told_17 : decode cX3_told 17 = .ok (.goto 5, 3) := by decide +kernel
theorem dX3_told_20 : decode cX3_told 20 = .ok (.bipush (-3), 2) := by decide +kernel
theorem dX3_told_22 : decode cX3_told 22 = .ok (.ireturn, 1) := by decide +kernel
set_option maxRecDepth 20000 in
theorem ggX3_head_X3_isLine : GoodIn wsX3_head wsX3_isLine := goodIn_r _ [5] (by decide +kernel) (by decide +kernel)
set_option maxRecDepth 20000 in
theorem gX3_head_X3_isLine : GoodIn wsX3_head (va_wsS RX3 67 yX3_isLine wsX3_isLine) := goodIn_app (goodIn_of _ (by decide +kernel)) ggX3_head_X3_isLine
set_option maxRecDepth 20000 in
theorem ggX3_head_X0_headOf : GoodIn wsX3_head wsX0_headOf := goodIn_r _ [10, 11, 3, 4, 5, 15, 16, 17, 18, 19, 20] (by decide +kernel) (by decide +kernel)
set_option maxRecDepth 20000 in
theorem gX3_head_X0_headOf : GoodIn wsX3_head (wsV RX3 98 RX0 yX0_headOf wsX0_headOf) := goodIn_app (goodIn_of _ (by decide +kernel)) ggX3_head_X0_headOf
theorem dX3_head_0 : decode cX3_head 0 = .ok (.iload_n 1, 1) := by decide +kernel
theorem dX3_head_1 : decode cX3_head 1 = .ok (.invokestatic 67, 3) := by decide +kernel
theorem dX3_head_4 : decode cX3_head 4 = .ok (.ifCond .eq 14, 3) := by decide +kernel
theorem dX3_head_7 : decode cX3_head 7 = .ok (.aload_n 0, 1) := by decide +kernel
theorem dX3_head_8 : decode cX3_head 8 = .ok (.getfield 26, 3) := by decide +kernel
theorem dX3_head_11 : decode cX3_head 11 = .ok (.iload_n 1, 1) := by decide +kernel
theorem dX3_head_12 : decode cX3_head 12 = .ok (.invokevirtual 98, 3) := by decide +kernel
theorem dX3_head_15 : decode cX3_head 15 = .ok (.goto 5, 3) := by decide +kernel
theorem dX3_head_18 : decode cX3_head 18 = .ok (.bipush (-3), 2) := by decide +kernel
theorem dX3_head_20 : decode cX3_head 20 = .ok (.ireturn, 1) := by decide +kernel
set_option maxRecDepth 20000 in
theorem ggX3_force_X3_isLine : GoodIn wsX3_force wsX3_isLine := goodIn_r _ [5] (by decide +kernel) (by decide +kernel)
set_option maxRecDepth 20000 in
theorem gX3_force_X3_isLine : GoodIn wsX3_force (va_wsS RX3 67 yX3_isLine wsX3_isLine) := goodIn_app (goodIn_of _ (by decide +kernel)) ggX3_force_X3_isLine
set_option maxRecDepth 20000 in
theorem ggX3_force_X0_isInForce : GoodIn wsX3_force wsX0_isInForce := goodIn_r _ [10, 11, 3, 4, 5, 15, 16, 17, 18, 19, 20] (by decide +kernel) (by decide +kernel)
set_option maxRecDepth 20000 in
theorem gX3_force_X0_isInForce : GoodIn wsX3_force (wsV RX3 101 RX0 yX0_isInForce wsX0_isInForce) := goodIn_app (goodIn_of _ (by decide +kernel)) ggX3_force_X0_isInForce
theorem dX3_force_0 : decode cX3_force 0 = .ok (.iload_n 1, 1) := by decide +kernel
theorem dX3_force_1 : decode cX3_force 1 = .ok (.invokestatic 67, 3) := by decide +kernel
theorem dX3_force_4 : decode cX3_force 4 = .ok (.ifCond .ne 6, 3) := by decide +kernel
theorem dX3_force_7 : decode cX3_force 7 = .ok (.bipush (-3), 2) := by decide +kernel
theorem dX3_force_9 : decode cX3_force 9 = .ok (.ireturn, 1) := by decide +kernel
theorem dX3_force_10 : decode cX3_force 10 = .ok (.aload_n 0, 1) := by decide +kernel
theorem dX3_force_11 : decode cX3_force 11 = .ok (.getfield 26, 3) := by decide +kernel
theorem dX3_force_14 : decode cX3_force 14 = .ok (.iload_n 1, 1) := by decide +kernel
theorem dX3_force_15 : decode cX3_force 15 = .ok (.invokevirtual 101, 3) := by decide +kernel
theorem dX3_force_18 : decode cX3_force 18 = .ok (.ifCond .eq 7, 3) := by decide +kernel
theorem dX3_force_21 : decode cX3_force 21 = .ok (.iconst 1, 1) := by decide +kernel
theorem dX3_force_22 : decode cX3_force 22 = .ok (.goto 4, 3) := by decide +kernel
theorem dX3_force_25 : decode cX3_force 25 = .ok (.iconst 0, 1) := by decide +kernel
theorem dX3_force_26 : decode cX3_force 26 = .ok (.ireturn, 1) := by decide +kernel
set_option maxRecDepth 20000 in
theorem ggX3_hangs_X3_isLine : GoodIn wsX3_hangs wsX3_isLine := goodIn_r _ [5] (by decide +kernel) (by decide +kernel)
set_option maxRecDepth 20000 in
theorem gX3_hangs_X3_isLine : GoodIn wsX3_hangs (va_wsS RX3 67 yX3_isLine wsX3_isLine) := goodIn_app (goodIn_of _ (by decide +kernel)) ggX3_hangs_X3_isLine
set_option maxRecDepth 20000 in
theorem ggX3_hangs_X0_groundOf : GoodIn wsX3_hangs wsX0_groundOf := goodIn_r _ [10, 11, 12, 13, 9, 14, 15, 3, 4, 5, 16, 17, 18, 19, 20, 21, 22, 23, 24, 25, 26, 27, 28, 29, 30, 31, 32, 33, 37, 38, 39, 40, 41, 42] (by decide +kernel) (by decide +kernel)
set_option maxRecDepth 20000 in
theorem gX3_hangs_X0_groundOf : GoodIn wsX3_hangs (wsV RX3 104 RX0 yX0_groundOf wsX0_groundOf) := goodIn_app (goodIn_of _ (by decide +kernel)) ggX3_hangs_X0_groundOf
theorem dX3_hangs_0 : decode cX3_hangs 0 = .ok (.iload_n 1, 1) := by decide +kernel
theorem dX3_hangs_1 : decode cX3_hangs 1 = .ok (.invokestatic 67, 3) := by decide +kernel
theorem dX3_hangs_4 : decode cX3_hangs 4 = .ok (.ifCond .eq 15, 3) := by decide +kernel
theorem dX3_hangs_7 : decode cX3_hangs 7 = .ok (.aload_n 0, 1) := by decide +kernel
theorem dX3_hangs_8 : decode cX3_hangs 8 = .ok (.getfield 26, 3) := by decide +kernel
theorem dX3_hangs_11 : decode cX3_hangs 11 = .ok (.iload_n 1, 1) := by decide +kernel
theorem dX3_hangs_12 : decode cX3_hangs 12 = .ok (.iload_n 2, 1) := by decide +kernel
theorem dX3_hangs_13 : decode cX3_hangs 13 = .ok (.invokevirtual 104, 3) := by decide +kernel
theorem dX3_hangs_16 : decode cX3_hangs 16 = .ok (.goto 5, 3) := by decide +kernel
theorem dX3_hangs_19 : decode cX3_hangs 19 = .ok (.bipush (-3), 2) := by decide +kernel
theorem dX3_hangs_21 : decode cX3_hangs 21 = .ok (.ireturn, 1) := by decide +kernel
set_option maxRecDepth 20000 in
theorem ggX3_sound_X3_isLine : GoodIn wsX3_sound wsX3_isLine := goodIn_r _ [7] (by decide +kernel) (by decide +kernel)
set_option maxRecDepth 20000 in
theorem gX3_sound_X3_isLine : GoodIn wsX3_sound (va_wsS RX3 67 yX3_isLine wsX3_isLine) := goodIn_app (goodIn_of _ (by decide +kernel)) ggX3_sound_X3_isLine
set_option maxRecDepth 20000 in
theorem ggX3_sound_X0_headOf : GoodIn wsX3_sound wsX0_headOf := goodIn_r _ [12, 13, 5, 6, 7, 50, 51, 52, 53, 54, 55] (by decide +kernel) (by decide +kernel)
set_option maxRecDepth 20000 in
theorem gX3_sound_X0_headOf : GoodIn wsX3_sound (wsV RX3 98 RX0 yX0_headOf wsX0_headOf) := goodIn_app (goodIn_of _ (by decide +kernel)) ggX3_sound_X0_headOf
set_option maxRecDepth 20000 in
theorem ggX3_sound_X3_groundsTable : GoodIn wsX3_sound wsX3_groundsTable := goodIn_r _ [17, 3, 1, 2, 18, 19, 20, 11, 21, 22, 23, 24, 25, 26, 5, 6, 7, 27, 28, 29, 30, 31, 32, 33, 34, 35, 8, 9, 10, 12, 13, 36, 37, 38, 39, 40, 41, 42, 43, 44, 45, 46, 47, 48, 49, 50, 51, 52, 53, 54, 55, 56, 57, 58, 59, 60, 61, 62] (by decide +kernel) (by decide +kernel)
set_option maxRecDepth 20000 in
theorem gX3_sound_X3_groundsTable : GoodIn wsX3_sound (wsV RX3 108 RX3 yX3_groundsTable wsX3_groundsTable) := goodIn_app (goodIn_of _ (by decide +kernel)) ggX3_sound_X3_groundsTable
set_option maxRecDepth 20000 in
theorem ggX3_sound_X1_tableOf : GoodIn wsX3_sound wsX1_tableOf := goodIn_r _ [40, 41, 42, 43, 44, 39, 45, 46, 56, 57, 58, 59, 60, 61, 62] (by decide +kernel) (by decide +kernel)
set_option maxRecDepth 20000 in
theorem gX3_sound_X1_tableOf : GoodIn wsX3_sound (wsV RX3 54 RX1 yX1_tableOf wsX1_tableOf) := goodIn_app (goodIn_of _ (by decide +kernel)) ggX3_sound_X1_tableOf
theorem dX3_sound_0 : decode cX3_sound 0 = .ok (.iload_n 1, 1) := by decide +kernel
theorem dX3_sound_1 : decode cX3_sound 1 = .ok (.invokestatic 67, 3) := by decide +kernel
theorem dX3_sound_4 : decode cX3_sound 4 = .ok (.ifCond .ne 6, 3) := by decide +kernel
theorem dX3_sound_7 : decode cX3_sound 7 = .ok (.bipush (-3), 2) := by decide +kernel
theorem dX3_sound_9 : decode cX3_sound 9 = .ok (.ireturn, 1) := by decide +kernel
theorem dX3_sound_10 : decode cX3_sound 10 = .ok (.aload_n 0, 1) := by decide +kernel
theorem dX3_sound_11 : decode cX3_sound 11 = .ok (.getfield 26, 3) := by decide +kernel
theorem dX3_sound_14 : decode cX3_sound 14 = .ok (.iload_n 1, 1) := by decide +kernel
theorem dX3_sound_15 : decode cX3_sound 15 = .ok (.invokevirtual 98, 3) := by decide +kernel
theorem dX3_sound_18 : decode cX3_sound 18 = .ok (.iconst (-1), 1) := by decide +kernel
theorem dX3_sound_19 : decode cX3_sound 19 = .ok (.if_icmp .ne 5, 3) := by decide +kernel
theorem dX3_sound_22 : decode cX3_sound 22 = .ok (.iconst (-1), 1) := by decide +kernel
theorem dX3_sound_23 : decode cX3_sound 23 = .ok (.ireturn, 1) := by decide +kernel
theorem dX3_sound_24 : decode cX3_sound 24 = .ok (.aload_n 0, 1) := by decide +kernel
theorem dX3_sound_25 : decode cX3_sound 25 = .ok (.iload_n 1, 1) := by decide +kernel
theorem dX3_sound_26 : decode cX3_sound 26 = .ok (.invokevirtual 108, 3) := by decide +kernel
theorem dX3_sound_29 : decode cX3_sound 29 = .ok (.aload_n 0, 1) := by decide +kernel
theorem dX3_sound_30 : decode cX3_sound 30 = .ok (.getfield 10, 3) := by decide +kernel
theorem dX3_sound_33 : decode cX3_sound 33 = .ok (.aload_n 0, 1) := by decide +kernel
theorem dX3_sound_34 : decode cX3_sound 34 = .ok (.getfield 26, 3) := by decide +kernel
theorem dX3_sound_37 : decode cX3_sound 37 = .ok (.iload_n 1, 1) := by decide +kernel
theorem dX3_sound_38 : decode cX3_sound 38 = .ok (.invokevirtual 98, 3) := by decide +kernel
theorem dX3_sound_41 : decode cX3_sound 41 = .ok (.invokevirtual 54, 3) := by decide +kernel
theorem dX3_sound_44 : decode cX3_sound 44 = .ok (.ldc2_w 111, 3) := by decide +kernel
theorem dX3_sound_47 : decode cX3_sound 47 = .ok (.lxor, 1) := by decide +kernel
theorem dX3_sound_48 : decode cX3_sound 48 = .ok (.land, 1) := by decide +kernel
theorem dX3_sound_49 : decode cX3_sound 49 = .ok (.lconst 0, 1) := by decide +kernel
theorem dX3_sound_50 : decode cX3_sound 50 = .ok (.lcmp, 1) := by decide +kernel
theorem dX3_sound_51 : decode cX3_sound 51 = .ok (.ifCond .ne 7, 3) := by decide +kernel
theorem dX3_sound_54 : decode cX3_sound 54 = .ok (.iconst 1, 1) := by decide +kernel
theorem dX3_sound_55 : decode cX3_sound 55 = .ok (.goto 4, 3) := by decide +kernel
theorem dX3_sound_58 : decode cX3_sound 58 = .ok (.iconst 0, 1) := by decide +kernel
theorem dX3_sound_59 : decode cX3_sound 59 = .ok (.ireturn, 1) := by decide +kernel
set_option maxRecDepth 20000 in
theorem ggX3_formulas_X1_count : GoodIn wsX3_formulas wsX1_count := goodIn_r _ [6, 7, 11, 12, 13, 14, 15, 16, 17] (by decide +kernel) (by decide +kernel)
set_option maxRecDepth 20000 in
theorem gX3_formulas_X1_count : GoodIn wsX3_formulas (wsV RX3 81 RX1 yX1_count wsX1_count) := goodIn_app (goodIn_of _ (by decide +kernel)) ggX3_formulas_X1_count
theorem dX3_formulas_0 : decode cX3_formulas 0 = .ok (.aload_n 0, 1) := by decide +kernel
theorem dX3_formulas_1 : decode cX3_formulas 1 = .ok (.getfield 10, 3) := by decide +kernel
theorem dX3_formulas_4 : decode cX3_formulas 4 = .ok (.invokevirtual 81, 3) := by decide +kernel
theorem dX3_formulas_7 : decode cX3_formulas 7 = .ok (.ireturn, 1) := by decide +kernel
set_option maxRecDepth 20000 in
theorem ggX3_lookAt_X3_reasonAgainst : GoodIn wsX3_lookAt wsX3_reasonAgainst := goodIn_r _ [7, 2, 8, 1, 9, 10, 11, 12, 13, 14, 15, 6, 16, 17, 18, 19, 20, 21, 22, 23, 24, 25, 26, 27, 28, 29, 30, 31, 32, 33, 34, 35, 36, 37, 38, 39, 40, 41, 42, 43, 44, 45, 46, 47, 48, 49, 50, 51, 52, 53, 54, 55, 56, 57, 58, 59, 60, 61, 62, 63, 64, 65, 66, 67, 68, 69, 70, 71, 72, 73, 74, 75, 76, 77, 78, 79, 80, 81, 82, 83, 84, 85, 86, 87, 88, 89, 90, 91, 92, 93, 94, 95, 96, 97, 98, 99, 100, 101, 102, 103, 104, 105, 106, 107, 108, 109, 110, 111, 112, 113, 114, 115, 116, 117, 118, 119, 120, 121, 165, 166, 167, 168, 169, 170, 171, 172, 173, 174, 175, 176, 177, 178, 179, 180, 181, 182, 183, 184, 185, 186] (by decide +kernel) (by decide +kernel)
set_option maxRecDepth 20000 in
theorem gX3_lookAt_X3_reasonAgainst : GoodIn wsX3_lookAt (wsV RX3 113 RX3 yX3_reasonAgainst wsX3_reasonAgainst) := goodIn_app (goodIn_of _ (by decide +kernel)) ggX3_lookAt_X3_reasonAgainst
set_option maxRecDepth 20000 in
theorem ggX3_lookAt_X3_conclude : GoodIn wsX3_lookAt wsX3_conclude := goodIn_r _ [125, 2, 1, 21, 22, 23, 24, 12, 25, 26, 15, 6, 16, 62, 63, 64, 35, 65, 66, 51, 52, 53, 54, 55, 9, 10, 11, 13, 14, 38, 39, 40, 41, 42, 126, 127, 128, 59, 129, 130, 131, 132, 133, 61, 75, 90, 85, 134, 135, 136, 137, 138, 139, 140, 141, 142, 143, 76, 57, 58, 60, 144, 145, 146, 147, 148, 149, 150, 151, 152, 153, 154, 155, 86, 87, 88, 89, 81, 82, 83, 84, 114, 115, 116, 117, 118, 119, 120, 121, 104, 165, 166, 167, 168, 169, 170, 171, 172, 173, 174, 175, 176, 177, 178, 179, 180, 181, 182, 183, 184, 185, 186] (by decide +kernel) (by decide +kernel)
set_option maxRecDepth 20000 in
theorem gX3_lookAt_X3_conclude : GoodIn wsX3_lookAt (wsV RX3 116 RX3 yX3_conclude wsX3_conclude) := goodIn_app (goodIn_of _ (by decide +kernel)) ggX3_lookAt_X3_conclude
set_option maxRecDepth 20000 in
theorem ggX3_lookAt_X2_ruleOf : GoodIn wsX3_lookAt wsX2_ruleOf := goodIn_r _ [13, 14, 15, 6, 16, 168, 169, 170, 171, 172, 173] (by decide +kernel) (by decide +kernel)
set_option maxRecDepth 20000 in
theorem gX3_lookAt_X2_ruleOf : GoodIn wsX3_lookAt (wsV RX3 119 RX2 yX2_ruleOf wsX2_ruleOf) := goodIn_app (goodIn_of _ (by decide +kernel)) ggX3_lookAt_X2_ruleOf
set_option maxRecDepth 20000 in
theorem ggX3_lookAt_X0_keep : GoodIn wsX3_lookAt wsX0_keep := goodIn_r _ [159, 103, 66, 37, 15, 6, 16, 160, 96, 97, 35, 98, 99, 100, 101, 102, 104, 161, 162, 163, 164, 109, 174, 175, 176, 177, 178, 179] (by decide +kernel) (by decide +kernel)
set_option maxRecDepth 20000 in
theorem gX3_lookAt_X0_keep : GoodIn wsX3_lookAt (wsV RX3 122 RX0 yX0_keep wsX0_keep) := goodIn_app (goodIn_of _ (by decide +kernel)) ggX3_lookAt_X0_keep
theorem dX3_lookAt_0 : decode cX3_lookAt 0 = .ok (.aload_n 0, 1) := by decide +kernel
theorem dX3_lookAt_1 : decode cX3_lookAt 1 = .ok (.iload_n 1, 1) := by decide +kernel
theorem dX3_lookAt_2 : decode cX3_lookAt 2 = .ok (.invokevirtual 113, 3) := by decide +kernel
theorem dX3_lookAt_5 : decode cX3_lookAt 5 = .ok (.istore_n 2, 1) := by decide +kernel
theorem dX3_lookAt_6 : decode cX3_lookAt 6 = .ok (.iload_n 2, 1) := by decide +kernel
theorem dX3_lookAt_7 : decode cX3_lookAt 7 = .ok (.ifCond .eq 5, 3) := by decide +kernel
theorem dX3_lookAt_10 : decode cX3_lookAt 10 = .ok (.iload_n 2, 1) := by decide +kernel
theorem dX3_lookAt_11 : decode cX3_lookAt 11 = .ok (.ireturn, 1) := by decide +kernel
theorem dX3_lookAt_12 : decode cX3_lookAt 12 = .ok (.aload_n 0, 1) := by decide +kernel
theorem dX3_lookAt_13 : decode cX3_lookAt 13 = .ok (.iload_n 1, 1) := by decide +kernel
theorem dX3_lookAt_14 : decode cX3_lookAt 14 = .ok (.invokevirtual 116, 3) := by decide +kernel
theorem dX3_lookAt_17 : decode cX3_lookAt 17 = .ok (.istore_n 3, 1) := by decide +kernel
theorem dX3_lookAt_18 : decode cX3_lookAt 18 = .ok (.iload_n 3, 1) := by decide +kernel
theorem dX3_lookAt_19 : decode cX3_lookAt 19 = .ok (.bipush (-4), 2) := by decide +kernel
theorem dX3_lookAt_21 : decode cX3_lookAt 21 = .ok (.if_icmp .ne 6, 3) := by decide +kernel
theorem dX3_lookAt_24 : decode cX3_lookAt 24 = .ok (.bipush 7, 2) := by decide +kernel
theorem dX3_lookAt_26 : decode cX3_lookAt 26 = .ok (.ireturn, 1) := by decide +kernel
theorem dX3_lookAt_27 : decode cX3_lookAt 27 = .ok (.aload_n 0, 1) := by decide +kernel
theorem dX3_lookAt_28 : decode cX3_lookAt 28 = .ok (.getfield 26, 3) := by decide +kernel
theorem dX3_lookAt_31 : decode cX3_lookAt 31 = .ok (.iload_n 1, 1) := by decide +kernel
theorem dX3_lookAt_32 : decode cX3_lookAt 32 = .ok (.aload_n 0, 1) := by decide +kernel
theorem dX3_lookAt_33 : decode cX3_lookAt 33 = .ok (.getfield 19, 3) := by decide +kernel
theorem dX3_lookAt_36 : decode cX3_lookAt 36 = .ok (.iload_n 1, 1) := by decide +kernel
theorem dX3_lookAt_37 : decode cX3_lookAt 37 = .ok (.invokevirtual 119, 3) := by decide +kernel
theorem dX3_lookAt_40 : decode cX3_lookAt 40 = .ok (.iload_n 3, 1) := by decide +kernel
theorem dX3_lookAt_41 : decode cX3_lookAt 41 = .ok (.invokevirtual 122, 3) := by decide +kernel
theorem dX3_lookAt_44 : decode cX3_lookAt 44 = .ok (.iconst 0, 1) := by decide +kernel
theorem dX3_lookAt_45 : decode cX3_lookAt 45 = .ok (.ireturn, 1) := by decide +kernel
set_option maxRecDepth 20000 in
theorem ggX3_reasonAgainst_X2_ruleOf : GoodIn wsX3_reasonAgainst wsX2_ruleOf := goodIn_r _ [8, 9, 10, 11, 12, 121, 122, 123, 124, 125, 126] (by decide +kernel) (by decide +kernel)
set_option maxRecDepth 20000 in
theorem gX3_reasonAgainst_X2_ruleOf : GoodIn wsX3_reasonAgainst (wsV RX3 119 RX2 yX2_ruleOf wsX2_ruleOf) := goodIn_app (goodIn_of _ (by decide +kernel)) ggX3_reasonAgainst_X2_ruleOf
set_option maxRecDepth 20000 in
theorem ggX3_reasonAgainst_X3_reasonAgainstNumbers : GoodIn wsX3_reasonAgainst wsX3_reasonAgainstNumbers := goodIn_r _ [16, 1, 17, 18, 19, 20, 7, 21, 22, 10, 11, 12, 23, 24, 25, 26, 3, 27, 28, 29, 30, 31, 32, 33, 34, 35, 36, 37, 38, 39, 40, 41, 42, 43, 44, 45, 46, 47, 48, 49, 50, 51, 52, 53, 54, 55, 56, 57, 118, 119, 120, 121, 122, 123, 124, 125, 126, 127, 128, 129, 130, 131, 132, 133, 134, 135, 136, 137, 138, 139] (by decide +kernel) (by decide +kernel)
set_option maxRecDepth 20000 in
theorem gX3_reasonAgainst_X3_reasonAgainstNumbers : GoodIn wsX3_reasonAgainst (wsV RX3 129 RX3 yX3_reasonAgainstNumbers wsX3_reasonAgainstNumbers) := goodIn_app (goodIn_of _ (by decide +kernel)) ggX3_reasonAgainst_X3_reasonAgainstNumbers
set_option maxRecDepth 20000 in
theorem ggX3_reasonAgainst_X2_pOf : GoodIn wsX3_reasonAgainst wsX2_pOf := goodIn_r _ [21, 22, 10, 11, 12, 121, 122, 123, 124, 125, 126] (by decide +kernel) (by decide +kernel)
set_option maxRecDepth 20000 in
theorem gX3_reasonAgainst_X2_pOf : GoodIn wsX3_reasonAgainst (wsV RX3 132 RX2 yX2_pOf wsX2_pOf) := goodIn_app (goodIn_of _ (by decide +kernel)) ggX3_reasonAgainst_X2_pOf
set_option maxRecDepth 20000 in
theorem ggX3_reasonAgainst_X0_headOf : GoodIn wsX3_reasonAgainst wsX0_headOf := goodIn_r _ [61, 62, 10, 11, 12, 127, 128, 129, 130, 131, 132] (by decide +kernel) (by decide +kernel)
set_option maxRecDepth 20000 in
theorem gX3_reasonAgainst_X0_headOf : GoodIn wsX3_reasonAgainst (wsV RX3 98 RX0 yX0_headOf wsX0_headOf) := goodIn_app (goodIn_of _ (by decide +kernel)) ggX3_reasonAgainst_X0_headOf
set_option maxRecDepth 20000 in
theorem ggX3_reasonAgainst_X3_isFormRight : GoodIn wsX3_reasonAgainst wsX3_isFormRight := goodIn_r _ [66, 17, 67, 68, 69, 55, 70, 71, 72, 53, 54, 56, 57, 73, 74, 75, 11, 76, 77, 78, 79, 80, 81, 82, 83, 84, 85, 86, 118, 119, 120, 133, 134, 135, 136, 137, 138, 139] (by decide +kernel) (by decide +kernel)
set_option maxRecDepth 20000 in
theorem gX3_reasonAgainst_X3_isFormRight : GoodIn wsX3_reasonAgainst (wsV RX3 135 RX3 yX3_isFormRight wsX3_isFormRight) := goodIn_app (goodIn_of _ (by decide +kernel)) ggX3_reasonAgainst_X3_isFormRight
set_option maxRecDepth 20000 in
theorem ggX3_reasonAgainst_X3_areBoxesRight : GoodIn wsX3_reasonAgainst wsX3_areBoxesRight := goodIn_r _ [90, 3, 1, 91, 92, 93, 31, 94, 95, 96, 97, 98, 99, 100, 10, 11, 12, 34, 35, 36, 7, 37, 38, 101, 102, 103, 104, 105, 39, 40, 41, 42, 43, 18, 19, 20, 21, 22, 118, 119, 120, 127, 128, 129, 130, 131, 132, 121, 122, 123, 124, 125, 126] (by decide +kernel) (by decide +kernel)
set_option maxRecDepth 20000 in
theorem gX3_reasonAgainst_X3_areBoxesRight : GoodIn wsX3_reasonAgainst (wsV RX3 139 RX3 yX3_areBoxesRight wsX3_areBoxesRight) := goodIn_app (goodIn_of _ (by decide +kernel)) ggX3_reasonAgainst_X3_areBoxesRight
set_option maxRecDepth 20000 in
theorem ggX3_reasonAgainst_X3_areAllLike : GoodIn wsX3_reasonAgainst wsX3_areAllLike := goodIn_r _ [109, 3, 1, 17, 18, 19, 20, 7, 21, 22, 10, 11, 12, 58, 59, 60, 31, 61, 62, 34, 35, 36, 37, 38, 39, 40, 41, 42, 43, 82, 83, 84, 55, 85, 86, 72, 53, 54, 56, 57, 77, 78, 79, 80, 81, 110, 111, 112, 113, 114, 115, 116, 117, 100, 118, 119, 120, 121, 122, 123, 124, 125, 126, 127, 128, 129, 130, 131, 132, 133, 134, 135, 136, 137, 138, 139] (by decide +kernel) (by decide +kernel)
set_option maxRecDepth 20000 in
theorem gX3_reasonAgainst_X3_areAllLike : GoodIn wsX3_reasonAgainst (wsV RX3 142 RX3 yX3_areAllLike wsX3_areAllLike) := goodIn_app (goodIn_of _ (by decide +kernel)) ggX3_reasonAgainst_X3_areAllLike
theorem dX3_reasonAgainst_0 : decode cX3_reasonAgainst 0 = .ok (.aload_n 0, 1) := by decide +kernel
theorem dX3_reasonAgainst_1 : decode cX3_reasonAgainst 1 = .ok (.getfield 19, 3) := by decide +kernel
theorem dX3_reasonAgainst_4 : decode cX3_reasonAgainst 4 = .ok (.iload_n 1, 1) := by decide +kernel
theorem dX3_reasonAgainst_5 : decode cX3_reasonAgainst 5 = .ok (.invokevirtual 119, 3) := by decide +kernel
theorem dX3_reasonAgainst_8 : decode cX3_reasonAgainst 8 = .ok (.istore_n 2, 1) := by decide +kernel
theorem dX3_reasonAgainst_9 : decode cX3_reasonAgainst 9 = .ok (.iload_n 2, 1) := by decide +kernel
theorem dX3_reasonAgainst_10 : decode cX3_reasonAgainst 10 = .ok (.ifCond .lt 11, 3) := by decide +kernel
theorem dX3_reasonAgainst_13 : decode cX3_reasonAgainst 13 = .ok (.iload_n 2, 1) := by decide +kernel
theorem dX3_reasonAgainst_14 : decode cX3_reasonAgainst 14 = .ok (.getstatic 125, 3) := by decide +kernel
theorem dX3_reasonAgainst_17 : decode cX3_reasonAgainst 17 = .ok (.arraylength, 1) := by decide +kernel
theorem dX3_reasonAgainst_18 : decode cX3_reasonAgainst 18 = .ok (.if_icmp .lt 6, 3) := by decide +kernel
theorem dX3_reasonAgainst_21 : decode cX3_reasonAgainst 21 = .ok (.bipush 8, 2) := by decide +kernel
theorem dX3_reasonAgainst_23 : decode cX3_reasonAgainst 23 = .ok (.ireturn, 1) := by decide +kernel
theorem dX3_reasonAgainst_24 : decode cX3_reasonAgainst 24 = .ok (.aload_n 0, 1) := by decide +kernel
theorem dX3_reasonAgainst_25 : decode cX3_reasonAgainst 25 = .ok (.iload_n 1, 1) := by decide +kernel
theorem dX3_reasonAgainst_26 : decode cX3_reasonAgainst 26 = .ok (.iload_n 2, 1) := by decide +kernel
theorem dX3_reasonAgainst_27 : decode cX3_reasonAgainst 27 = .ok (.getstatic 125, 3) := by decide +kernel
theorem dX3_reasonAgainst_30 : decode cX3_reasonAgainst 30 = .ok (.iload_n 2, 1) := by decide +kernel
theorem dX3_reasonAgainst_31 : decode cX3_reasonAgainst 31 = .ok (.iaload, 1) := by decide +kernel
theorem dX3_reasonAgainst_32 : decode cX3_reasonAgainst 32 = .ok (.invokevirtual 129, 3) := by decide +kernel
theorem dX3_reasonAgainst_35 : decode cX3_reasonAgainst 35 = .ok (.istore_n 3, 1) := by decide +kernel
theorem dX3_reasonAgainst_36 : decode cX3_reasonAgainst 36 = .ok (.iload_n 3, 1) := by decide +kernel
theorem dX3_reasonAgainst_37 : decode cX3_reasonAgainst 37 = .ok (.ifCond .eq 5, 3) := by decide +kernel
theorem dX3_reasonAgainst_40 : decode cX3_reasonAgainst 40 = .ok (.iload_n 3, 1) := by decide +kernel
theorem dX3_reasonAgainst_41 : decode cX3_reasonAgainst 41 = .ok (.ireturn, 1) := by decide +kernel
theorem dX3_reasonAgainst_42 : decode cX3_reasonAgainst 42 = .ok (.aload_n 0, 1) := by decide +kernel
theorem dX3_reasonAgainst_43 : decode cX3_reasonAgainst 43 = .ok (.iload_n 2, 1) := by decide +kernel
theorem dX3_reasonAgainst_44 : decode cX3_reasonAgainst 44 = .ok (.aload_n 0, 1) := by decide +kernel
theorem dX3_reasonAgainst_45 : decode cX3_reasonAgainst 45 = .ok (.getfield 26, 3) := by decide +kernel
theorem dX3_reasonAgainst_48 : decode cX3_reasonAgainst 48 = .ok (.aload_n 0, 1) := by decide +kernel
theorem dX3_reasonAgainst_49 : decode cX3_reasonAgainst 49 = .ok (.getfield 19, 3) := by decide +kernel
theorem dX3_reasonAgainst_52 : decode cX3_reasonAgainst 52 = .ok (.iload_n 1, 1) := by decide +kernel
theorem dX3_reasonAgainst_53 : decode cX3_reasonAgainst 53 = .ok (.invokevirtual 132, 3) := by decide +kernel
theorem dX3_reasonAgainst_56 : decode cX3_reasonAgainst 56 = .ok (.invokevirtual 98, 3) := by decide +kernel
theorem dX3_reasonAgainst_59 : decode cX3_reasonAgainst 59 = .ok (.invokevirtual 135, 3) := by decide +kernel
theorem dX3_reasonAgainst_62 : decode cX3_reasonAgainst 62 = .ok (.ifCond .ne 5, 3) := by decide +kernel
theorem dX3_reasonAgainst_65 : decode cX3_reasonAgainst 65 = .ok (.iconst 4, 1) := by decide +kernel
theorem dX3_reasonAgainst_66 : decode cX3_reasonAgainst 66 = .ok (.ireturn, 1) := by decide +kernel
theorem dX3_reasonAgainst_67 : decode cX3_reasonAgainst 67 = .ok (.aload_n 0, 1) := by decide +kernel
theorem dX3_reasonAgainst_68 : decode cX3_reasonAgainst 68 = .ok (.iload_n 1, 1) := by decide +kernel
theorem dX3_reasonAgainst_69 : decode cX3_reasonAgainst 69 = .ok (.iload_n 2, 1) := by decide +kernel
theorem dX3_reasonAgainst_70 : decode cX3_reasonAgainst 70 = .ok (.invokevirtual 139, 3) := by decide +kernel
theorem dX3_reasonAgainst_73 : decode cX3_reasonAgainst 73 = .ok (.ifCond .ne 5, 3) := by decide +kernel
theorem dX3_reasonAgainst_76 : decode cX3_reasonAgainst 76 = .ok (.iconst 5, 1) := by decide +kernel
theorem dX3_reasonAgainst_77 : decode cX3_reasonAgainst 77 = .ok (.ireturn, 1) := by decide +kernel
theorem dX3_reasonAgainst_78 : decode cX3_reasonAgainst 78 = .ok (.aload_n 0, 1) := by decide +kernel
theorem dX3_reasonAgainst_79 : decode cX3_reasonAgainst 79 = .ok (.iload_n 1, 1) := by decide +kernel
theorem dX3_reasonAgainst_80 : decode cX3_reasonAgainst 80 = .ok (.iload_n 2, 1) := by decide +kernel
theorem dX3_reasonAgainst_81 : decode cX3_reasonAgainst 81 = .ok (.invokevirtual 142, 3) := by decide +kernel
theorem dX3_reasonAgainst_84 : decode cX3_reasonAgainst 84 = .ok (.ifCond .eq 7, 3) := by decide +kernel
theorem dX3_reasonAgainst_87 : decode cX3_reasonAgainst 87 = .ok (.iconst 0, 1) := by decide +kernel
theorem dX3_reasonAgainst_88 : decode cX3_reasonAgainst 88 = .ok (.goto 5, 3) := by decide +kernel
theorem dX3_reasonAgainst_91 : decode cX3_reasonAgainst 91 = .ok (.bipush 6, 2) := by decide +kernel
theorem dX3_reasonAgainst_93 : decode cX3_reasonAgainst 93 = .ok (.ireturn, 1) := by decide +kernel
set_option maxRecDepth 20000 in
theorem ggX3_reasonAgainstNumbers_X2_pOf : GoodIn wsX3_reasonAgainstNumbers wsX2_pOf := goodIn_r _ [7, 8, 9, 10, 11, 51, 52, 53, 54, 55, 56] (by decide +kernel) (by decide +kernel)
set_option maxRecDepth 20000 in
theorem gX3_reasonAgainstNumbers_X2_pOf : GoodIn wsX3_reasonAgainstNumbers (wsV RX3 132 RX2 yX2_pOf wsX2_pOf) := goodIn_app (goodIn_of _ (by decide +kernel)) ggX3_reasonAgainstNumbers_X2_pOf
set_option maxRecDepth 20000 in
theorem ggX3_reasonAgainstNumbers_X3_reasonAgainstLine : GoodIn wsX3_reasonAgainstNumbers wsX3_reasonAgainstLine := goodIn_r _ [15, 16, 17, 9, 10, 11, 18, 19, 20, 21, 22, 23, 48, 49, 50, 57, 58, 59, 60, 61, 62] (by decide +kernel) (by decide +kernel)
set_option maxRecDepth 20000 in
theorem gX3_reasonAgainstNumbers_X3_reasonAgainstLine : GoodIn wsX3_reasonAgainstNumbers (wsV RX3 145 RX3 yX3_reasonAgainstLine wsX3_reasonAgainstLine) := goodIn_app (goodIn_of _ (by decide +kernel)) ggX3_reasonAgainstNumbers_X3_reasonAgainstLine
set_option maxRecDepth 20000 in
theorem ggX3_reasonAgainstNumbers_X2_qOf : GoodIn wsX3_reasonAgainstNumbers wsX2_qOf := goodIn_r _ [27, 28, 9, 10, 11, 51, 52, 53, 54, 55, 56] (by decide +kernel) (by decide +kernel)
set_option maxRecDepth 20000 in
theorem gX3_reasonAgainstNumbers_X2_qOf : GoodIn wsX3_reasonAgainstNumbers (wsV RX3 149 RX2 yX2_qOf wsX2_qOf) := goodIn_app (goodIn_of _ (by decide +kernel)) ggX3_reasonAgainstNumbers_X2_qOf
set_option maxRecDepth 20000 in
theorem ggX3_reasonAgainstNumbers_X2_rOf : GoodIn wsX3_reasonAgainstNumbers wsX2_rOf := goodIn_r _ [32, 33, 9, 10, 11, 51, 52, 53, 54, 55, 56] (by decide +kernel) (by decide +kernel)
set_option maxRecDepth 20000 in
theorem gX3_reasonAgainstNumbers_X2_rOf : GoodIn wsX3_reasonAgainstNumbers (wsV RX3 152 RX2 yX2_rOf wsX2_rOf) := goodIn_app (goodIn_of _ (by decide +kernel)) ggX3_reasonAgainstNumbers_X2_rOf
set_option maxRecDepth 20000 in
theorem ggX3_reasonAgainstNumbers_X3_takesFormula : GoodIn wsX3_reasonAgainstNumbers wsX3_takesFormula := goodIn_r _ [36] (by decide +kernel) (by decide +kernel)
set_option maxRecDepth 20000 in
theorem gX3_reasonAgainstNumbers_X3_takesFormula : GoodIn wsX3_reasonAgainstNumbers (va_wsS RX3 155 yX3_takesFormula wsX3_takesFormula) := goodIn_app (goodIn_of _ (by decide +kernel)) ggX3_reasonAgainstNumbers_X3_takesFormula
set_option maxRecDepth 20000 in
theorem ggX3_reasonAgainstNumbers_X2_formulaOf : GoodIn wsX3_reasonAgainstNumbers wsX2_formulaOf := goodIn_r _ [40, 41, 9, 10, 11, 51, 52, 53, 54, 55, 56] (by decide +kernel) (by decide +kernel)
set_option maxRecDepth 20000 in
theorem gX3_reasonAgainstNumbers_X2_formulaOf : GoodIn wsX3_reasonAgainstNumbers (wsV RX3 158 RX2 yX2_formulaOf wsX2_formulaOf) := goodIn_app (goodIn_of _ (by decide +kernel)) ggX3_reasonAgainstNumbers_X2_formulaOf
set_option maxRecDepth 20000 in
theorem ggX3_reasonAgainstNumbers_X1_has : GoodIn wsX3_reasonAgainstNumbers wsX1_has := goodIn_r _ [46, 47, 63, 64, 65, 66, 67, 68, 69] (by decide +kernel) (by decide +kernel)
set_option maxRecDepth 20000 in
theorem gX3_reasonAgainstNumbers_X1_has : GoodIn wsX3_reasonAgainstNumbers (wsV RX3 38 RX1 yX1_has wsX1_has) := goodIn_app (goodIn_of _ (by decide +kernel)) ggX3_reasonAgainstNumbers_X1_has
theorem dX3_reasonAgainstNumbers_0 : decode cX3_reasonAgainstNumbers 0 = .ok (.iconst 0, 1) := by decide +kernel
theorem dX3_reasonAgainstNumbers_1 : decode cX3_reasonAgainstNumbers 1 = .ok (.istore 4, 2) := by decide +kernel
theorem dX3_reasonAgainstNumbers_3 : decode cX3_reasonAgainstNumbers 3 = .ok (.iload_n 3, 1) := by decide +kernel
theorem dX3_reasonAgainstNumbers_4 : decode cX3_reasonAgainstNumbers 4 = .ok (.iconst 1, 1) := by decide +kernel
theorem dX3_reasonAgainstNumbers_5 : decode cX3_reasonAgainstNumbers 5 = .ok (.if_icmp .lt 29, 3) := by decide +kernel
theorem dX3_reasonAgainstNumbers_8 : decode cX3_reasonAgainstNumbers 8 = .ok (.aload_n 0, 1) := by decide +kernel
theorem dX3_reasonAgainstNumbers_9 : decode cX3_reasonAgainstNumbers 9 = .ok (.iload_n 1, 1) := by decide +kernel
theorem dX3_reasonAgainstNumbers_10 : decode cX3_reasonAgainstNumbers 10 = .ok (.aload_n 0, 1) := by decide +kernel
theorem dX3_reasonAgainstNumbers_11 : decode cX3_reasonAgainstNumbers 11 = .ok (.getfield 19, 3) := by decide +kernel
theorem dX3_reasonAgainstNumbers_14 : decode cX3_reasonAgainstNumbers 14 = .ok (.iload_n 1, 1) := by decide +kernel
theorem dX3_reasonAgainstNumbers_15 : decode cX3_reasonAgainstNumbers 15 = .ok (.invokevirtual 132, 3) := by decide +kernel
theorem dX3_reasonAgainstNumbers_18 : decode cX3_reasonAgainstNumbers 18 = .ok (.iload_n 2, 1) := by decide +kernel
theorem dX3_reasonAgainstNumbers_19 : decode cX3_reasonAgainstNumbers 19 = .ok (.bipush 10, 2) := by decide +kernel
theorem dX3_reasonAgainstNumbers_21 : decode cX3_reasonAgainstNumbers 21 = .ok (.if_icmp .eq 7, 3) := by decide +kernel
theorem dX3_reasonAgainstNumbers_24 : decode cX3_reasonAgainstNumbers 24 = .ok (.iconst 1, 1) := by decide +kernel
theorem dX3_reasonAgainstNumbers_25 : decode cX3_reasonAgainstNumbers 25 = .ok (.goto 4, 3) := by decide +kernel
theorem dX3_reasonAgainstNumbers_28 : decode cX3_reasonAgainstNumbers 28 = .ok (.iconst 0, 1) := by decide +kernel
theorem dX3_reasonAgainstNumbers_29 : decode cX3_reasonAgainstNumbers 29 = .ok (.invokevirtual 145, 3) := by decide +kernel
theorem dX3_reasonAgainstNumbers_32 : decode cX3_reasonAgainstNumbers 32 = .ok (.istore 4, 2) := by decide +kernel
theorem dX3_reasonAgainstNumbers_34 : decode cX3_reasonAgainstNumbers 34 = .ok (.iload 4, 2) := by decide +kernel
theorem dX3_reasonAgainstNumbers_36 : decode cX3_reasonAgainstNumbers 36 = .ok (.ifCond .ne 34, 3) := by decide +kernel
theorem dX3_reasonAgainstNumbers_39 : decode cX3_reasonAgainstNumbers 39 = .ok (.iload_n 3, 1) := by decide +kernel
theorem dX3_reasonAgainstNumbers_40 : decode cX3_reasonAgainstNumbers 40 = .ok (.iconst 2, 1) := by decide +kernel
theorem dX3_reasonAgainstNumbers_41 : decode cX3_reasonAgainstNumbers 41 = .ok (.if_icmp .lt 29, 3) := by decide +kernel
theorem dX3_reasonAgainstNumbers_44 : decode cX3_reasonAgainstNumbers 44 = .ok (.aload_n 0, 1) := by decide +kernel
theorem dX3_reasonAgainstNumbers_45 : decode cX3_reasonAgainstNumbers 45 = .ok (.iload_n 1, 1) := by decide +kernel
theorem dX3_reasonAgainstNumbers_46 : decode cX3_reasonAgainstNumbers 46 = .ok (.aload_n 0, 1) := by decide +kernel
theorem dX3_reasonAgainstNumbers_47 : decode cX3_reasonAgainstNumbers 47 = .ok (.getfield 19, 3) := by decide +kernel
theorem dX3_reasonAgainstNumbers_50 : decode cX3_reasonAgainstNumbers 50 = .ok (.iload_n 1, 1) := by decide +kernel
theorem dX3_reasonAgainstNumbers_51 : decode cX3_reasonAgainstNumbers 51 = .ok (.invokevirtual 149, 3) := by decide +kernel
theorem dX3_reasonAgainstNumbers_54 : decode cX3_reasonAgainstNumbers 54 = .ok (.iload_n 2, 1) := by decide +kernel
theorem dX3_reasonAgainstNumbers_55 : decode cX3_reasonAgainstNumbers 55 = .ok (.bipush 9, 2) := by decide +kernel
theorem dX3_reasonAgainstNumbers_57 : decode cX3_reasonAgainstNumbers 57 = .ok (.if_icmp .eq 7, 3) := by decide +kernel
theorem dX3_reasonAgainstNumbers_60 : decode cX3_reasonAgainstNumbers 60 = .ok (.iconst 1, 1) := by decide +kernel
theorem dX3_reasonAgainstNumbers_61 : decode cX3_reasonAgainstNumbers 61 = .ok (.goto 4, 3) := by decide +kernel
theorem dX3_reasonAgainstNumbers_64 : decode cX3_reasonAgainstNumbers 64 = .ok (.iconst 0, 1) := by decide +kernel
theorem dX3_reasonAgainstNumbers_65 : decode cX3_reasonAgainstNumbers 65 = .ok (.invokevirtual 145, 3) := by decide +kernel
theorem dX3_reasonAgainstNumbers_68 : decode cX3_reasonAgainstNumbers 68 = .ok (.istore 4, 2) := by decide +kernel
theorem dX3_reasonAgainstNumbers_70 : decode cX3_reasonAgainstNumbers 70 = .ok (.iload 4, 2) := by decide +kernel
theorem dX3_reasonAgainstNumbers_72 : decode cX3_reasonAgainstNumbers 72 = .ok (.ifCond .ne 34, 3) := by decide +kernel
theorem dX3_reasonAgainstNumbers_75 : decode cX3_reasonAgainstNumbers 75 = .ok (.iload_n 3, 1) := by decide +kernel
theorem dX3_reasonAgainstNumbers_76 : decode cX3_reasonAgainstNumbers 76 = .ok (.iconst 3, 1) := by decide +kernel
theorem dX3_reasonAgainstNumbers_77 : decode cX3_reasonAgainstNumbers 77 = .ok (.if_icmp .lt 29, 3) := by decide +kernel
theorem dX3_reasonAgainstNumbers_80 : decode cX3_reasonAgainstNumbers 80 = .ok (.aload_n 0, 1) := by decide +kernel
theorem dX3_reasonAgainstNumbers_81 : decode cX3_reasonAgainstNumbers 81 = .ok (.iload_n 1, 1) := by decide +kernel
theorem dX3_reasonAgainstNumbers_82 : decode cX3_reasonAgainstNumbers 82 = .ok (.aload_n 0, 1) := by decide +kernel
theorem dX3_reasonAgainstNumbers_83 : decode cX3_reasonAgainstNumbers 83 = .ok (.getfield 19, 3) := by decide +kernel
theorem dX3_reasonAgainstNumbers_86 : decode cX3_reasonAgainstNumbers 86 = .ok (.iload_n 1, 1) := by decide +kernel
theorem dX3_reasonAgainstNumbers_87 : decode cX3_reasonAgainstNumbers 87 = .ok (.invokevirtual 152, 3) := by decide +kernel
theorem dX3_reasonAgainstNumbers_90 : decode cX3_reasonAgainstNumbers 90 = .ok (.iload_n 2, 1) := by decide +kernel
theorem dX3_reasonAgainstNumbers_91 : decode cX3_reasonAgainstNumbers 91 = .ok (.bipush 9, 2) := by decide +kernel
theorem dX3_reasonAgainstNumbers_93 : decode cX3_reasonAgainstNumbers 93 = .ok (.if_icmp .eq 7, 3) := by decide +kernel
theorem dX3_reasonAgainstNumbers_96 : decode cX3_reasonAgainstNumbers 96 = .ok (.iconst 1, 1) := by decide +kernel
theorem dX3_reasonAgainstNumbers_97 : decode cX3_reasonAgainstNumbers 97 = .ok (.goto 4, 3) := by decide +kernel
theorem dX3_reasonAgainstNumbers_100 : decode cX3_reasonAgainstNumbers 100 = .ok (.iconst 0, 1) := by decide +kernel
theorem dX3_reasonAgainstNumbers_101 : decode cX3_reasonAgainstNumbers 101 = .ok (.invokevirtual 145, 3) := by decide +kernel
theorem dX3_reasonAgainstNumbers_104 : decode cX3_reasonAgainstNumbers 104 = .ok (.istore 4, 2) := by decide +kernel
theorem dX3_reasonAgainstNumbers_106 : decode cX3_reasonAgainstNumbers 106 = .ok (.iload 4, 2) := by decide +kernel
theorem dX3_reasonAgainstNumbers_108 : decode cX3_reasonAgainstNumbers 108 = .ok (.ifCond .ne 31, 3) := by decide +kernel
theorem dX3_reasonAgainstNumbers_111 : decode cX3_reasonAgainstNumbers 111 = .ok (.iload_n 2, 1) := by decide +kernel
theorem dX3_reasonAgainstNumbers_112 : decode cX3_reasonAgainstNumbers 112 = .ok (.invokestatic 155, 3) := by decide +kernel
theorem dX3_reasonAgainstNumbers_115 : decode cX3_reasonAgainstNumbers 115 = .ok (.ifCond .eq 24, 3) := by decide +kernel
theorem dX3_reasonAgainstNumbers_118 : decode cX3_reasonAgainstNumbers 118 = .ok (.aload_n 0, 1) := by decide +kernel
theorem dX3_reasonAgainstNumbers_119 : decode cX3_reasonAgainstNumbers 119 = .ok (.getfield 10, 3) := by decide +kernel
theorem dX3_reasonAgainstNumbers_122 : decode cX3_reasonAgainstNumbers 122 = .ok (.aload_n 0, 1) := by decide +kernel
theorem dX3_reasonAgainstNumbers_123 : decode cX3_reasonAgainstNumbers 123 = .ok (.getfield 19, 3) := by decide +kernel
theorem dX3_reasonAgainstNumbers_126 : decode cX3_reasonAgainstNumbers 126 = .ok (.iload_n 1, 1) := by decide +kernel
theorem dX3_reasonAgainstNumbers_127 : decode cX3_reasonAgainstNumbers 127 = .ok (.invokevirtual 158, 3) := by decide +kernel
theorem dX3_reasonAgainstNumbers_130 : decode cX3_reasonAgainstNumbers 130 = .ok (.invokevirtual 38, 3) := by decide +kernel
theorem dX3_reasonAgainstNumbers_133 : decode cX3_reasonAgainstNumbers 133 = .ok (.ifCond .ne 6, 3) := by decide +kernel
theorem dX3_reasonAgainstNumbers_136 : decode cX3_reasonAgainstNumbers 136 = .ok (.iconst 1, 1) := by decide +kernel
theorem dX3_reasonAgainstNumbers_137 : decode cX3_reasonAgainstNumbers 137 = .ok (.istore 4, 2) := by decide +kernel
theorem dX3_reasonAgainstNumbers_139 : decode cX3_reasonAgainstNumbers 139 = .ok (.iload 4, 2) := by decide +kernel
theorem dX3_reasonAgainstNumbers_141 : decode cX3_reasonAgainstNumbers 141 = .ok (.ireturn, 1) := by decide +kernel
set_option maxRecDepth 20000 in
theorem ggX3_reasonAgainstLine_X3_isLine : GoodIn wsX3_reasonAgainstLine wsX3_isLine := goodIn_r _ [5] (by decide +kernel) (by decide +kernel)
set_option maxRecDepth 20000 in
theorem gX3_reasonAgainstLine_X3_isLine : GoodIn wsX3_reasonAgainstLine (va_wsS RX3 67 yX3_isLine wsX3_isLine) := goodIn_app (goodIn_of _ (by decide +kernel)) ggX3_reasonAgainstLine_X3_isLine
set_option maxRecDepth 20000 in
theorem ggX3_reasonAgainstLine_X0_isInForce : GoodIn wsX3_reasonAgainstLine wsX0_isInForce := goodIn_r _ [10, 11, 3, 4, 5, 15, 16, 17, 18, 19, 20] (by decide +kernel) (by decide +kernel)
set_option maxRecDepth 20000 in
theorem gX3_reasonAgainstLine_X0_isInForce : GoodIn wsX3_reasonAgainstLine (wsV RX3 101 RX0 yX0_isInForce wsX0_isInForce) := goodIn_app (goodIn_of _ (by decide +kernel)) ggX3_reasonAgainstLine_X0_isInForce
theorem dX3_reasonAgainstLine_0 : decode cX3_reasonAgainstLine 0 = .ok (.iload_n 2, 1) := by decide +kernel
theorem dX3_reasonAgainstLine_1 : decode cX3_reasonAgainstLine 1 = .ok (.invokestatic 67, 3) := by decide +kernel
theorem dX3_reasonAgainstLine_4 : decode cX3_reasonAgainstLine 4 = .ok (.ifCond .ne 5, 3) := by decide +kernel
theorem dX3_reasonAgainstLine_7 : decode cX3_reasonAgainstLine 7 = .ok (.iconst 1, 1) := by decide +kernel
theorem dX3_reasonAgainstLine_8 : decode cX3_reasonAgainstLine 8 = .ok (.ireturn, 1) := by decide +kernel
theorem dX3_reasonAgainstLine_9 : decode cX3_reasonAgainstLine 9 = .ok (.iload_n 2, 1) := by decide +kernel
theorem dX3_reasonAgainstLine_10 : decode cX3_reasonAgainstLine 10 = .ok (.iload_n 1, 1) := by decide +kernel
theorem dX3_reasonAgainstLine_11 : decode cX3_reasonAgainstLine 11 = .ok (.if_icmp .lt 5, 3) := by decide +kernel
theorem dX3_reasonAgainstLine_14 : decode cX3_reasonAgainstLine 14 = .ok (.iconst 2, 1) := by decide +kernel
theorem dX3_reasonAgainstLine_15 : decode cX3_reasonAgainstLine 15 = .ok (.ireturn, 1) := by decide +kernel
theorem dX3_reasonAgainstLine_16 : decode cX3_reasonAgainstLine 16 = .ok (.iload_n 3, 1) := by decide +kernel
theorem dX3_reasonAgainstLine_17 : decode cX3_reasonAgainstLine 17 = .ok (.ifCond .eq 18, 3) := by decide +kernel
theorem dX3_reasonAgainstLine_20 : decode cX3_reasonAgainstLine 20 = .ok (.aload_n 0, 1) := by decide +kernel
theorem dX3_reasonAgainstLine_21 : decode cX3_reasonAgainstLine 21 = .ok (.getfield 26, 3) := by decide +kernel
theorem dX3_reasonAgainstLine_24 : decode cX3_reasonAgainstLine 24 = .ok (.iload_n 2, 1) := by decide +kernel
theorem dX3_reasonAgainstLine_25 : decode cX3_reasonAgainstLine 25 = .ok (.invokevirtual 101, 3) := by decide +kernel
theorem dX3_reasonAgainstLine_28 : decode cX3_reasonAgainstLine 28 = .ok (.ifCond .ne 7, 3) := by decide +kernel
theorem dX3_reasonAgainstLine_31 : decode cX3_reasonAgainstLine 31 = .ok (.iconst 3, 1) := by decide +kernel
theorem dX3_reasonAgainstLine_32 : decode cX3_reasonAgainstLine 32 = .ok (.goto 4, 3) := by decide +kernel
theorem dX3_reasonAgainstLine_35 : decode cX3_reasonAgainstLine 35 = .ok (.iconst 0, 1) := by decide +kernel
theorem dX3_reasonAgainstLine_36 : decode cX3_reasonAgainstLine 36 = .ok (.ireturn, 1) := by decide +kernel
theorem dX3_takesFormula_0 : decode cX3_takesFormula 0 = .ok (.iload_n 0, 1) := by decide +kernel
theorem dX3_takesFormula_1 : decode cX3_takesFormula 1 = .ok (.ifCond .eq 26, 3) := by decide +kernel
theorem dX3_takesFormula_4 : decode cX3_takesFormula 4 = .ok (.iload_n 0, 1) := by decide +kernel
theorem dX3_takesFormula_5 : decode cX3_takesFormula 5 = .ok (.iconst 1, 1) := by decide +kernel
theorem dX3_takesFormula_6 : decode cX3_takesFormula 6 = .ok (.if_icmp .eq 21, 3) := by decide +kernel
theorem dX3_takesFormula_9 : decode cX3_takesFormula 9 = .ok (.iload_n 0, 1) := by decide +kernel
theorem dX3_takesFormula_10 : decode cX3_takesFormula 10 = .ok (.bipush 7, 2) := by decide +kernel
theorem dX3_takesFormula_12 : decode cX3_takesFormula 12 = .ok (.if_icmp .eq 15, 3) := by decide +kernel
theorem dX3_takesFormula_15 : decode cX3_takesFormula 15 = .ok (.iload_n 0, 1) := by decide +kernel
theorem dX3_takesFormula_16 : decode cX3_takesFormula 16 = .ok (.bipush 8, 2) := by decide +kernel
theorem dX3_takesFormula_18 : decode cX3_takesFormula 18 = .ok (.if_icmp .eq 9, 3) := by decide +kernel
theorem dX3_takesFormula_21 : decode cX3_takesFormula 21 = .ok (.iload_n 0, 1) := by decide +kernel
theorem dX3_takesFormula_22 : decode cX3_takesFormula 22 = .ok (.bipush 12, 2) := by decide +kernel
theorem dX3_takesFormula_24 : decode cX3_takesFormula 24 = .ok (.if_icmp .ne 7, 3) := by decide +kernel
theorem dX3_takesFormula_27 : decode cX3_takesFormula 27 = .ok (.iconst 1, 1) := by decide +kernel
theorem dX3_takesFormula_28 : decode cX3_takesFormula 28 = .ok (.goto 4, 3) := by decide +kernel
theorem dX3_takesFormula_31 : decode cX3_takesFormula 31 = .ok (.iconst 0, 1) := by decide +kernel
theorem dX3_takesFormula_32 : decode cX3_takesFormula 32 = .ok (.ireturn, 1) := by decide +kernel
set_option maxRecDepth 20000 in
theorem ggX3_isFormRight_X1_kindOf : GoodIn wsX3_isFormRight wsX1_kindOf := goodIn_r _ [6, 7, 8, 9, 10, 5, 11, 12, 31, 32, 33, 34, 35, 36, 37] (by decide +kernel) (by decide +kernel)
set_option maxRecDepth 20000 in
theorem gX3_isFormRight_X1_kindOf : GoodIn wsX3_isFormRight (wsV RX3 41 RX1 yX1_kindOf wsX1_kindOf) := goodIn_app (goodIn_of _ (by decide +kernel)) ggX3_isFormRight_X1_kindOf
set_option maxRecDepth 20000 in
theorem ggX3_isFormRight_X3_isNegation : GoodIn wsX3_isFormRight wsX3_isNegation := goodIn_r _ [17, 1, 2, 3, 4, 5, 6, 7, 8, 9, 10, 11, 12, 18, 19, 20, 21, 22, 28, 29, 30, 31, 32, 33, 34, 35, 36, 37] (by decide +kernel) (by decide +kernel)
set_option maxRecDepth 20000 in
theorem gX3_isFormRight_X3_isNegation : GoodIn wsX3_isFormRight (wsV RX3 161 RX3 yX3_isNegation wsX3_isNegation) := goodIn_app (goodIn_of _ (by decide +kernel)) ggX3_isFormRight_X3_isNegation
set_option maxRecDepth 20000 in
theorem ggX3_isFormRight_X1_firstOf : GoodIn wsX3_isFormRight wsX1_firstOf := goodIn_r _ [26, 27, 8, 9, 10, 5, 11, 12, 31, 32, 33, 34, 35, 36, 37] (by decide +kernel) (by decide +kernel)
set_option maxRecDepth 20000 in
theorem gX3_isFormRight_X1_firstOf : GoodIn wsX3_isFormRight (wsV RX3 45 RX1 yX1_firstOf wsX1_firstOf) := goodIn_app (goodIn_of _ (by decide +kernel)) ggX3_isFormRight_X1_firstOf
theorem dX3_isFormRight_0 : decode cX3_isFormRight 0 = .ok (.iload_n 1, 1) := by decide +kernel
theorem dX3_isFormRight_1 : decode cX3_isFormRight 1 = .ok (.tableswitch 151 5 13 #[51, 51, 151, 151, 69, 151, 87, 105, 122], 51) := by decide +kernel
theorem dX3_isFormRight_52 : decode cX3_isFormRight 52 = .ok (.aload_n 0, 1) := by decide +kernel
theorem dX3_isFormRight_53 : decode cX3_isFormRight 53 = .ok (.getfield 10, 3) := by decide +kernel
theorem dX3_isFormRight_56 : decode cX3_isFormRight 56 = .ok (.iload_n 2, 1) := by decide +kernel
theorem dX3_isFormRight_57 : decode cX3_isFormRight 57 = .ok (.invokevirtual 41, 3) := by decide +kernel
theorem dX3_isFormRight_60 : decode cX3_isFormRight 60 = .ok (.iconst 2, 1) := by decide +kernel
theorem dX3_isFormRight_61 : decode cX3_isFormRight 61 = .ok (.if_icmp .ne 7, 3) := by decide +kernel
theorem dX3_isFormRight_64 : decode cX3_isFormRight 64 = .ok (.iconst 1, 1) := by decide +kernel
theorem dX3_isFormRight_65 : decode cX3_isFormRight 65 = .ok (.goto 4, 3) := by decide +kernel
theorem dX3_isFormRight_68 : decode cX3_isFormRight 68 = .ok (.iconst 0, 1) := by decide +kernel
theorem dX3_isFormRight_69 : decode cX3_isFormRight 69 = .ok (.ireturn, 1) := by decide +kernel
theorem dX3_isFormRight_70 : decode cX3_isFormRight 70 = .ok (.aload_n 0, 1) := by decide +kernel
theorem dX3_isFormRight_71 : decode cX3_isFormRight 71 = .ok (.getfield 10, 3) := by decide +kernel
theorem dX3_isFormRight_74 : decode cX3_isFormRight 74 = .ok (.iload_n 2, 1) := by decide +kernel
theorem dX3_isFormRight_75 : decode cX3_isFormRight 75 = .ok (.invokevirtual 41, 3) := by decide +kernel
theorem dX3_isFormRight_78 : decode cX3_isFormRight 78 = .ok (.iconst 3, 1) := by decide +kernel
theorem dX3_isFormRight_79 : decode cX3_isFormRight 79 = .ok (.if_icmp .ne 7, 3) := by decide +kernel
theorem dX3_isFormRight_82 : decode cX3_isFormRight 82 = .ok (.iconst 1, 1) := by decide +kernel
theorem dX3_isFormRight_83 : decode cX3_isFormRight 83 = .ok (.goto 4, 3) := by decide +kernel
theorem dX3_isFormRight_86 : decode cX3_isFormRight 86 = .ok (.iconst 0, 1) := by decide +kernel
theorem dX3_isFormRight_87 : decode cX3_isFormRight 87 = .ok (.ireturn, 1) := by decide +kernel
theorem dX3_isFormRight_88 : decode cX3_isFormRight 88 = .ok (.aload_n 0, 1) := by decide +kernel
theorem dX3_isFormRight_89 : decode cX3_isFormRight 89 = .ok (.getfield 10, 3) := by decide +kernel
theorem dX3_isFormRight_92 : decode cX3_isFormRight 92 = .ok (.iload_n 2, 1) := by decide +kernel
theorem dX3_isFormRight_93 : decode cX3_isFormRight 93 = .ok (.invokevirtual 41, 3) := by decide +kernel
theorem dX3_isFormRight_96 : decode cX3_isFormRight 96 = .ok (.iconst 4, 1) := by decide +kernel
theorem dX3_isFormRight_97 : decode cX3_isFormRight 97 = .ok (.if_icmp .ne 7, 3) := by decide +kernel
theorem dX3_isFormRight_100 : decode cX3_isFormRight 100 = .ok (.iconst 1, 1) := by decide +kernel
theorem dX3_isFormRight_101 : decode cX3_isFormRight 101 = .ok (.goto 4, 3) := by decide +kernel
theorem dX3_isFormRight_104 : decode cX3_isFormRight 104 = .ok (.iconst 0, 1) := by decide +kernel
theorem dX3_isFormRight_105 : decode cX3_isFormRight 105 = .ok (.ireturn, 1) := by decide +kernel
theorem dX3_isFormRight_106 : decode cX3_isFormRight 106 = .ok (.aload_n 0, 1) := by decide +kernel
theorem dX3_isFormRight_107 : decode cX3_isFormRight 107 = .ok (.getfield 10, 3) := by decide +kernel
theorem dX3_isFormRight_110 : decode cX3_isFormRight 110 = .ok (.iload_n 2, 1) := by decide +kernel
theorem dX3_isFormRight_111 : decode cX3_isFormRight 111 = .ok (.invokevirtual 41, 3) := by decide +kernel
theorem dX3_isFormRight_114 : decode cX3_isFormRight 114 = .ok (.ifCond .ne 7, 3) := by decide +kernel
theorem dX3_isFormRight_117 : decode cX3_isFormRight 117 = .ok (.iconst 1, 1) := by decide +kernel
theorem dX3_isFormRight_118 : decode cX3_isFormRight 118 = .ok (.goto 4, 3) := by decide +kernel
theorem dX3_isFormRight_121 : decode cX3_isFormRight 121 = .ok (.iconst 0, 1) := by decide +kernel
theorem dX3_isFormRight_122 : decode cX3_isFormRight 122 = .ok (.ireturn, 1) := by decide +kernel
theorem dX3_isFormRight_123 : decode cX3_isFormRight 123 = .ok (.aload_n 0, 1) := by decide +kernel
theorem dX3_isFormRight_124 : decode cX3_isFormRight 124 = .ok (.iload_n 2, 1) := by decide +kernel
theorem dX3_isFormRight_125 : decode cX3_isFormRight 125 = .ok (.invokevirtual 161, 3) := by decide +kernel
theorem dX3_isFormRight_128 : decode cX3_isFormRight 128 = .ok (.ifCond .eq 22, 3) := by decide +kernel
theorem dX3_isFormRight_131 : decode cX3_isFormRight 131 = .ok (.aload_n 0, 1) := by decide +kernel
theorem dX3_isFormRight_132 : decode cX3_isFormRight 132 = .ok (.aload_n 0, 1) := by decide +kernel
theorem dX3_isFormRight_133 : decode cX3_isFormRight 133 = .ok (.getfield 10, 3) := by decide +kernel
theorem dX3_isFormRight_136 : decode cX3_isFormRight 136 = .ok (.iload_n 2, 1) := by decide +kernel
theorem dX3_isFormRight_137 : decode cX3_isFormRight 137 = .ok (.invokevirtual 45, 3) := by decide +kernel
theorem dX3_isFormRight_140 : decode cX3_isFormRight 140 = .ok (.invokevirtual 161, 3) := by decide +kernel
theorem dX3_isFormRight_143 : decode cX3_isFormRight 143 = .ok (.ifCond .eq 7, 3) := by decide +kernel
theorem dX3_isFormRight_146 : decode cX3_isFormRight 146 = .ok (.iconst 1, 1) := by decide +kernel
theorem dX3_isFormRight_147 : decode cX3_isFormRight 147 = .ok (.goto 4, 3) := by decide +kernel
theorem dX3_isFormRight_150 : decode cX3_isFormRight 150 = .ok (.iconst 0, 1) := by decide +kernel
theorem dX3_isFormRight_151 : decode cX3_isFormRight 151 = .ok (.ireturn, 1) := by decide +kernel
theorem dX3_isFormRight_152 : decode cX3_isFormRight 152 = .ok (.iconst 1, 1) := by decide +kernel
theorem dX3_isFormRight_153 : decode cX3_isFormRight 153 = .ok (.ireturn, 1) := by decide +kernel
set_option maxRecDepth 20000 in
theorem ggX3_isNegation_X1_kindOf : GoodIn wsX3_isNegation wsX1_kindOf := goodIn_r _ [6, 7, 8, 9, 10, 5, 11, 12, 21, 22, 23, 24, 25, 26, 27] (by decide +kernel) (by decide +kernel)
set_option maxRecDepth 20000 in
theorem gX3_isNegation_X1_kindOf : GoodIn wsX3_isNegation (wsV RX3 41 RX1 yX1_kindOf wsX1_kindOf) := goodIn_app (goodIn_of _ (by decide +kernel)) ggX3_isNegation_X1_kindOf
set_option maxRecDepth 20000 in
theorem ggX3_isNegation_X1_secondOf : GoodIn wsX3_isNegation wsX1_secondOf := goodIn_r _ [16, 17, 8, 9, 10, 5, 11, 12, 21, 22, 23, 24, 25, 26, 27] (by decide +kernel) (by decide +kernel)
set_option maxRecDepth 20000 in
theorem gX3_isNegation_X1_secondOf : GoodIn wsX3_isNegation (wsV RX3 48 RX1 yX1_secondOf wsX1_secondOf) := goodIn_app (goodIn_of _ (by decide +kernel)) ggX3_isNegation_X1_secondOf
theorem dX3_isNegation_0 : decode cX3_isNegation 0 = .ok (.aload_n 0, 1) := by decide +kernel
theorem dX3_isNegation_1 : decode cX3_isNegation 1 = .ok (.getfield 10, 3) := by decide +kernel
theorem dX3_isNegation_4 : decode cX3_isNegation 4 = .ok (.iload_n 1, 1) := by decide +kernel
theorem dX3_isNegation_5 : decode cX3_isNegation 5 = .ok (.invokevirtual 41, 3) := by decide +kernel
theorem dX3_isNegation_8 : decode cX3_isNegation 8 = .ok (.iconst 4, 1) := by decide +kernel
theorem dX3_isNegation_9 : decode cX3_isNegation 9 = .ok (.if_icmp .ne 25, 3) := by decide +kernel
theorem dX3_isNegation_12 : decode cX3_isNegation 12 = .ok (.aload_n 0, 1) := by decide +kernel
theorem dX3_isNegation_13 : decode cX3_isNegation 13 = .ok (.getfield 10, 3) := by decide +kernel
theorem dX3_isNegation_16 : decode cX3_isNegation 16 = .ok (.aload_n 0, 1) := by decide +kernel
theorem dX3_isNegation_17 : decode cX3_isNegation 17 = .ok (.getfield 10, 3) := by decide +kernel
theorem dX3_isNegation_20 : decode cX3_isNegation 20 = .ok (.iload_n 1, 1) := by decide +kernel
theorem dX3_isNegation_21 : decode cX3_isNegation 21 = .ok (.invokevirtual 48, 3) := by decide +kernel
theorem dX3_isNegation_24 : decode cX3_isNegation 24 = .ok (.invokevirtual 41, 3) := by decide +kernel
theorem dX3_isNegation_27 : decode cX3_isNegation 27 = .ok (.ifCond .ne 7, 3) := by decide +kernel
theorem dX3_isNegation_30 : decode cX3_isNegation 30 = .ok (.iconst 1, 1) := by decide +kernel
theorem dX3_isNegation_31 : decode cX3_isNegation 31 = .ok (.goto 4, 3) := by decide +kernel
theorem dX3_isNegation_34 : decode cX3_isNegation 34 = .ok (.iconst 0, 1) := by decide +kernel
theorem dX3_isNegation_35 : decode cX3_isNegation 35 = .ok (.ireturn, 1) := by decide +kernel
set_option maxRecDepth 20000 in
theorem ggX3_areBoxesRight_X0_innermostOpen : GoodIn wsX3_areBoxesRight wsX0_innermostOpen := goodIn_r _ [7, 8, 9, 10, 6, 11, 12, 13, 14, 15, 16, 41, 42, 43, 44, 45, 46] (by decide +kernel) (by decide +kernel)
set_option maxRecDepth 20000 in
theorem gX3_areBoxesRight_X0_innermostOpen : GoodIn wsX3_areBoxesRight (wsV RX3 164 RX0 yX0_innermostOpen wsX0_innermostOpen) := goodIn_app (goodIn_of _ (by decide +kernel)) ggX3_areBoxesRight_X0_innermostOpen
set_option maxRecDepth 20000 in
theorem ggX3_areBoxesRight_X2_qOf : GoodIn wsX3_areBoxesRight wsX2_qOf := goodIn_r _ [21, 22, 14, 15, 16, 47, 48, 49, 50, 51, 52] (by decide +kernel) (by decide +kernel)
set_option maxRecDepth 20000 in
theorem gX3_areBoxesRight_X2_qOf : GoodIn wsX3_areBoxesRight (wsV RX3 149 RX2 yX2_qOf wsX2_qOf) := goodIn_app (goodIn_of _ (by decide +kernel)) ggX3_areBoxesRight_X2_qOf
set_option maxRecDepth 20000 in
theorem ggX3_areBoxesRight_X0_isUsableBox : GoodIn wsX3_areBoxesRight wsX0_isUsableBox := goodIn_r _ [26, 27, 14, 15, 16, 41, 42, 43, 44, 45, 46] (by decide +kernel) (by decide +kernel)
set_option maxRecDepth 20000 in
theorem gX3_areBoxesRight_X0_isUsableBox : GoodIn wsX3_areBoxesRight (wsV RX3 167 RX0 yX0_isUsableBox wsX0_isUsableBox) := goodIn_app (goodIn_of _ (by decide +kernel)) ggX3_areBoxesRight_X0_isUsableBox
set_option maxRecDepth 20000 in
theorem ggX3_areBoxesRight_X2_rOf : GoodIn wsX3_areBoxesRight wsX2_rOf := goodIn_r _ [31, 32, 14, 15, 16, 47, 48, 49, 50, 51, 52] (by decide +kernel) (by decide +kernel)
set_option maxRecDepth 20000 in
theorem gX3_areBoxesRight_X2_rOf : GoodIn wsX3_areBoxesRight (wsV RX3 152 RX2 yX2_rOf wsX2_rOf) := goodIn_app (goodIn_of _ (by decide +kernel)) ggX3_areBoxesRight_X2_rOf
set_option maxRecDepth 20000 in
theorem ggX3_areBoxesRight_X2_pOf : GoodIn wsX3_areBoxesRight wsX2_pOf := goodIn_r _ [36, 37, 14, 15, 16, 47, 48, 49, 50, 51, 52] (by decide +kernel) (by decide +kernel)
set_option maxRecDepth 20000 in
theorem gX3_areBoxesRight_X2_pOf : GoodIn wsX3_areBoxesRight (wsV RX3 132 RX2 yX2_pOf wsX2_pOf) := goodIn_app (goodIn_of _ (by decide +kernel)) ggX3_areBoxesRight_X2_pOf
theorem dX3_areBoxesRight_0 : decode cX3_areBoxesRight 0 = .ok (.iload_n 2, 1) := by decide +kernel
theorem dX3_areBoxesRight_1 : decode cX3_areBoxesRight 1 = .ok (.lookupswitch 110 #[(2, 35), (9, 52), (10, 94)], 35) := by decide +kernel
theorem dX3_areBoxesRight_36 : decode cX3_areBoxesRight 36 = .ok (.aload_n 0, 1) := by decide +kernel
theorem dX3_areBoxesRight_37 : decode cX3_areBoxesRight 37 = .ok (.getfield 26, 3) := by decide +kernel
theorem dX3_areBoxesRight_40 : decode cX3_areBoxesRight 40 = .ok (.invokevirtual 164, 3) := by decide +kernel
theorem dX3_areBoxesRight_43 : decode cX3_areBoxesRight 43 = .ok (.iconst (-1), 1) := by decide +kernel
theorem dX3_areBoxesRight_44 : decode cX3_areBoxesRight 44 = .ok (.if_icmp .eq 7, 3) := by decide +kernel
theorem dX3_areBoxesRight_47 : decode cX3_areBoxesRight 47 = .ok (.iconst 1, 1) := by decide +kernel
theorem dX3_areBoxesRight_48 : decode cX3_areBoxesRight 48 = .ok (.goto 4, 3) := by decide +kernel
theorem dX3_areBoxesRight_51 : decode cX3_areBoxesRight 51 = .ok (.iconst 0, 1) := by decide +kernel
theorem dX3_areBoxesRight_52 : decode cX3_areBoxesRight 52 = .ok (.ireturn, 1) := by decide +kernel
theorem dX3_areBoxesRight_53 : decode cX3_areBoxesRight 53 = .ok (.aload_n 0, 1) := by decide +kernel
theorem dX3_areBoxesRight_54 : decode cX3_areBoxesRight 54 = .ok (.getfield 26, 3) := by decide +kernel
theorem dX3_areBoxesRight_57 : decode cX3_areBoxesRight 57 = .ok (.aload_n 0, 1) := by decide +kernel
theorem dX3_areBoxesRight_58 : decode cX3_areBoxesRight 58 = .ok (.getfield 19, 3) := by decide +kernel
theorem dX3_areBoxesRight_61 : decode cX3_areBoxesRight 61 = .ok (.iload_n 1, 1) := by decide +kernel
theorem dX3_areBoxesRight_62 : decode cX3_areBoxesRight 62 = .ok (.invokevirtual 149, 3) := by decide +kernel
theorem dX3_areBoxesRight_65 : decode cX3_areBoxesRight 65 = .ok (.invokevirtual 167, 3) := by decide +kernel
theorem dX3_areBoxesRight_68 : decode cX3_areBoxesRight 68 = .ok (.ifCond .eq 25, 3) := by decide +kernel
theorem dX3_areBoxesRight_71 : decode cX3_areBoxesRight 71 = .ok (.aload_n 0, 1) := by decide +kernel
theorem dX3_areBoxesRight_72 : decode cX3_areBoxesRight 72 = .ok (.getfield 26, 3) := by decide +kernel
theorem dX3_areBoxesRight_75 : decode cX3_areBoxesRight 75 = .ok (.aload_n 0, 1) := by decide +kernel
theorem dX3_areBoxesRight_76 : decode cX3_areBoxesRight 76 = .ok (.getfield 19, 3) := by decide +kernel
theorem dX3_areBoxesRight_79 : decode cX3_areBoxesRight 79 = .ok (.iload_n 1, 1) := by decide +kernel
theorem dX3_areBoxesRight_80 : decode cX3_areBoxesRight 80 = .ok (.invokevirtual 152, 3) := by decide +kernel
theorem dX3_areBoxesRight_83 : decode cX3_areBoxesRight 83 = .ok (.invokevirtual 167, 3) := by decide +kernel
theorem dX3_areBoxesRight_86 : decode cX3_areBoxesRight 86 = .ok (.ifCond .eq 7, 3) := by decide +kernel
theorem dX3_areBoxesRight_89 : decode cX3_areBoxesRight 89 = .ok (.iconst 1, 1) := by decide +kernel
theorem dX3_areBoxesRight_90 : decode cX3_areBoxesRight 90 = .ok (.goto 4, 3) := by decide +kernel
theorem dX3_areBoxesRight_93 : decode cX3_areBoxesRight 93 = .ok (.iconst 0, 1) := by decide +kernel
theorem dX3_areBoxesRight_94 : decode cX3_areBoxesRight 94 = .ok (.ireturn, 1) := by decide +kernel
theorem dX3_areBoxesRight_95 : decode cX3_areBoxesRight 95 = .ok (.aload_n 0, 1) := by decide +kernel
theorem dX3_areBoxesRight_96 : decode cX3_areBoxesRight 96 = .ok (.getfield 26, 3) := by decide +kernel
theorem dX3_areBoxesRight_99 : decode cX3_areBoxesRight 99 = .ok (.aload_n 0, 1) := by decide +kernel
theorem dX3_areBoxesRight_100 : decode cX3_areBoxesRight 100 = .ok (.getfield 19, 3) := by decide +kernel
theorem dX3_areBoxesRight_103 : decode cX3_areBoxesRight 103 = .ok (.iload_n 1, 1) := by decide +kernel
theorem dX3_areBoxesRight_104 : decode cX3_areBoxesRight 104 = .ok (.invokevirtual 132, 3) := by decide +kernel
theorem dX3_areBoxesRight_107 : decode cX3_areBoxesRight 107 = .ok (.invokevirtual 167, 3) := by decide +kernel
theorem dX3_areBoxesRight_110 : decode cX3_areBoxesRight 110 = .ok (.ireturn, 1) := by decide +kernel
theorem dX3_areBoxesRight_111 : decode cX3_areBoxesRight 111 = .ok (.iconst 1, 1) := by decide +kernel
theorem dX3_areBoxesRight_112 : decode cX3_areBoxesRight 112 = .ok (.ireturn, 1) := by decide +kernel
set_option maxRecDepth 20000 in
theorem ggX3_areAllLike_X2_pOf : GoodIn wsX3_areAllLike wsX2_pOf := goodIn_r _ [8, 9, 10, 11, 12, 57, 58, 59, 60, 61, 62] (by decide +kernel) (by decide +kernel)
set_option maxRecDepth 20000 in
theorem gX3_areAllLike_X2_pOf : GoodIn wsX3_areAllLike (wsV RX3 132 RX2 yX2_pOf wsX2_pOf) := goodIn_app (goodIn_of _ (by decide +kernel)) ggX3_areAllLike_X2_pOf
set_option maxRecDepth 20000 in
theorem ggX3_areAllLike_X0_headOf : GoodIn wsX3_areAllLike wsX0_headOf := goodIn_r _ [17, 18, 10, 11, 12, 63, 64, 65, 66, 67, 68] (by decide +kernel) (by decide +kernel)
set_option maxRecDepth 20000 in
theorem gX3_areAllLike_X0_headOf : GoodIn wsX3_areAllLike (wsV RX3 98 RX0 yX0_headOf wsX0_headOf) := goodIn_app (goodIn_of _ (by decide +kernel)) ggX3_areAllLike_X0_headOf
set_option maxRecDepth 20000 in
theorem ggX3_areAllLike_X2_qOf : GoodIn wsX3_areAllLike wsX2_qOf := goodIn_r _ [22, 23, 10, 11, 12, 57, 58, 59, 60, 61, 62] (by decide +kernel) (by decide +kernel)
set_option maxRecDepth 20000 in
theorem gX3_areAllLike_X2_qOf : GoodIn wsX3_areAllLike (wsV RX3 149 RX2 yX2_qOf wsX2_qOf) := goodIn_app (goodIn_of _ (by decide +kernel)) ggX3_areAllLike_X2_qOf
set_option maxRecDepth 20000 in
theorem ggX3_areAllLike_X2_rOf : GoodIn wsX3_areAllLike wsX2_rOf := goodIn_r _ [27, 28, 10, 11, 12, 57, 58, 59, 60, 61, 62] (by decide +kernel) (by decide +kernel)
set_option maxRecDepth 20000 in
theorem gX3_areAllLike_X2_rOf : GoodIn wsX3_areAllLike (wsV RX3 152 RX2 yX2_rOf wsX2_rOf) := goodIn_app (goodIn_of _ (by decide +kernel)) ggX3_areAllLike_X2_rOf
set_option maxRecDepth 20000 in
theorem ggX3_areAllLike_X1_firstOf : GoodIn wsX3_areAllLike wsX1_firstOf := goodIn_r _ [33, 34, 35, 36, 37, 32, 38, 39, 69, 70, 71, 72, 73, 74, 75] (by decide +kernel) (by decide +kernel)
set_option maxRecDepth 20000 in
theorem gX3_areAllLike_X1_firstOf : GoodIn wsX3_areAllLike (wsV RX3 45 RX1 yX1_firstOf wsX1_firstOf) := goodIn_app (goodIn_of _ (by decide +kernel)) ggX3_areAllLike_X1_firstOf
set_option maxRecDepth 20000 in
theorem ggX3_areAllLike_X1_secondOf : GoodIn wsX3_areAllLike wsX1_secondOf := goodIn_r _ [43, 44, 35, 36, 37, 32, 38, 39, 69, 70, 71, 72, 73, 74, 75] (by decide +kernel) (by decide +kernel)
set_option maxRecDepth 20000 in
theorem gX3_areAllLike_X1_secondOf : GoodIn wsX3_areAllLike (wsV RX3 48 RX1 yX1_secondOf wsX1_secondOf) := goodIn_app (goodIn_of _ (by decide +kernel)) ggX3_areAllLike_X1_secondOf
set_option maxRecDepth 20000 in
theorem ggX3_areAllLike_X3_heldAtEnd : GoodIn wsX3_areAllLike wsX3_heldAtEnd := goodIn_r _ [48, 1, 49, 50, 51, 16, 52, 53, 10, 11, 12, 13, 14, 15, 17, 18, 54, 55, 56, 63, 64, 65, 66, 67, 68] (by decide +kernel) (by decide +kernel)
set_option maxRecDepth 20000 in
theorem gX3_areAllLike_X3_heldAtEnd : GoodIn wsX3_areAllLike (wsV RX3 170 RX3 yX3_heldAtEnd wsX3_heldAtEnd) := goodIn_app (goodIn_of _ (by decide +kernel)) ggX3_areAllLike_X3_heldAtEnd
theorem dX3_areAllLike_0 : decode cX3_areAllLike 0 = .ok (.aload_n 0, 1) := by decide +kernel
theorem dX3_areAllLike_1 : decode cX3_areAllLike 1 = .ok (.getfield 26, 3) := by decide +kernel
theorem dX3_areAllLike_4 : decode cX3_areAllLike 4 = .ok (.aload_n 0, 1) := by decide +kernel
theorem dX3_areAllLike_5 : decode cX3_areAllLike 5 = .ok (.getfield 19, 3) := by decide +kernel
theorem dX3_areAllLike_8 : decode cX3_areAllLike 8 = .ok (.iload_n 1, 1) := by decide +kernel
theorem dX3_areAllLike_9 : decode cX3_areAllLike 9 = .ok (.invokevirtual 132, 3) := by decide +kernel
theorem dX3_areAllLike_12 : decode cX3_areAllLike 12 = .ok (.invokevirtual 98, 3) := by decide +kernel
theorem dX3_areAllLike_15 : decode cX3_areAllLike 15 = .ok (.istore_n 3, 1) := by decide +kernel
theorem dX3_areAllLike_16 : decode cX3_areAllLike 16 = .ok (.aload_n 0, 1) := by decide +kernel
theorem dX3_areAllLike_17 : decode cX3_areAllLike 17 = .ok (.getfield 19, 3) := by decide +kernel
theorem dX3_areAllLike_20 : decode cX3_areAllLike 20 = .ok (.iload_n 1, 1) := by decide +kernel
theorem dX3_areAllLike_21 : decode cX3_areAllLike 21 = .ok (.invokevirtual 149, 3) := by decide +kernel
theorem dX3_areAllLike_24 : decode cX3_areAllLike 24 = .ok (.istore 4, 2) := by decide +kernel
theorem dX3_areAllLike_26 : decode cX3_areAllLike 26 = .ok (.aload_n 0, 1) := by decide +kernel
theorem dX3_areAllLike_27 : decode cX3_areAllLike 27 = .ok (.getfield 19, 3) := by decide +kernel
theorem dX3_areAllLike_30 : decode cX3_areAllLike 30 = .ok (.iload_n 1, 1) := by decide +kernel
theorem dX3_areAllLike_31 : decode cX3_areAllLike 31 = .ok (.invokevirtual 152, 3) := by decide +kernel
theorem dX3_areAllLike_34 : decode cX3_areAllLike 34 = .ok (.istore 5, 2) := by decide +kernel
theorem dX3_areAllLike_36 : decode cX3_areAllLike 36 = .ok (.iload_n 2, 1) := by decide +kernel
theorem dX3_areAllLike_37 : decode cX3_areAllLike 37 = .ok (.lookupswitch 114 #[(9, 27), (11, 88)], 27) := by decide +kernel
theorem dX3_areAllLike_64 : decode cX3_areAllLike 64 = .ok (.aload_n 0, 1) := by decide +kernel
theorem dX3_areAllLike_65 : decode cX3_areAllLike 65 = .ok (.getfield 26, 3) := by decide +kernel
theorem dX3_areAllLike_68 : decode cX3_areAllLike 68 = .ok (.iload 4, 2) := by decide +kernel
theorem dX3_areAllLike_70 : decode cX3_areAllLike 70 = .ok (.invokevirtual 98, 3) := by decide +kernel
theorem dX3_areAllLike_73 : decode cX3_areAllLike 73 = .ok (.aload_n 0, 1) := by decide +kernel
theorem dX3_areAllLike_74 : decode cX3_areAllLike 74 = .ok (.getfield 10, 3) := by decide +kernel
theorem dX3_areAllLike_77 : decode cX3_areAllLike 77 = .ok (.iload_n 3, 1) := by decide +kernel
theorem dX3_areAllLike_78 : decode cX3_areAllLike 78 = .ok (.invokevirtual 45, 3) := by decide +kernel
theorem dX3_areAllLike_81 : decode cX3_areAllLike 81 = .ok (.if_icmp .ne 42, 3) := by decide +kernel
theorem dX3_areAllLike_84 : decode cX3_areAllLike 84 = .ok (.aload_n 0, 1) := by decide +kernel
theorem dX3_areAllLike_85 : decode cX3_areAllLike 85 = .ok (.getfield 26, 3) := by decide +kernel
theorem dX3_areAllLike_88 : decode cX3_areAllLike 88 = .ok (.iload 5, 2) := by decide +kernel
theorem dX3_areAllLike_90 : decode cX3_areAllLike 90 = .ok (.invokevirtual 98, 3) := by decide +kernel
theorem dX3_areAllLike_93 : decode cX3_areAllLike 93 = .ok (.aload_n 0, 1) := by decide +kernel
theorem dX3_areAllLike_94 : decode cX3_areAllLike 94 = .ok (.getfield 10, 3) := by decide +kernel
theorem dX3_areAllLike_97 : decode cX3_areAllLike 97 = .ok (.iload_n 3, 1) := by decide +kernel
theorem dX3_areAllLike_98 : decode cX3_areAllLike 98 = .ok (.invokevirtual 48, 3) := by decide +kernel
theorem dX3_areAllLike_101 : decode cX3_areAllLike 101 = .ok (.if_icmp .ne 22, 3) := by decide +kernel
theorem dX3_areAllLike_104 : decode cX3_areAllLike 104 = .ok (.aload_n 0, 1) := by decide +kernel
theorem dX3_areAllLike_105 : decode cX3_areAllLike 105 = .ok (.iload 4, 2) := by decide +kernel
theorem dX3_areAllLike_107 : decode cX3_areAllLike 107 = .ok (.invokevirtual 170, 3) := by decide +kernel
theorem dX3_areAllLike_110 : decode cX3_areAllLike 110 = .ok (.aload_n 0, 1) := by decide +kernel
theorem dX3_areAllLike_111 : decode cX3_areAllLike 111 = .ok (.iload 5, 2) := by decide +kernel
theorem dX3_areAllLike_113 : decode cX3_areAllLike 113 = .ok (.invokevirtual 170, 3) := by decide +kernel
theorem dX3_areAllLike_116 : decode cX3_areAllLike 116 = .ok (.if_icmp .ne 7, 3) := by decide +kernel
theorem dX3_areAllLike_119 : decode cX3_areAllLike 119 = .ok (.iconst 1, 1) := by decide +kernel
theorem dX3_areAllLike_120 : decode cX3_areAllLike 120 = .ok (.goto 4, 3) := by decide +kernel
theorem dX3_areAllLike_123 : decode cX3_areAllLike 123 = .ok (.iconst 0, 1) := by decide +kernel
theorem dX3_areAllLike_124 : decode cX3_areAllLike 124 = .ok (.ireturn, 1) := by decide +kernel
theorem dX3_areAllLike_125 : decode cX3_areAllLike 125 = .ok (.aload_n 0, 1) := by decide +kernel
theorem dX3_areAllLike_126 : decode cX3_areAllLike 126 = .ok (.getfield 26, 3) := by decide +kernel
theorem dX3_areAllLike_129 : decode cX3_areAllLike 129 = .ok (.iload 4, 2) := by decide +kernel
theorem dX3_areAllLike_131 : decode cX3_areAllLike 131 = .ok (.invokevirtual 98, 3) := by decide +kernel
theorem dX3_areAllLike_134 : decode cX3_areAllLike 134 = .ok (.aload_n 0, 1) := by decide +kernel
theorem dX3_areAllLike_135 : decode cX3_areAllLike 135 = .ok (.getfield 10, 3) := by decide +kernel
theorem dX3_areAllLike_138 : decode cX3_areAllLike 138 = .ok (.iload_n 3, 1) := by decide +kernel
theorem dX3_areAllLike_139 : decode cX3_areAllLike 139 = .ok (.invokevirtual 45, 3) := by decide +kernel
theorem dX3_areAllLike_142 : decode cX3_areAllLike 142 = .ok (.if_icmp .ne 7, 3) := by decide +kernel
theorem dX3_areAllLike_145 : decode cX3_areAllLike 145 = .ok (.iconst 1, 1) := by decide +kernel
theorem dX3_areAllLike_146 : decode cX3_areAllLike 146 = .ok (.goto 4, 3) := by decide +kernel
theorem dX3_areAllLike_149 : decode cX3_areAllLike 149 = .ok (.iconst 0, 1) := by decide +kernel
theorem dX3_areAllLike_150 : decode cX3_areAllLike 150 = .ok (.ireturn, 1) := by decide +kernel
theorem dX3_areAllLike_151 : decode cX3_areAllLike 151 = .ok (.iconst 1, 1) := by decide +kernel
theorem dX3_areAllLike_152 : decode cX3_areAllLike 152 = .ok (.ireturn, 1) := by decide +kernel
set_option maxRecDepth 20000 in
theorem ggX3_heldAtEnd_X0_endOf : GoodIn wsX3_heldAtEnd wsX0_endOf := goodIn_r _ [6, 7, 8, 9, 10, 19, 20, 21, 22, 23, 24] (by decide +kernel) (by decide +kernel)
set_option maxRecDepth 20000 in
theorem gX3_heldAtEnd_X0_endOf : GoodIn wsX3_heldAtEnd (wsV RX3 173 RX0 yX0_endOf wsX0_endOf) := goodIn_app (goodIn_of _ (by decide +kernel)) ggX3_heldAtEnd_X0_endOf
set_option maxRecDepth 20000 in
theorem ggX3_heldAtEnd_X0_headOf : GoodIn wsX3_heldAtEnd wsX0_headOf := goodIn_r _ [14, 15, 8, 9, 10, 19, 20, 21, 22, 23, 24] (by decide +kernel) (by decide +kernel)
set_option maxRecDepth 20000 in
theorem gX3_heldAtEnd_X0_headOf : GoodIn wsX3_heldAtEnd (wsV RX3 98 RX0 yX0_headOf wsX0_headOf) := goodIn_app (goodIn_of _ (by decide +kernel)) ggX3_heldAtEnd_X0_headOf
theorem dX3_heldAtEnd_0 : decode cX3_heldAtEnd 0 = .ok (.aload_n 0, 1) := by decide +kernel
theorem dX3_heldAtEnd_1 : decode cX3_heldAtEnd 1 = .ok (.getfield 26, 3) := by decide +kernel
theorem dX3_heldAtEnd_4 : decode cX3_heldAtEnd 4 = .ok (.aload_n 0, 1) := by decide +kernel
theorem dX3_heldAtEnd_5 : decode cX3_heldAtEnd 5 = .ok (.getfield 26, 3) := by decide +kernel
theorem dX3_heldAtEnd_8 : decode cX3_heldAtEnd 8 = .ok (.iload_n 1, 1) := by decide +kernel
theorem dX3_heldAtEnd_9 : decode cX3_heldAtEnd 9 = .ok (.invokevirtual 173, 3) := by decide +kernel
theorem dX3_heldAtEnd_12 : decode cX3_heldAtEnd 12 = .ok (.invokevirtual 98, 3) := by decide +kernel
theorem dX3_heldAtEnd_15 : decode cX3_heldAtEnd 15 = .ok (.ireturn, 1) := by decide +kernel
set_option maxRecDepth 20000 in
theorem ggX3_conclude_X2_pOf : GoodIn wsX3_conclude wsX2_pOf := goodIn_r _ [8, 9, 10, 11, 12, 93, 94, 95, 96, 97, 98] (by decide +kernel) (by decide +kernel)
set_option maxRecDepth 20000 in
theorem gX3_conclude_X2_pOf : GoodIn wsX3_conclude (wsV RX3 132 RX2 yX2_pOf wsX2_pOf) := goodIn_app (goodIn_of _ (by decide +kernel)) ggX3_conclude_X2_pOf
set_option maxRecDepth 20000 in
theorem ggX3_conclude_X0_headOf : GoodIn wsX3_conclude wsX0_headOf := goodIn_r _ [17, 18, 10, 11, 12, 99, 100, 101, 102, 103, 104] (by decide +kernel) (by decide +kernel)
set_option maxRecDepth 20000 in
theorem gX3_conclude_X0_headOf : GoodIn wsX3_conclude (wsV RX3 98 RX0 yX0_headOf wsX0_headOf) := goodIn_app (goodIn_of _ (by decide +kernel)) ggX3_conclude_X0_headOf
set_option maxRecDepth 20000 in
theorem ggX3_conclude_X2_formulaOf : GoodIn wsX3_conclude wsX2_formulaOf := goodIn_r _ [22, 23, 10, 11, 12, 93, 94, 95, 96, 97, 98] (by decide +kernel) (by decide +kernel)
set_option maxRecDepth 20000 in
theorem gX3_conclude_X2_formulaOf : GoodIn wsX3_conclude (wsV RX3 158 RX2 yX2_formulaOf wsX2_formulaOf) := goodIn_app (goodIn_of _ (by decide +kernel)) ggX3_conclude_X2_formulaOf
set_option maxRecDepth 20000 in
theorem ggX3_conclude_X2_ruleOf : GoodIn wsX3_conclude wsX2_ruleOf := goodIn_r _ [27, 28, 10, 11, 12, 93, 94, 95, 96, 97, 98] (by decide +kernel) (by decide +kernel)
set_option maxRecDepth 20000 in
theorem gX3_conclude_X2_ruleOf : GoodIn wsX3_conclude (wsV RX3 119 RX2 yX2_ruleOf wsX2_ruleOf) := goodIn_app (goodIn_of _ (by decide +kernel)) ggX3_conclude_X2_ruleOf
set_option maxRecDepth 20000 in
theorem ggX3_conclude_X2_qOf : GoodIn wsX3_conclude wsX2_qOf := goodIn_r _ [32, 33, 10, 11, 12, 93, 94, 95, 96, 97, 98] (by decide +kernel) (by decide +kernel)
set_option maxRecDepth 20000 in
theorem gX3_conclude_X2_qOf : GoodIn wsX3_conclude (wsV RX3 149 RX2 yX2_qOf wsX2_qOf) := goodIn_app (goodIn_of _ (by decide +kernel)) ggX3_conclude_X2_qOf
set_option maxRecDepth 20000 in
theorem ggX3_conclude_X1_make : GoodIn wsX3_conclude wsX1_make := goodIn_r _ [38, 39, 40, 41, 42, 43, 44, 45, 46, 47, 48, 49, 50, 51, 37, 52, 53, 54, 55, 56, 57, 58, 59, 60, 61, 62, 63, 64, 65, 66, 67, 11, 68, 69, 70, 71, 72, 105, 106, 107, 108, 109, 110, 111] (by decide +kernel) (by decide +kernel)
set_option maxRecDepth 20000 in
theorem gX3_conclude_X1_make : GoodIn wsX3_conclude (wsV RX3 30 RX1 yX1_make wsX1_make) := goodIn_app (goodIn_of _ (by decide +kernel)) ggX3_conclude_X1_make
set_option maxRecDepth 20000 in
theorem ggX3_conclude_X1_firstOf : GoodIn wsX3_conclude wsX1_firstOf := goodIn_r _ [76, 45, 57, 58, 59, 37, 60, 43, 105, 106, 107, 108, 109, 110, 111] (by decide +kernel) (by decide +kernel)
set_option maxRecDepth 20000 in
theorem gX3_conclude_X1_firstOf : GoodIn wsX3_conclude (wsV RX3 45 RX1 yX1_firstOf wsX1_firstOf) := goodIn_app (goodIn_of _ (by decide +kernel)) ggX3_conclude_X1_firstOf
set_option maxRecDepth 20000 in
theorem ggX3_conclude_X1_secondOf : GoodIn wsX3_conclude wsX1_secondOf := goodIn_r _ [80, 46, 57, 58, 59, 37, 60, 43, 105, 106, 107, 108, 109, 110, 111] (by decide +kernel) (by decide +kernel)
set_option maxRecDepth 20000 in
theorem gX3_conclude_X1_secondOf : GoodIn wsX3_conclude (wsV RX3 48 RX1 yX1_secondOf wsX1_secondOf) := goodIn_app (goodIn_of _ (by decide +kernel)) ggX3_conclude_X1_secondOf
set_option maxRecDepth 20000 in
theorem ggX3_conclude_X3_heldAtEnd : GoodIn wsX3_conclude wsX3_heldAtEnd := goodIn_r _ [84, 2, 85, 86, 87, 16, 88, 89, 10, 11, 12, 13, 14, 15, 17, 18, 90, 91, 92, 99, 100, 101, 102, 103, 104] (by decide +kernel) (by decide +kernel)
set_option maxRecDepth 20000 in
theorem gX3_conclude_X3_heldAtEnd : GoodIn wsX3_conclude (wsV RX3 170 RX3 yX3_heldAtEnd wsX3_heldAtEnd) := goodIn_app (goodIn_of _ (by decide +kernel)) ggX3_conclude_X3_heldAtEnd
theorem dX3_conclude_0 : decode cX3_conclude 0 = .ok (.aload_n 0, 1) := by decide +kernel
theorem dX3_conclude_1 : decode cX3_conclude 1 = .ok (.getfield 19, 3) := by decide +kernel
theorem dX3_conclude_4 : decode cX3_conclude 4 = .ok (.iload_n 1, 1) := by decide +kernel
theorem dX3_conclude_5 : decode cX3_conclude 5 = .ok (.invokevirtual 132, 3) := by decide +kernel
theorem dX3_conclude_8 : decode cX3_conclude 8 = .ok (.istore_n 2, 1) := by decide +kernel
theorem dX3_conclude_9 : decode cX3_conclude 9 = .ok (.aload_n 0, 1) := by decide +kernel
theorem dX3_conclude_10 : decode cX3_conclude 10 = .ok (.getfield 26, 3) := by decide +kernel
theorem dX3_conclude_13 : decode cX3_conclude 13 = .ok (.iload_n 2, 1) := by decide +kernel
theorem dX3_conclude_14 : decode cX3_conclude 14 = .ok (.invokevirtual 98, 3) := by decide +kernel
theorem dX3_conclude_17 : decode cX3_conclude 17 = .ok (.istore_n 3, 1) := by decide +kernel
theorem dX3_conclude_18 : decode cX3_conclude 18 = .ok (.aload_n 0, 1) := by decide +kernel
theorem dX3_conclude_19 : decode cX3_conclude 19 = .ok (.getfield 19, 3) := by decide +kernel
theorem dX3_conclude_22 : decode cX3_conclude 22 = .ok (.iload_n 1, 1) := by decide +kernel
theorem dX3_conclude_23 : decode cX3_conclude 23 = .ok (.invokevirtual 158, 3) := by decide +kernel
theorem dX3_conclude_26 : decode cX3_conclude 26 = .ok (.istore 4, 2) := by decide +kernel
theorem dX3_conclude_28 : decode cX3_conclude 28 = .ok (.aload_n 0, 1) := by decide +kernel
theorem dX3_conclude_29 : decode cX3_conclude 29 = .ok (.getfield 19, 3) := by decide +kernel
theorem dX3_conclude_32 : decode cX3_conclude 32 = .ok (.iload_n 1, 1) := by decide +kernel
theorem dX3_conclude_33 : decode cX3_conclude 33 = .ok (.invokevirtual 119, 3) := by decide +kernel
theorem dX3_conclude_36 : decode cX3_conclude 36 = .ok (.tableswitch 188 0 13 #[72, 72, 188, 75, 77, 102, 111, 120, 132, 144, 157, 111, 72, 172], 72) := by decide +kernel
theorem dX3_conclude_108 : decode cX3_conclude 108 = .ok (.iload 4, 2) := by decide +kernel
theorem dX3_conclude_110 : decode cX3_conclude 110 = .ok (.ireturn, 1) := by decide +kernel
theorem dX3_conclude_111 : decode cX3_conclude 111 = .ok (.iload_n 3, 1) := by decide +kernel
theorem dX3_conclude_112 : decode cX3_conclude 112 = .ok (.ireturn, 1) := by decide +kernel
theorem dX3_conclude_113 : decode cX3_conclude 113 = .ok (.aload_n 0, 1) := by decide +kernel
theorem dX3_conclude_114 : decode cX3_conclude 114 = .ok (.getfield 10, 3) := by decide +kernel
theorem dX3_conclude_117 : decode cX3_conclude 117 = .ok (.iconst 2, 1) := by decide +kernel
theorem dX3_conclude_118 : decode cX3_conclude 118 = .ok (.iload_n 3, 1) := by decide +kernel
theorem dX3_conclude_119 : decode cX3_conclude 119 = .ok (.aload_n 0, 1) := by decide +kernel
theorem dX3_conclude_120 : decode cX3_conclude 120 = .ok (.getfield 26, 3) := by decide +kernel
theorem dX3_conclude_123 : decode cX3_conclude 123 = .ok (.aload_n 0, 1) := by decide +kernel
theorem dX3_conclude_124 : decode cX3_conclude 124 = .ok (.getfield 19, 3) := by decide +kernel
theorem dX3_conclude_127 : decode cX3_conclude 127 = .ok (.iload_n 1, 1) := by decide +kernel
theorem dX3_conclude_128 : decode cX3_conclude 128 = .ok (.invokevirtual 149, 3) := by decide +kernel
theorem dX3_conclude_131 : decode cX3_conclude 131 = .ok (.invokevirtual 98, 3) := by decide +kernel
theorem dX3_conclude_134 : decode cX3_conclude 134 = .ok (.invokevirtual 30, 3) := by decide +kernel
theorem dX3_conclude_137 : decode cX3_conclude 137 = .ok (.ireturn, 1) := by decide +kernel
theorem dX3_conclude_138 : decode cX3_conclude 138 = .ok (.aload_n 0, 1) := by decide +kernel
theorem dX3_conclude_139 : decode cX3_conclude 139 = .ok (.getfield 10, 3) := by decide +kernel
theorem dX3_conclude_142 : decode cX3_conclude 142 = .ok (.iload_n 3, 1) := by decide +kernel
theorem dX3_conclude_143 : decode cX3_conclude 143 = .ok (.invokevirtual 45, 3) := by decide +kernel
theorem dX3_conclude_146 : decode cX3_conclude 146 = .ok (.ireturn, 1) := by decide +kernel
theorem dX3_conclude_147 : decode cX3_conclude 147 = .ok (.aload_n 0, 1) := by decide +kernel
theorem dX3_conclude_148 : decode cX3_conclude 148 = .ok (.getfield 10, 3) := by decide +kernel
theorem dX3_conclude_151 : decode cX3_conclude 151 = .ok (.iload_n 3, 1) := by decide +kernel
theorem dX3_conclude_152 : decode cX3_conclude 152 = .ok (.invokevirtual 48, 3) := by decide +kernel
theorem dX3_conclude_155 : decode cX3_conclude 155 = .ok (.ireturn, 1) := by decide +kernel
theorem dX3_conclude_156 : decode cX3_conclude 156 = .ok (.aload_n 0, 1) := by decide +kernel
theorem dX3_conclude_157 : decode cX3_conclude 157 = .ok (.getfield 10, 3) := by decide +kernel
theorem dX3_conclude_160 : decode cX3_conclude 160 = .ok (.iconst 3, 1) := by decide +kernel
theorem dX3_conclude_161 : decode cX3_conclude 161 = .ok (.iload_n 3, 1) := by decide +kernel
theorem dX3_conclude_162 : decode cX3_conclude 162 = .ok (.iload 4, 2) := by decide +kernel
theorem dX3_conclude_164 : decode cX3_conclude 164 = .ok (.invokevirtual 30, 3) := by decide +kernel
theorem dX3_conclude_167 : decode cX3_conclude 167 = .ok (.ireturn, 1) := by decide +kernel
theorem dX3_conclude_168 : decode cX3_conclude 168 = .ok (.aload_n 0, 1) := by decide +kernel
theorem dX3_conclude_169 : decode cX3_conclude 169 = .ok (.getfield 10, 3) := by decide +kernel
theorem dX3_conclude_172 : decode cX3_conclude 172 = .ok (.iconst 3, 1) := by decide +kernel
theorem dX3_conclude_173 : decode cX3_conclude 173 = .ok (.iload 4, 2) := by decide +kernel
theorem dX3_conclude_175 : decode cX3_conclude 175 = .ok (.iload_n 3, 1) := by decide +kernel
theorem dX3_conclude_176 : decode cX3_conclude 176 = .ok (.invokevirtual 30, 3) := by decide +kernel
theorem dX3_conclude_179 : decode cX3_conclude 179 = .ok (.ireturn, 1) := by decide +kernel
theorem dX3_conclude_180 : decode cX3_conclude 180 = .ok (.aload_n 0, 1) := by decide +kernel
theorem dX3_conclude_181 : decode cX3_conclude 181 = .ok (.aload_n 0, 1) := by decide +kernel
theorem dX3_conclude_182 : decode cX3_conclude 182 = .ok (.getfield 19, 3) := by decide +kernel
theorem dX3_conclude_185 : decode cX3_conclude 185 = .ok (.iload_n 1, 1) := by decide +kernel
theorem dX3_conclude_186 : decode cX3_conclude 186 = .ok (.invokevirtual 149, 3) := by decide +kernel
theorem dX3_conclude_189 : decode cX3_conclude 189 = .ok (.invokevirtual 170, 3) := by decide +kernel
theorem dX3_conclude_192 : decode cX3_conclude 192 = .ok (.ireturn, 1) := by decide +kernel
theorem dX3_conclude_193 : decode cX3_conclude 193 = .ok (.aload_n 0, 1) := by decide +kernel
theorem dX3_conclude_194 : decode cX3_conclude 194 = .ok (.getfield 10, 3) := by decide +kernel
theorem dX3_conclude_197 : decode cX3_conclude 197 = .ok (.iconst 4, 1) := by decide +kernel
theorem dX3_conclude_198 : decode cX3_conclude 198 = .ok (.iload_n 3, 1) := by decide +kernel
theorem dX3_conclude_199 : decode cX3_conclude 199 = .ok (.aload_n 0, 1) := by decide +kernel
theorem dX3_conclude_200 : decode cX3_conclude 200 = .ok (.iload_n 2, 1) := by decide +kernel
theorem dX3_conclude_201 : decode cX3_conclude 201 = .ok (.invokevirtual 170, 3) := by decide +kernel
theorem dX3_conclude_204 : decode cX3_conclude 204 = .ok (.invokevirtual 30, 3) := by decide +kernel
theorem dX3_conclude_207 : decode cX3_conclude 207 = .ok (.ireturn, 1) := by decide +kernel
theorem dX3_conclude_208 : decode cX3_conclude 208 = .ok (.aload_n 0, 1) := by decide +kernel
theorem dX3_conclude_209 : decode cX3_conclude 209 = .ok (.getfield 10, 3) := by decide +kernel
theorem dX3_conclude_212 : decode cX3_conclude 212 = .ok (.aload_n 0, 1) := by decide +kernel
theorem dX3_conclude_213 : decode cX3_conclude 213 = .ok (.getfield 10, 3) := by decide +kernel
theorem dX3_conclude_216 : decode cX3_conclude 216 = .ok (.iload_n 3, 1) := by decide +kernel
theorem dX3_conclude_217 : decode cX3_conclude 217 = .ok (.invokevirtual 45, 3) := by decide +kernel
theorem dX3_conclude_220 : decode cX3_conclude 220 = .ok (.invokevirtual 45, 3) := by decide +kernel
theorem dX3_conclude_223 : decode cX3_conclude 223 = .ok (.ireturn, 1) := by decide +kernel
theorem dX3_conclude_224 : decode cX3_conclude 224 = .ok (.iconst (-1), 1) := by decide +kernel
theorem dX3_conclude_225 : decode cX3_conclude 225 = .ok (.ireturn, 1) := by decide +kernel
set_option maxRecDepth 20000 in
theorem ggX3_groundsTable_X0_isGround : GoodIn wsX3_groundsTable wsX0_isGround := goodIn_r _ [8, 9, 10, 11, 7, 12, 13, 14, 15, 16, 17, 18, 19, 20, 21, 22, 23, 24, 25, 45, 46, 47, 48, 49, 50] (by decide +kernel) (by decide +kernel)
set_option maxRecDepth 20000 in
theorem gX3_groundsTable_X0_isGround : GoodIn wsX3_groundsTable (wsV RX3 176 RX0 yX0_isGround wsX0_isGround) := goodIn_app (goodIn_of _ (by decide +kernel)) ggX3_groundsTable_X0_isGround
set_option maxRecDepth 20000 in
theorem ggX3_groundsTable_X0_headOf : GoodIn wsX3_groundsTable wsX0_headOf := goodIn_r _ [29, 30, 14, 15, 16, 45, 46, 47, 48, 49, 50] (by decide +kernel) (by decide +kernel)
set_option maxRecDepth 20000 in
theorem gX3_groundsTable_X0_headOf : GoodIn wsX3_groundsTable (wsV RX3 98 RX0 yX0_headOf wsX0_headOf) := goodIn_app (goodIn_of _ (by decide +kernel)) ggX3_groundsTable_X0_headOf
set_option maxRecDepth 20000 in
theorem ggX3_groundsTable_X1_tableOf : GoodIn wsX3_groundsTable wsX1_tableOf := goodIn_r _ [35, 36, 37, 38, 39, 34, 40, 41, 51, 52, 53, 54, 55, 56, 57] (by decide +kernel) (by decide +kernel)
set_option maxRecDepth 20000 in
theorem gX3_groundsTable_X1_tableOf : GoodIn wsX3_groundsTable (wsV RX3 54 RX1 yX1_tableOf wsX1_tableOf) := goodIn_app (goodIn_of _ (by decide +kernel)) ggX3_groundsTable_X1_tableOf
theorem dX3_groundsTable_0 : decode cX3_groundsTable 0 = .ok (.ldc2_w 111, 3) := by decide +kernel
theorem dX3_groundsTable_3 : decode cX3_groundsTable 3 = .ok (.lstore_n 2, 1) := by decide +kernel
theorem dX3_groundsTable_4 : decode cX3_groundsTable 4 = .ok (.iconst 0, 1) := by decide +kernel
theorem dX3_groundsTable_5 : decode cX3_groundsTable 5 = .ok (.istore 4, 2) := by decide +kernel
theorem dX3_groundsTable_7 : decode cX3_groundsTable 7 = .ok (.iload 4, 2) := by decide +kernel
theorem dX3_groundsTable_9 : decode cX3_groundsTable 9 = .ok (.iload_n 1, 1) := by decide +kernel
theorem dX3_groundsTable_10 : decode cX3_groundsTable 10 = .ok (.if_icmp .gt 48, 3) := by decide +kernel
theorem dX3_groundsTable_13 : decode cX3_groundsTable 13 = .ok (.iload 4, 2) := by decide +kernel
theorem dX3_groundsTable_15 : decode cX3_groundsTable 15 = .ok (.bipush 60, 2) := by decide +kernel
theorem dX3_groundsTable_17 : decode cX3_groundsTable 17 = .ok (.if_icmp .ge 41, 3) := by decide +kernel
theorem dX3_groundsTable_20 : decode cX3_groundsTable 20 = .ok (.aload_n 0, 1) := by decide +kernel
theorem dX3_groundsTable_21 : decode cX3_groundsTable 21 = .ok (.getfield 26, 3) := by decide +kernel
theorem dX3_groundsTable_24 : decode cX3_groundsTable 24 = .ok (.iload 4, 2) := by decide +kernel
theorem dX3_groundsTable_26 : decode cX3_groundsTable 26 = .ok (.iload_n 1, 1) := by decide +kernel
theorem dX3_groundsTable_27 : decode cX3_groundsTable 27 = .ok (.invokevirtual 176, 3) := by decide +kernel
theorem dX3_groundsTable_30 : decode cX3_groundsTable 30 = .ok (.ifCond .eq 22, 3) := by decide +kernel
theorem dX3_groundsTable_33 : decode cX3_groundsTable 33 = .ok (.lload_n 2, 1) := by decide +kernel
theorem dX3_groundsTable_34 : decode cX3_groundsTable 34 = .ok (.aload_n 0, 1) := by decide +kernel
theorem dX3_groundsTable_35 : decode cX3_groundsTable 35 = .ok (.getfield 10, 3) := by decide +kernel
theorem dX3_groundsTable_38 : decode cX3_groundsTable 38 = .ok (.aload_n 0, 1) := by decide +kernel
theorem dX3_groundsTable_39 : decode cX3_groundsTable 39 = .ok (.getfield 26, 3) := by decide +kernel
theorem dX3_groundsTable_42 : decode cX3_groundsTable 42 = .ok (.iload 4, 2) := by decide +kernel
theorem dX3_groundsTable_44 : decode cX3_groundsTable 44 = .ok (.invokevirtual 98, 3) := by decide +kernel
theorem dX3_groundsTable_47 : decode cX3_groundsTable 47 = .ok (.invokevirtual 54, 3) := by decide +kernel
theorem dX3_groundsTable_50 : decode cX3_groundsTable 50 = .ok (.land, 1) := by decide +kernel
theorem dX3_groundsTable_51 : decode cX3_groundsTable 51 = .ok (.lstore_n 2, 1) := by decide +kernel
theorem dX3_groundsTable_52 : decode cX3_groundsTable 52 = .ok (.iinc 4 1, 3) := by decide +kernel
theorem dX3_groundsTable_55 : decode cX3_groundsTable 55 = .ok (.goto (-48), 3) := by decide +kernel
theorem dX3_groundsTable_58 : decode cX3_groundsTable 58 = .ok (.lload_n 2, 1) := by decide +kernel
theorem dX3_groundsTable_59 : decode cX3_groundsTable 59 = .ok (.lreturn, 1) := by decide +kernel
theorem dX3_isLine_0 : decode cX3_isLine 0 = .ok (.iload_n 0, 1) := by decide +kernel
theorem dX3_isLine_1 : decode cX3_isLine 1 = .ok (.ifCond .lt 13, 3) := by decide +kernel
theorem dX3_isLine_4 : decode cX3_isLine 4 = .ok (.iload_n 0, 1) := by decide +kernel
theorem dX3_isLine_5 : decode cX3_isLine 5 = .ok (.bipush 60, 2) := by decide +kernel
theorem dX3_isLine_7 : decode cX3_isLine 7 = .ok (.if_icmp .ge 7, 3) := by decide +kernel
theorem dX3_isLine_10 : decode cX3_isLine 10 = .ok (.iconst 1, 1) := by decide +kernel
theorem dX3_isLine_11 : decode cX3_isLine 11 = .ok (.goto 4, 3) := by decide +kernel
theorem dX3_isLine_14 : decode cX3_isLine 14 = .ok (.iconst 0, 1) := by decide +kernel
theorem dX3_isLine_15 : decode cX3_isLine 15 = .ok (.ireturn, 1) := by decide +kernel
theorem dX3_isLetter_0 : decode cX3_isLetter 0 = .ok (.iload_n 0, 1) := by decide +kernel
theorem dX3_isLetter_1 : decode cX3_isLetter 1 = .ok (.ifCond .lt 13, 3) := by decide +kernel
theorem dX3_isLetter_4 : decode cX3_isLetter 4 = .ok (.iload_n 0, 1) := by decide +kernel
theorem dX3_isLetter_5 : decode cX3_isLetter 5 = .ok (.bipush 6, 2) := by decide +kernel
theorem dX3_isLetter_7 : decode cX3_isLetter 7 = .ok (.if_icmp .ge 7, 3) := by decide +kernel
theorem dX3_isLetter_10 : decode cX3_isLetter 10 = .ok (.iconst 1, 1) := by decide +kernel
theorem dX3_isLetter_11 : decode cX3_isLetter 11 = .ok (.goto 4, 3) := by decide +kernel
theorem dX3_isLetter_14 : decode cX3_isLetter 14 = .ok (.iconst 0, 1) := by decide +kernel
theorem dX3_isLetter_15 : decode cX3_isLetter 15 = .ok (.ireturn, 1) := by decide +kernel
