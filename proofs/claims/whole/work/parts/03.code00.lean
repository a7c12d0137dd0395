theorem dX0_init_0 : decode cX0_init 0 = .ok (.aload_n 0, 1) := by decide +kernel
theorem dX0_init_1 : decode cX0_init 1 = .ok (.invokespecial 3, 3) := by decide +kernel
theorem dX0_init_4 : decode cX0_init 4 = .ok (.aload_n 0, 1) := by decide +kernel
theorem dX0_init_5 : decode cX0_init 5 = .ok (.iconst 0, 1) := by decide +kernel
theorem dX0_init_6 : decode cX0_init 6 = .ok (.putfield 9, 3) := by decide +kernel
theorem dX0_init_9 : decode cX0_init 9 = .ok (.aload_n 0, 1) := by decide +kernel
theorem dX0_init_10 : decode cX0_init 10 = .ok (.iconst (-1), 1) := by decide +kernel
theorem dX0_init_11 : decode cX0_init 11 = .ok (.putfield 15, 3) := by decide +kernel
theorem dX0_init_14 : decode cX0_init 14 = .ok (.aload_n 0, 1) := by decide +kernel
theorem dX0_init_15 : decode cX0_init 15 = .ok (.iconst (-1), 1) := by decide +kernel
theorem dX0_init_16 : decode cX0_init 16 = .ok (.putfield 18, 3) := by decide +kernel
theorem dX0_init_19 : decode cX0_init 19 = .ok (.aload_n 0, 1) := by decide +kernel
theorem dX0_init_20 : decode cX0_init 20 = .ok (.iload_n 1, 1) := by decide +kernel
theorem dX0_init_21 : decode cX0_init 21 = .ok (.putfield 21, 3) := by decide +kernel
theorem dX0_init_24 : decode cX0_init 24 = .ok (.aload_n 0, 1) := by decide +kernel
theorem dX0_init_25 : decode cX0_init 25 = .ok (.iload_n 2, 1) := by decide +kernel
theorem dX0_init_26 : decode cX0_init 26 = .ok (.putfield 24, 3) := by decide +kernel
theorem dX0_init_29 : decode cX0_init 29 = .ok (.aload_n 0, 1) := by decide +kernel
theorem dX0_init_30 : decode cX0_init 30 = .ok (.iload_n 3, 1) := by decide +kernel
theorem dX0_init_31 : decode cX0_init 31 = .ok (.putfield 27, 3) := by decide +kernel
theorem dX0_init_34 : decode cX0_init 34 = .ok (.aload_n 0, 1) := by decide +kernel
theorem dX0_init_35 : decode cX0_init 35 = .ok (.iload 4, 2) := by decide +kernel
theorem dX0_init_37 : decode cX0_init 37 = .ok (.putfield 30, 3) := by decide +kernel
theorem dX0_init_40 : decode cX0_init 40 = .ok (.aload_n 0, 1) := by decide +kernel
theorem dX0_init_41 : decode cX0_init 41 = .ok (.iload 5, 2) := by decide +kernel
theorem dX0_init_43 : decode cX0_init 43 = .ok (.putfield 33, 3) := by decide +kernel
theorem dX0_init_46 : decode cX0_init 46 = .ok (.aload_n 0, 1) := by decide +kernel
theorem dX0_init_47 : decode cX0_init 47 = .ok (.iload 6, 2) := by decide +kernel
theorem dX0_init_49 : decode cX0_init 49 = .ok (.putfield 36, 3) := by decide +kernel
theorem dX0_init_52 : decode cX0_init 52 = .ok (.return_, 1) := by decide +kernel
theorem dX0_isForSame_0 : decode cX0_isForSame 0 = .ok (.aload_n 0, 1) := by decide +kernel
theorem dX0_isForSame_1 : decode cX0_isForSame 1 = .ok (.getfield 33, 3) := by decide +kernel
theorem dX0_isForSame_4 : decode cX0_isForSame 4 = .ok (.aload_n 1, 1) := by decide +kernel
theorem dX0_isForSame_5 : decode cX0_isForSame 5 = .ok (.getfield 33, 3) := by decide +kernel
theorem dX0_isForSame_8 : decode cX0_isForSame 8 = .ok (.if_icmp .ne 18, 3) := by decide +kernel
theorem dX0_isForSame_11 : decode cX0_isForSame 11 = .ok (.aload_n 0, 1) := by decide +kernel
theorem dX0_isForSame_12 : decode cX0_isForSame 12 = .ok (.getfield 36, 3) := by decide +kernel
theorem dX0_isForSame_15 : decode cX0_isForSame 15 = .ok (.aload_n 1, 1) := by decide +kernel
theorem dX0_isForSame_16 : decode cX0_isForSame 16 = .ok (.getfield 36, 3) := by decide +kernel
theorem dX0_isForSame_19 : decode cX0_isForSame 19 = .ok (.if_icmp .ne 7, 3) := by decide +kernel
theorem dX0_isForSame_22 : decode cX0_isForSame 22 = .ok (.iconst 1, 1) := by decide +kernel
theorem dX0_isForSame_23 : decode cX0_isForSame 23 = .ok (.goto 4, 3) := by decide +kernel
theorem dX0_isForSame_26 : decode cX0_isForSame 26 = .ok (.iconst 0, 1) := by decide +kernel
theorem dX0_isForSame_27 : decode cX0_isForSame 27 = .ok (.ireturn, 1) := by decide +kernel
theorem dX0_isFellowOf_0 : decode cX0_isFellowOf 0 = .ok (.aload_n 0, 1) := by decide +kernel
theorem dX0_isFellowOf_1 : decode cX0_isFellowOf 1 = .ok (.getfield 33, 3) := by decide +kernel
theorem dX0_isFellowOf_4 : decode cX0_isFellowOf 4 = .ok (.aload_n 1, 1) := by decide +kernel
theorem dX0_isFellowOf_5 : decode cX0_isFellowOf 5 = .ok (.getfield 33, 3) := by decide +kernel
theorem dX0_isFellowOf_8 : decode cX0_isFellowOf 8 = .ok (.if_icmp .ne 18, 3) := by decide +kernel
theorem dX0_isFellowOf_11 : decode cX0_isFellowOf 11 = .ok (.aload_n 0, 1) := by decide +kernel
theorem dX0_isFellowOf_12 : decode cX0_isFellowOf 12 = .ok (.getfield 36, 3) := by decide +kernel
theorem dX0_isFellowOf_15 : decode cX0_isFellowOf 15 = .ok (.aload_n 1, 1) := by decide +kernel
theorem dX0_isFellowOf_16 : decode cX0_isFellowOf 16 = .ok (.getfield 36, 3) := by decide +kernel
theorem dX0_isFellowOf_19 : decode cX0_isFellowOf 19 = .ok (.if_icmp .eq 7, 3) := by decide +kernel
theorem dX0_isFellowOf_22 : decode cX0_isFellowOf 22 = .ok (.iconst 1, 1) := by decide +kernel
theorem dX0_isFellowOf_23 : decode cX0_isFellowOf 23 = .ok (.goto 4, 3) := by decide +kernel
theorem dX0_isFellowOf_26 : decode cX0_isFellowOf 26 = .ok (.iconst 0, 1) := by decide +kernel
theorem dX0_isFellowOf_27 : decode cX0_isFellowOf 27 = .ok (.ireturn, 1) := by decide +kernel
theorem dX0_isLate_0 : decode cX0_isLate 0 = .ok (.aload_n 0, 1) := by decide +kernel
theorem dX0_isLate_1 : decode cX0_isLate 1 = .ok (.getfield 39, 3) := by decide +kernel
theorem dX0_isLate_4 : decode cX0_isLate 4 = .ok (.aload_n 1, 1) := by decide +kernel
theorem dX0_isLate_5 : decode cX0_isLate 5 = .ok (.iconst 0, 1) := by decide +kernel
theorem dX0_isLate_6 : decode cX0_isLate 6 = .ok (.iaload, 1) := by decide +kernel
theorem dX0_isLate_7 : decode cX0_isLate 7 = .ok (.if_icmp .le 7, 3) := by decide +kernel
theorem dX0_isLate_10 : decode cX0_isLate 10 = .ok (.iconst 1, 1) := by decide +kernel
theorem dX0_isLate_11 : decode cX0_isLate 11 = .ok (.goto 4, 3) := by decide +kernel
theorem dX0_isLate_14 : decode cX0_isLate 14 = .ok (.iconst 0, 1) := by decide +kernel
theorem dX0_isLate_15 : decode cX0_isLate 15 = .ok (.ireturn, 1) := by decide +kernel
set_option maxRecDepth 20000 in
theorem ggX0_lineDue_X0_lineBeforeCap : GoodIn wsX0_lineDue wsX0_lineBeforeCap := goodIn_r _ [9, 10, 11, 12, 13, 14, 8, 15, 16, 21, 22, 23, 24, 25, 26, 27, 28, 29, 30, 31, 32, 33, 34, 35] (by decide +kernel) (by decide +kernel)
set_option maxRecDepth 20000 in
theorem gX0_lineDue_X0_lineBeforeCap : GoodIn wsX0_lineDue (wsV RX0 42 RX0 yX0_lineBeforeCap wsX0_lineBeforeCap) := goodIn_app (goodIn_of _ (by decide +kernel)) ggX0_lineDue_X0_lineBeforeCap
set_option maxRecDepth 20000 in
theorem ggX0_lineDue_X0_sumBeforeCap : GoodIn wsX0_lineDue wsX0_sumBeforeCap := goodIn_r _ [20, 5, 6, 7, 8, 9, 10, 11, 12, 13, 14, 15, 16, 21, 22, 23, 24, 25, 26, 27, 28, 29, 30, 31, 32, 33, 34, 35] (by decide +kernel) (by decide +kernel)
set_option maxRecDepth 20000 in
theorem gX0_lineDue_X0_sumBeforeCap : GoodIn wsX0_lineDue (wsV RX0 46 RX0 yX0_sumBeforeCap wsX0_sumBeforeCap) := goodIn_app (goodIn_of _ (by decide +kernel)) ggX0_lineDue_X0_sumBeforeCap
theorem dX0_lineDue_0 : decode cX0_lineDue 0 = .ok (.iload_n 2, 1) := by decide +kernel
theorem dX0_lineDue_1 : decode cX0_lineDue 1 = .ok (.iconst 4, 1) := by decide +kernel
theorem dX0_lineDue_2 : decode cX0_lineDue 2 = .ok (.if_icmp .ge 10, 3) := by decide +kernel
theorem dX0_lineDue_5 : decode cX0_lineDue 5 = .ok (.aload_n 0, 1) := by decide +kernel
theorem dX0_lineDue_6 : decode cX0_lineDue 6 = .ok (.aload_n 1, 1) := by decide +kernel
theorem dX0_lineDue_7 : decode cX0_lineDue 7 = .ok (.iload_n 2, 1) := by decide +kernel
theorem dX0_lineDue_8 : decode cX0_lineDue 8 = .ok (.invokevirtual 42, 3) := by decide +kernel
theorem dX0_lineDue_11 : decode cX0_lineDue 11 = .ok (.ireturn, 1) := by decide +kernel
theorem dX0_lineDue_12 : decode cX0_lineDue 12 = .ok (.iconst 0, 1) := by decide +kernel
theorem dX0_lineDue_13 : decode cX0_lineDue 13 = .ok (.aload_n 1, 1) := by decide +kernel
theorem dX0_lineDue_14 : decode cX0_lineDue 14 = .ok (.bipush 8, 2) := by decide +kernel
theorem dX0_lineDue_16 : decode cX0_lineDue 16 = .ok (.iaload, 1) := by decide +kernel
theorem dX0_lineDue_17 : decode cX0_lineDue 17 = .ok (.aload_n 0, 1) := by decide +kernel
theorem dX0_lineDue_18 : decode cX0_lineDue 18 = .ok (.aload_n 1, 1) := by decide +kernel
theorem dX0_lineDue_19 : decode cX0_lineDue 19 = .ok (.invokevirtual 46, 3) := by decide +kernel
theorem dX0_lineDue_22 : decode cX0_lineDue 22 = .ok (.isub, 1) := by decide +kernel
theorem dX0_lineDue_23 : decode cX0_lineDue 23 = .ok (.invokestatic 50, 3) := by decide +kernel
theorem dX0_lineDue_26 : decode cX0_lineDue 26 = .ok (.ireturn, 1) := by decide +kernel
set_option maxRecDepth 20000 in
theorem ggX0_lineBeforeCap_X0_isLate : GoodIn wsX0_lineBeforeCap wsX0_isLate := goodIn_r _ [7, 8, 9, 10, 11, 12, 13, 14, 15, 16, 17, 18, 19, 20, 21, 22, 23] (by decide +kernel) (by decide +kernel)
set_option maxRecDepth 20000 in
theorem gX0_lineBeforeCap_X0_isLate : GoodIn wsX0_lineBeforeCap (wsV RX0 63 RX0 yX0_isLate wsX0_isLate) := goodIn_app (goodIn_of _ (by decide +kernel)) ggX0_lineBeforeCap_X0_isLate
theorem dX0_lineBeforeCap_0 : decode cX0_lineBeforeCap 0 = .ok (.iload_n 2, 1) := by decide +kernel
theorem dX0_lineBeforeCap_1 : decode cX0_lineBeforeCap 1 = .ok (.tableswitch 58 0 2 #[27, 42, 46], 27) := by decide +kernel
theorem dX0_lineBeforeCap_28 : decode cX0_lineBeforeCap 28 = .ok (.aload_n 0, 1) := by decide +kernel
theorem dX0_lineBeforeCap_29 : decode cX0_lineBeforeCap 29 = .ok (.getfield 56, 3) := by decide +kernel
theorem dX0_lineBeforeCap_32 : decode cX0_lineBeforeCap 32 = .ok (.ifCond .eq 9, 3) := by decide +kernel
theorem dX0_lineBeforeCap_35 : decode cX0_lineBeforeCap 35 = .ok (.aload_n 1, 1) := by decide +kernel
theorem dX0_lineBeforeCap_36 : decode cX0_lineBeforeCap 36 = .ok (.iconst 4, 1) := by decide +kernel
theorem dX0_lineBeforeCap_37 : decode cX0_lineBeforeCap 37 = .ok (.iaload, 1) := by decide +kernel
theorem dX0_lineBeforeCap_38 : decode cX0_lineBeforeCap 38 = .ok (.goto 4, 3) := by decide +kernel
theorem dX0_lineBeforeCap_41 : decode cX0_lineBeforeCap 41 = .ok (.iconst 0, 1) := by decide +kernel
theorem dX0_lineBeforeCap_42 : decode cX0_lineBeforeCap 42 = .ok (.ireturn, 1) := by decide +kernel
theorem dX0_lineBeforeCap_43 : decode cX0_lineBeforeCap 43 = .ok (.aload_n 1, 1) := by decide +kernel
theorem dX0_lineBeforeCap_44 : decode cX0_lineBeforeCap 44 = .ok (.iconst 5, 1) := by decide +kernel
theorem dX0_lineBeforeCap_45 : decode cX0_lineBeforeCap 45 = .ok (.iaload, 1) := by decide +kernel
theorem dX0_lineBeforeCap_46 : decode cX0_lineBeforeCap 46 = .ok (.ireturn, 1) := by decide +kernel
theorem dX0_lineBeforeCap_47 : decode cX0_lineBeforeCap 47 = .ok (.aload_n 1, 1) := by decide +kernel
theorem dX0_lineBeforeCap_48 : decode cX0_lineBeforeCap 48 = .ok (.bipush 6, 2) := by decide +kernel
theorem dX0_lineBeforeCap_50 : decode cX0_lineBeforeCap 50 = .ok (.iaload, 1) := by decide +kernel
theorem dX0_lineBeforeCap_51 : decode cX0_lineBeforeCap 51 = .ok (.aload_n 0, 1) := by decide +kernel
theorem dX0_lineBeforeCap_52 : decode cX0_lineBeforeCap 52 = .ok (.getfield 60, 3) := by decide +kernel
theorem dX0_lineBeforeCap_55 : decode cX0_lineBeforeCap 55 = .ok (.imul, 1) := by decide +kernel
theorem dX0_lineBeforeCap_56 : decode cX0_lineBeforeCap 56 = .ok (.iconst 2, 1) := by decide +kernel
theorem dX0_lineBeforeCap_57 : decode cX0_lineBeforeCap 57 = .ok (.imul, 1) := by decide +kernel
theorem dX0_lineBeforeCap_58 : decode cX0_lineBeforeCap 58 = .ok (.ireturn, 1) := by decide +kernel
theorem dX0_lineBeforeCap_59 : decode cX0_lineBeforeCap 59 = .ok (.aload_n 0, 1) := by decide +kernel
theorem dX0_lineBeforeCap_60 : decode cX0_lineBeforeCap 60 = .ok (.aload_n 1, 1) := by decide +kernel
theorem dX0_lineBeforeCap_61 : decode cX0_lineBeforeCap 61 = .ok (.invokevirtual 63, 3) := by decide +kernel
theorem dX0_lineBeforeCap_64 : decode cX0_lineBeforeCap 64 = .ok (.ifCond .eq 11, 3) := by decide +kernel
theorem dX0_lineBeforeCap_67 : decode cX0_lineBeforeCap 67 = .ok (.aload_n 1, 1) := by decide +kernel
theorem dX0_lineBeforeCap_68 : decode cX0_lineBeforeCap 68 = .ok (.bipush 7, 2) := by decide +kernel
theorem dX0_lineBeforeCap_70 : decode cX0_lineBeforeCap 70 = .ok (.iaload, 1) := by decide +kernel
theorem dX0_lineBeforeCap_71 : decode cX0_lineBeforeCap 71 = .ok (.ineg, 1) := by decide +kernel
theorem dX0_lineBeforeCap_72 : decode cX0_lineBeforeCap 72 = .ok (.goto 4, 3) := by decide +kernel
theorem dX0_lineBeforeCap_75 : decode cX0_lineBeforeCap 75 = .ok (.iconst 0, 1) := by decide +kernel
theorem dX0_lineBeforeCap_76 : decode cX0_lineBeforeCap 76 = .ok (.ireturn, 1) := by decide +kernel
set_option maxRecDepth 20000 in
theorem ggX0_sumBeforeCap_X0_lineBeforeCap : GoodIn wsX0_sumBeforeCap wsX0_lineBeforeCap := goodIn_r _ [5, 6, 7, 8, 9, 10, 4, 11, 12, 13, 14, 15, 16, 17, 18, 19, 20, 21, 22, 23, 24, 25, 26, 27] (by decide +kernel) (by decide +kernel)
set_option maxRecDepth 20000 in
theorem gX0_sumBeforeCap_X0_lineBeforeCap : GoodIn wsX0_sumBeforeCap (wsV RX0 42 RX0 yX0_lineBeforeCap wsX0_lineBeforeCap) := goodIn_app (goodIn_of _ (by decide +kernel)) ggX0_sumBeforeCap_X0_lineBeforeCap
theorem dX0_sumBeforeCap_0 : decode cX0_sumBeforeCap 0 = .ok (.iconst 0, 1) := by decide +kernel
theorem dX0_sumBeforeCap_1 : decode cX0_sumBeforeCap 1 = .ok (.istore_n 2, 1) := by decide +kernel
theorem dX0_sumBeforeCap_2 : decode cX0_sumBeforeCap 2 = .ok (.iconst 0, 1) := by decide +kernel
theorem dX0_sumBeforeCap_3 : decode cX0_sumBeforeCap 3 = .ok (.istore_n 3, 1) := by decide +kernel
theorem dX0_sumBeforeCap_4 : decode cX0_sumBeforeCap 4 = .ok (.iload_n 3, 1) := by decide +kernel
theorem dX0_sumBeforeCap_5 : decode cX0_sumBeforeCap 5 = .ok (.iconst 4, 1) := by decide +kernel
theorem dX0_sumBeforeCap_6 : decode cX0_sumBeforeCap 6 = .ok (.if_icmp .ge 18, 3) := by decide +kernel
theorem dX0_sumBeforeCap_9 : decode cX0_sumBeforeCap 9 = .ok (.iload_n 2, 1) := by decide +kernel
theorem dX0_sumBeforeCap_10 : decode cX0_sumBeforeCap 10 = .ok (.aload_n 0, 1) := by decide +kernel
theorem dX0_sumBeforeCap_11 : decode cX0_sumBeforeCap 11 = .ok (.aload_n 1, 1) := by decide +kernel
theorem dX0_sumBeforeCap_12 : decode cX0_sumBeforeCap 12 = .ok (.iload_n 3, 1) := by decide +kernel
theorem dX0_sumBeforeCap_13 : decode cX0_sumBeforeCap 13 = .ok (.invokevirtual 42, 3) := by decide +kernel
theorem dX0_sumBeforeCap_16 : decode cX0_sumBeforeCap 16 = .ok (.iadd, 1) := by decide +kernel
theorem dX0_sumBeforeCap_17 : decode cX0_sumBeforeCap 17 = .ok (.istore_n 2, 1) := by decide +kernel
theorem dX0_sumBeforeCap_18 : decode cX0_sumBeforeCap 18 = .ok (.iinc 3 1, 3) := by decide +kernel
theorem dX0_sumBeforeCap_21 : decode cX0_sumBeforeCap 21 = .ok (.goto (-17), 3) := by decide +kernel
theorem dX0_sumBeforeCap_24 : decode cX0_sumBeforeCap 24 = .ok (.iload_n 2, 1) := by decide +kernel
theorem dX0_sumBeforeCap_25 : decode cX0_sumBeforeCap 25 = .ok (.ireturn, 1) := by decide +kernel
set_option maxRecDepth 20000 in
theorem ggX0_sumDue_X0_sumBeforeCap : GoodIn wsX0_sumDue wsX0_sumBeforeCap := goodIn_r _ [12, 13, 14, 15, 11, 16, 17, 18, 19, 20, 21, 22, 23, 24, 25, 26, 27, 28, 29, 30, 31, 32, 33, 34, 35, 36, 37, 38] (by decide +kernel) (by decide +kernel)
set_option maxRecDepth 20000 in
theorem gX0_sumDue_X0_sumBeforeCap : GoodIn wsX0_sumDue (wsV RX0 46 RX0 yX0_sumBeforeCap wsX0_sumBeforeCap) := goodIn_app (goodIn_of _ (by decide +kernel)) ggX0_sumDue_X0_sumBeforeCap
theorem dX0_sumDue_0 : decode cX0_sumDue 0 = .ok (.iconst 0, 1) := by decide +kernel
theorem dX0_sumDue_1 : decode cX0_sumDue 1 = .ok (.aload_n 0, 1) := by decide +kernel
theorem dX0_sumDue_2 : decode cX0_sumDue 2 = .ok (.aload_n 1, 1) := by decide +kernel
theorem dX0_sumDue_3 : decode cX0_sumDue 3 = .ok (.invokevirtual 46, 3) := by decide +kernel
theorem dX0_sumDue_6 : decode cX0_sumDue 6 = .ok (.aload_n 1, 1) := by decide +kernel
theorem dX0_sumDue_7 : decode cX0_sumDue 7 = .ok (.bipush 8, 2) := by decide +kernel
theorem dX0_sumDue_9 : decode cX0_sumDue 9 = .ok (.iaload, 1) := by decide +kernel
theorem dX0_sumDue_10 : decode cX0_sumDue 10 = .ok (.invokestatic 50, 3) := by decide +kernel
theorem dX0_sumDue_13 : decode cX0_sumDue 13 = .ok (.invokestatic 67, 3) := by decide +kernel
theorem dX0_sumDue_16 : decode cX0_sumDue 16 = .ok (.ireturn, 1) := by decide +kernel
theorem dX1_init_0 : decode cX1_init 0 = .ok (.aload_n 0, 1) := by decide +kernel
theorem dX1_init_1 : decode cX1_init 1 = .ok (.invokespecial 3, 3) := by decide +kernel
theorem dX1_init_4 : decode cX1_init 4 = .ok (.aload_n 0, 1) := by decide +kernel
theorem dX1_init_5 : decode cX1_init 5 = .ok (.sipush 150, 3) := by decide +kernel
theorem dX1_init_8 : decode cX1_init 8 = .ok (.anewarray 9, 3) := by decide +kernel
theorem dX1_init_11 : decode cX1_init 11 = .ok (.putfield 11, 3) := by decide +kernel
theorem dX1_init_14 : decode cX1_init 14 = .ok (.aload_n 0, 1) := by decide +kernel
theorem dX1_init_15 : decode cX1_init 15 = .ok (.bipush 100, 2) := by decide +kernel
theorem dX1_init_17 : decode cX1_init 17 = .ok (.newarray .int, 2) := by decide +kernel
theorem dX1_init_19 : decode cX1_init 19 = .ok (.putfield 17, 3) := by decide +kernel
theorem dX1_init_22 : decode cX1_init 22 = .ok (.aload_n 0, 1) := by decide +kernel
theorem dX1_init_23 : decode cX1_init 23 = .ok (.bipush 100, 2) := by decide +kernel
theorem dX1_init_25 : decode cX1_init 25 = .ok (.newarray .int, 2) := by decide +kernel
theorem dX1_init_27 : decode cX1_init 27 = .ok (.putfield 21, 3) := by decide +kernel
theorem dX1_init_30 : decode cX1_init 30 = .ok (.aload_n 0, 1) := by decide +kernel
theorem dX1_init_31 : decode cX1_init 31 = .ok (.aload_n 1, 1) := by decide +kernel
theorem dX1_init_32 : decode cX1_init 32 = .ok (.putfield 24, 3) := by decide +kernel
theorem dX1_init_35 : decode cX1_init 35 = .ok (.aload_n 0, 1) := by decide +kernel
theorem dX1_init_36 : decode cX1_init 36 = .ok (.aload_n 2, 1) := by decide +kernel
theorem dX1_init_37 : decode cX1_init 37 = .ok (.putfield 28, 3) := by decide +kernel
theorem dX1_init_40 : decode cX1_init 40 = .ok (.aload_n 0, 1) := by decide +kernel
theorem dX1_init_41 : decode cX1_init 41 = .ok (.aload_n 3, 1) := by decide +kernel
theorem dX1_init_42 : decode cX1_init 42 = .ok (.putfield 32, 3) := by decide +kernel
theorem dX1_init_45 : decode cX1_init 45 = .ok (.return_, 1) := by decide +kernel
set_option maxRecDepth 20000 in
theorem ggX1_has_X7_isBelow : GoodIn wsX1_has wsX7_isBelow := goodIn_r _ [4] (by decide +kernel) (by decide +kernel)
set_option maxRecDepth 20000 in
theorem gX1_has_X7_isBelow_n40 : GoodIn wsX1_has (wsX7_isBelow) := ggX1_has_X7_isBelow
theorem dX1_has_0 : decode cX1_has 0 = .ok (.iload_n 1, 1) := by decide +kernel
theorem dX1_has_1 : decode cX1_has 1 = .ok (.aload_n 0, 1) := by decide +kernel
theorem dX1_has_2 : decode cX1_has 2 = .ok (.getfield 36, 3) := by decide +kernel
theorem dX1_has_5 : decode cX1_has 5 = .ok (.invokestatic 40, 3) := by decide +kernel
theorem dX1_has_8 : decode cX1_has 8 = .ok (.ireturn, 1) := by decide +kernel
theorem dX1_get_0 : decode cX1_get 0 = .ok (.aload_n 0, 1) := by decide +kernel
theorem dX1_get_1 : decode cX1_get 1 = .ok (.getfield 11, 3) := by decide +kernel
theorem dX1_get_4 : decode cX1_get 4 = .ok (.iload_n 1, 1) := by decide +kernel
theorem dX1_get_5 : decode cX1_get 5 = .ok (.aaload, 1) := by decide +kernel
theorem dX1_get_6 : decode cX1_get 6 = .ok (.areturn, 1) := by decide +kernel
theorem dX1_latestDay_0 : decode cX1_latestDay 0 = .ok (.aload_n 0, 1) := by decide +kernel
theorem dX1_latestDay_1 : decode cX1_latestDay 1 = .ok (.getfield 36, 3) := by decide +kernel
theorem dX1_latestDay_4 : decode cX1_latestDay 4 = .ok (.ifCond .ne 7, 3) := by decide +kernel
theorem dX1_latestDay_7 : decode cX1_latestDay 7 = .ok (.iconst 0, 1) := by decide +kernel
theorem dX1_latestDay_8 : decode cX1_latestDay 8 = .ok (.goto 17, 3) := by decide +kernel
theorem dX1_latestDay_11 : decode cX1_latestDay 11 = .ok (.aload_n 0, 1) := by decide +kernel
theorem dX1_latestDay_12 : decode cX1_latestDay 12 = .ok (.getfield 11, 3) := by decide +kernel
theorem dX1_latestDay_15 : decode cX1_latestDay 15 = .ok (.aload_n 0, 1) := by decide +kernel
theorem dX1_latestDay_16 : decode cX1_latestDay 16 = .ok (.getfield 36, 3) := by decide +kernel
theorem dX1_latestDay_19 : decode cX1_latestDay 19 = .ok (.iconst 1, 1) := by decide +kernel
theorem dX1_latestDay_20 : decode cX1_latestDay 20 = .ok (.isub, 1) := by decide +kernel
theorem dX1_latestDay_21 : decode cX1_latestDay 21 = .ok (.aaload, 1) := by decide +kernel
theorem dX1_latestDay_22 : decode cX1_latestDay 22 = .ok (.getfield 44, 3) := by decide +kernel
theorem dX1_latestDay_25 : decode cX1_latestDay 25 = .ok (.ireturn, 1) := by decide +kernel
theorem dX1_add_0 : decode cX1_add 0 = .ok (.aload_n 0, 1) := by decide +kernel
theorem dX1_add_1 : decode cX1_add 1 = .ok (.getfield 11, 3) := by decide +kernel
theorem dX1_add_4 : decode cX1_add 4 = .ok (.aload_n 0, 1) := by decide +kernel
theorem dX1_add_5 : decode cX1_add 5 = .ok (.getfield 36, 3) := by decide +kernel
theorem dX1_add_8 : decode cX1_add 8 = .ok (.aload_n 1, 1) := by decide +kernel
theorem dX1_add_9 : decode cX1_add 9 = .ok (.aastore, 1) := by decide +kernel
theorem dX1_add_10 : decode cX1_add 10 = .ok (.aload_n 0, 1) := by decide +kernel
theorem dX1_add_11 : decode cX1_add 11 = .ok (.dup, 1) := by decide +kernel
theorem dX1_add_12 : decode cX1_add 12 = .ok (.getfield 36, 3) := by decide +kernel
theorem dX1_add_15 : decode cX1_add 15 = .ok (.iconst 1, 1) := by decide +kernel
theorem dX1_add_16 : decode cX1_add 16 = .ok (.iadd, 1) := by decide +kernel
theorem dX1_add_17 : decode cX1_add 17 = .ok (.putfield 36, 3) := by decide +kernel
theorem dX1_add_20 : decode cX1_add 20 = .ok (.aload_n 0, 1) := by decide +kernel
theorem dX1_add_21 : decode cX1_add 21 = .ok (.getfield 36, 3) := by decide +kernel
theorem dX1_add_24 : decode cX1_add 24 = .ok (.iconst 1, 1) := by decide +kernel
theorem dX1_add_25 : decode cX1_add 25 = .ok (.isub, 1) := by decide +kernel
theorem dX1_add_26 : decode cX1_add 26 = .ok (.ireturn, 1) := by decide +kernel
set_option maxRecDepth 20000 in
theorem ggX1_askNext_X1_whoIsNext : GoodIn wsX1_askNext wsX1_whoIsNext := goodIn_r _ [6, 1, 7, 8, 9, 10, 11, 12, 13, 14, 15, 16, 17, 18, 19, 20, 21, 22, 23, 24, 25, 5, 26, 27, 28, 29, 30, 31, 32, 33, 34, 35, 36, 37, 38, 39, 40, 41, 42, 43, 44, 45, 46, 47, 48, 49, 50, 51, 52, 53, 54, 55, 56, 57, 58, 59, 60, 61, 62, 63, 64, 65, 66, 67, 68, 69, 70, 71, 72, 73, 74, 75, 76, 77, 78, 79, 80, 81, 82, 83, 84, 85, 86, 87, 88, 89, 90, 91, 92, 93, 94, 95, 96, 97, 98, 99, 100, 101, 102, 103, 104, 105, 106, 107, 108, 109, 110, 111, 112, 113, 114, 115, 116, 117, 118, 119, 120, 121, 122, 123, 124, 125, 126, 127, 128, 129, 130, 131, 132, 133, 134, 135, 136, 137, 138, 139, 140, 141, 142, 143, 144, 145] (by decide +kernel) (by decide +kernel)
set_option maxRecDepth 20000 in
theorem gX1_askNext_X1_whoIsNext : GoodIn wsX1_askNext (wsV RX1 47 RX1 yX1_whoIsNext wsX1_whoIsNext) := goodIn_app (goodIn_of _ (by decide +kernel)) ggX1_askNext_X1_whoIsNext
theorem dX1_askNext_0 : decode cX1_askNext 0 = .ok (.aload_n 0, 1) := by decide +kernel
theorem dX1_askNext_1 : decode cX1_askNext 1 = .ok (.getfield 11, 3) := by decide +kernel
theorem dX1_askNext_4 : decode cX1_askNext 4 = .ok (.iload_n 1, 1) := by decide +kernel
theorem dX1_askNext_5 : decode cX1_askNext 5 = .ok (.aaload, 1) := by decide +kernel
theorem dX1_askNext_6 : decode cX1_askNext 6 = .ok (.astore_n 2, 1) := by decide +kernel
theorem dX1_askNext_7 : decode cX1_askNext 7 = .ok (.aload_n 2, 1) := by decide +kernel
theorem dX1_askNext_8 : decode cX1_askNext 8 = .ok (.aload_n 0, 1) := by decide +kernel
theorem dX1_askNext_9 : decode cX1_askNext 9 = .ok (.iload_n 1, 1) := by decide +kernel
theorem dX1_askNext_10 : decode cX1_askNext 10 = .ok (.invokevirtual 47, 3) := by decide +kernel
theorem dX1_askNext_13 : decode cX1_askNext 13 = .ok (.putfield 51, 3) := by decide +kernel
theorem dX1_askNext_16 : decode cX1_askNext 16 = .ok (.aload_n 2, 1) := by decide +kernel
theorem dX1_askNext_17 : decode cX1_askNext 17 = .ok (.getfield 51, 3) := by decide +kernel
theorem dX1_askNext_20 : decode cX1_askNext 20 = .ok (.iconst (-1), 1) := by decide +kernel
theorem dX1_askNext_21 : decode cX1_askNext 21 = .ok (.if_icmp .ne 11, 3) := by decide +kernel
theorem dX1_askNext_24 : decode cX1_askNext 24 = .ok (.aload_n 2, 1) := by decide +kernel
theorem dX1_askNext_25 : decode cX1_askNext 25 = .ok (.iconst 2, 1) := by decide +kernel
theorem dX1_askNext_26 : decode cX1_askNext 26 = .ok (.putfield 54, 3) := by decide +kernel
theorem dX1_askNext_29 : decode cX1_askNext 29 = .ok (.goto 18, 3) := by decide +kernel
theorem dX1_askNext_32 : decode cX1_askNext 32 = .ok (.aload_n 2, 1) := by decide +kernel
theorem dX1_askNext_33 : decode cX1_askNext 33 = .ok (.dup, 1) := by decide +kernel
theorem dX1_askNext_34 : decode cX1_askNext 34 = .ok (.getfield 57, 3) := by decide +kernel
theorem dX1_askNext_37 : decode cX1_askNext 37 = .ok (.iconst 1, 1) := by decide +kernel
theorem dX1_askNext_38 : decode cX1_askNext 38 = .ok (.aload_n 2, 1) := by decide +kernel
theorem dX1_askNext_39 : decode cX1_askNext 39 = .ok (.getfield 51, 3) := by decide +kernel
theorem dX1_askNext_42 : decode cX1_askNext 42 = .ok (.ishl, 1) := by decide +kernel
theorem dX1_askNext_43 : decode cX1_askNext 43 = .ok (.ior, 1) := by decide +kernel
theorem dX1_askNext_44 : decode cX1_askNext 44 = .ok (.putfield 57, 3) := by decide +kernel
theorem dX1_askNext_47 : decode cX1_askNext 47 = .ok (.aload_n 2, 1) := by decide +kernel
theorem dX1_askNext_48 : decode cX1_askNext 48 = .ok (.getfield 51, 3) := by decide +kernel
theorem dX1_askNext_51 : decode cX1_askNext 51 = .ok (.ireturn, 1) := by decide +kernel
set_option maxRecDepth 20000 in
theorem ggX1_whoIsNext_X6_textNow : GoodIn wsX1_whoIsNext wsX6_textNow := goodIn_r _ [7, 8, 9, 10, 11, 5, 12, 13, 14, 15, 16, 17, 126, 127] (by decide +kernel) (by decide +kernel)
set_option maxRecDepth 20000 in
theorem gX1_whoIsNext_X6_textNow_n60 : GoodIn wsX1_whoIsNext (wsX6_textNow) := ggX1_whoIsNext_X6_textNow
set_option maxRecDepth 20000 in
theorem ggX1_whoIsNext_X1_whoMayBeAsked : GoodIn wsX1_whoIsNext wsX1_whoMayBeAsked := goodIn_r _ [22, 23, 24, 25, 26, 27, 28, 29, 21, 30, 31, 32, 33, 34, 35, 36, 37, 38, 39, 40, 41, 42, 43, 44, 45, 46, 47, 48, 49, 50, 51, 52, 53, 54, 55, 56, 57, 58, 59, 60, 61, 62, 63, 64, 65, 66, 67, 1, 68, 69, 70, 71, 72, 73, 104, 105, 106, 107, 108, 109, 110, 128, 129, 130, 131, 132, 133, 134, 135, 111, 112, 113, 114, 115, 116, 117, 118, 119, 120, 121, 122, 123, 124, 125] (by decide +kernel) (by decide +kernel)
set_option maxRecDepth 20000 in
theorem gX1_whoIsNext_X1_whoMayBeAsked : GoodIn wsX1_whoIsNext (wsV RX1 66 RX1 yX1_whoMayBeAsked wsX1_whoMayBeAsked) := goodIn_app (goodIn_of _ (by decide +kernel)) ggX1_whoIsNext_X1_whoMayBeAsked
set_option maxRecDepth 20000 in
theorem ggX1_whoIsNext_X1_takerBefore : GoodIn wsX1_whoIsNext wsX1_takerBefore := goodIn_r _ [77, 1, 78, 69, 79, 80, 72, 73, 104, 105, 106, 107, 108, 109, 110, 111, 112, 113, 114, 115, 116, 117, 118, 119, 120, 121, 122, 123, 124, 125] (by decide +kernel) (by decide +kernel)
set_option maxRecDepth 20000 in
theorem gX1_whoIsNext_X1_takerBefore : GoodIn wsX1_whoIsNext (wsV RX1 70 RX1 yX1_takerBefore wsX1_takerBefore) := goodIn_app (goodIn_of _ (by decide +kernel)) ggX1_whoIsNext_X1_takerBefore
set_option maxRecDepth 20000 in
theorem ggX1_whoIsNext_X7_hasBit : GoodIn wsX1_whoIsNext wsX7_hasBit := goodIn_r _ [26] (by decide +kernel) (by decide +kernel)
set_option maxRecDepth 20000 in
theorem gX1_whoIsNext_X7_hasBit_n73 : GoodIn wsX1_whoIsNext (wsX7_hasBit) := ggX1_whoIsNext_X7_hasBit
set_option maxRecDepth 20000 in
theorem ggX1_whoIsNext_X2_holder : GoodIn wsX1_whoIsNext wsX2_holder := goodIn_r _ [84, 85, 136, 137, 138, 139, 140, 141] (by decide +kernel) (by decide +kernel)
set_option maxRecDepth 20000 in
theorem gX1_whoIsNext_X2_holder_n79 : GoodIn wsX1_whoIsNext (wsX2_holder) := ggX1_whoIsNext_X2_holder
set_option maxRecDepth 20000 in
theorem ggX1_whoIsNext_X1_firstByOrder : GoodIn wsX1_whoIsNext wsX1_firstByOrder := goodIn_r _ [89, 3, 23, 90, 82, 91, 92, 93, 94, 95, 96, 97, 98, 99, 100, 101, 102, 103, 49, 50, 51, 21, 52, 53, 32, 54, 55, 56, 24, 25, 26, 104, 105, 106, 107, 108, 109, 110, 111, 112, 113, 114, 115, 116, 117, 118, 119, 120, 121, 122, 123, 124, 125, 128, 129, 130, 131, 132, 133, 134, 135, 136, 137, 138, 139, 140, 141] (by decide +kernel) (by decide +kernel)
set_option maxRecDepth 20000 in
theorem gX1_whoIsNext_X1_firstByOrder : GoodIn wsX1_whoIsNext (wsV RX1 85 RX1 yX1_firstByOrder wsX1_firstByOrder) := goodIn_app (goodIn_of _ (by decide +kernel)) ggX1_whoIsNext_X1_firstByOrder
theorem dX1_whoIsNext_0 : decode cX1_whoIsNext 0 = .ok (.aload_n 0, 1) := by decide +kernel
theorem dX1_whoIsNext_1 : decode cX1_whoIsNext 1 = .ok (.getfield 11, 3) := by decide +kernel
theorem dX1_whoIsNext_4 : decode cX1_whoIsNext 4 = .ok (.iload_n 1, 1) := by decide +kernel
theorem dX1_whoIsNext_5 : decode cX1_whoIsNext 5 = .ok (.aaload, 1) := by decide +kernel
theorem dX1_whoIsNext_6 : decode cX1_whoIsNext 6 = .ok (.astore_n 2, 1) := by decide +kernel
theorem dX1_whoIsNext_7 : decode cX1_whoIsNext 7 = .ok (.aload_n 0, 1) := by decide +kernel
theorem dX1_whoIsNext_8 : decode cX1_whoIsNext 8 = .ok (.getfield 28, 3) := by decide +kernel
theorem dX1_whoIsNext_11 : decode cX1_whoIsNext 11 = .ok (.aload_n 2, 1) := by decide +kernel
theorem dX1_whoIsNext_12 : decode cX1_whoIsNext 12 = .ok (.getfield 44, 3) := by decide +kernel
theorem dX1_whoIsNext_15 : decode cX1_whoIsNext 15 = .ok (.invokevirtual 60, 3) := by decide +kernel
theorem dX1_whoIsNext_18 : decode cX1_whoIsNext 18 = .ok (.astore_n 3, 1) := by decide +kernel
theorem dX1_whoIsNext_19 : decode cX1_whoIsNext 19 = .ok (.aload_n 0, 1) := by decide +kernel
theorem dX1_whoIsNext_20 : decode cX1_whoIsNext 20 = .ok (.aload_n 2, 1) := by decide +kernel
theorem dX1_whoIsNext_21 : decode cX1_whoIsNext 21 = .ok (.aload_n 3, 1) := by decide +kernel
theorem dX1_whoIsNext_22 : decode cX1_whoIsNext 22 = .ok (.bipush 10, 2) := by decide +kernel
theorem dX1_whoIsNext_24 : decode cX1_whoIsNext 24 = .ok (.iaload, 1) := by decide +kernel
theorem dX1_whoIsNext_25 : decode cX1_whoIsNext 25 = .ok (.invokevirtual 66, 3) := by decide +kernel
theorem dX1_whoIsNext_28 : decode cX1_whoIsNext 28 = .ok (.istore 4, 2) := by decide +kernel
theorem dX1_whoIsNext_30 : decode cX1_whoIsNext 30 = .ok (.aload_n 0, 1) := by decide +kernel
theorem dX1_whoIsNext_31 : decode cX1_whoIsNext 31 = .ok (.iload_n 1, 1) := by decide +kernel
theorem dX1_whoIsNext_32 : decode cX1_whoIsNext 32 = .ok (.invokevirtual 70, 3) := by decide +kernel
theorem dX1_whoIsNext_35 : decode cX1_whoIsNext 35 = .ok (.istore 5, 2) := by decide +kernel
theorem dX1_whoIsNext_37 : decode cX1_whoIsNext 37 = .ok (.iload 5, 2) := by decide +kernel
theorem dX1_whoIsNext_39 : decode cX1_whoIsNext 39 = .ok (.iconst (-1), 1) := by decide +kernel
theorem dX1_whoIsNext_40 : decode cX1_whoIsNext 40 = .ok (.if_icmp .eq 16, 3) := by decide +kernel
theorem dX1_whoIsNext_43 : decode cX1_whoIsNext 43 = .ok (.iload 4, 2) := by decide +kernel
theorem dX1_whoIsNext_45 : decode cX1_whoIsNext 45 = .ok (.iload 5, 2) := by decide +kernel
theorem dX1_whoIsNext_47 : decode cX1_whoIsNext 47 = .ok (.invokestatic 73, 3) := by decide +kernel
theorem dX1_whoIsNext_50 : decode cX1_whoIsNext 50 = .ok (.ifCond .eq 6, 3) := by decide +kernel
theorem dX1_whoIsNext_53 : decode cX1_whoIsNext 53 = .ok (.iload 5, 2) := by decide +kernel
theorem dX1_whoIsNext_55 : decode cX1_whoIsNext 55 = .ok (.ireturn, 1) := by decide +kernel
theorem dX1_whoIsNext_56 : decode cX1_whoIsNext 56 = .ok (.aload_n 0, 1) := by decide +kernel
theorem dX1_whoIsNext_57 : decode cX1_whoIsNext 57 = .ok (.getfield 32, 3) := by decide +kernel
theorem dX1_whoIsNext_60 : decode cX1_whoIsNext 60 = .ok (.aload_n 2, 1) := by decide +kernel
theorem dX1_whoIsNext_61 : decode cX1_whoIsNext 61 = .ok (.getfield 76, 3) := by decide +kernel
theorem dX1_whoIsNext_64 : decode cX1_whoIsNext 64 = .ok (.aload_n 2, 1) := by decide +kernel
theorem dX1_whoIsNext_65 : decode cX1_whoIsNext 65 = .ok (.getfield 44, 3) := by decide +kernel
theorem dX1_whoIsNext_68 : decode cX1_whoIsNext 68 = .ok (.invokevirtual 79, 3) := by decide +kernel
theorem dX1_whoIsNext_71 : decode cX1_whoIsNext 71 = .ok (.istore 6, 2) := by decide +kernel
theorem dX1_whoIsNext_73 : decode cX1_whoIsNext 73 = .ok (.iload 6, 2) := by decide +kernel
theorem dX1_whoIsNext_75 : decode cX1_whoIsNext 75 = .ok (.iconst (-1), 1) := by decide +kernel
theorem dX1_whoIsNext_76 : decode cX1_whoIsNext 76 = .ok (.if_icmp .eq 16, 3) := by decide +kernel
theorem dX1_whoIsNext_79 : decode cX1_whoIsNext 79 = .ok (.iload 4, 2) := by decide +kernel
theorem dX1_whoIsNext_81 : decode cX1_whoIsNext 81 = .ok (.iload 6, 2) := by decide +kernel
theorem dX1_whoIsNext_83 : decode cX1_whoIsNext 83 = .ok (.invokestatic 73, 3) := by decide +kernel
theorem dX1_whoIsNext_86 : decode cX1_whoIsNext 86 = .ok (.ifCond .eq 6, 3) := by decide +kernel
theorem dX1_whoIsNext_89 : decode cX1_whoIsNext 89 = .ok (.iload 6, 2) := by decide +kernel
theorem dX1_whoIsNext_91 : decode cX1_whoIsNext 91 = .ok (.ireturn, 1) := by decide +kernel
theorem dX1_whoIsNext_92 : decode cX1_whoIsNext 92 = .ok (.aload_n 0, 1) := by decide +kernel
theorem dX1_whoIsNext_93 : decode cX1_whoIsNext 93 = .ok (.aload_n 2, 1) := by decide +kernel
theorem dX1_whoIsNext_94 : decode cX1_whoIsNext 94 = .ok (.aload_n 3, 1) := by decide +kernel
theorem dX1_whoIsNext_95 : decode cX1_whoIsNext 95 = .ok (.bipush 9, 2) := by decide +kernel
theorem dX1_whoIsNext_97 : decode cX1_whoIsNext 97 = .ok (.iaload, 1) := by decide +kernel
theorem dX1_whoIsNext_98 : decode cX1_whoIsNext 98 = .ok (.iload 4, 2) := by decide +kernel
theorem dX1_whoIsNext_100 : decode cX1_whoIsNext 100 = .ok (.invokevirtual 85, 3) := by decide +kernel
theorem dX1_whoIsNext_103 : decode cX1_whoIsNext 103 = .ok (.ireturn, 1) := by decide +kernel
set_option maxRecDepth 20000 in
theorem ggX1_whoMayBeAsked_X7_hasBit : GoodIn wsX1_whoMayBeAsked wsX7_hasBit := goodIn_r _ [4] (by decide +kernel) (by decide +kernel)
set_option maxRecDepth 20000 in
theorem gX1_whoMayBeAsked_X7_hasBit_n73 : GoodIn wsX1_whoMayBeAsked (wsX7_hasBit) := ggX1_whoMayBeAsked_X7_hasBit
set_option maxRecDepth 20000 in
theorem ggX1_whoMayBeAsked_X1_reasonsAgainst : GoodIn wsX1_whoMayBeAsked wsX1_reasonsAgainst := goodIn_r _ [9, 1, 10, 11, 12, 13, 14, 2, 3, 4, 15, 16, 17, 18, 19, 20, 21, 22, 23, 24, 25, 26, 27, 28, 29, 30, 8, 31, 32, 33, 34, 35, 36, 37, 38, 39, 40, 41, 42, 43, 44, 45, 46, 47, 48, 49, 50, 51, 52, 53, 54, 55, 56, 57, 58, 59, 60, 69, 70, 71, 72, 73, 74, 75, 76, 77, 78, 79, 80, 81, 82, 83, 61, 62, 63, 64, 65, 66, 67, 68] (by decide +kernel) (by decide +kernel)
set_option maxRecDepth 20000 in
theorem gX1_whoMayBeAsked_X1_reasonsAgainst : GoodIn wsX1_whoMayBeAsked (wsV RX1 92 RX1 yX1_reasonsAgainst wsX1_reasonsAgainst) := goodIn_app (goodIn_of _ (by decide +kernel)) ggX1_whoMayBeAsked_X1_reasonsAgainst
theorem dX1_whoMayBeAsked_0 : decode cX1_whoMayBeAsked 0 = .ok (.iconst 0, 1) := by decide +kernel
theorem dX1_whoMayBeAsked_1 : decode cX1_whoMayBeAsked 1 = .ok (.istore_n 3, 1) := by decide +kernel
theorem dX1_whoMayBeAsked_2 : decode cX1_whoMayBeAsked 2 = .ok (.iconst 0, 1) := by decide +kernel
theorem dX1_whoMayBeAsked_3 : decode cX1_whoMayBeAsked 3 = .ok (.istore 4, 2) := by decide +kernel
theorem dX1_whoMayBeAsked_5 : decode cX1_whoMayBeAsked 5 = .ok (.iload 4, 2) := by decide +kernel
theorem dX1_whoMayBeAsked_7 : decode cX1_whoMayBeAsked 7 = .ok (.aload_n 0, 1) := by decide +kernel
theorem dX1_whoMayBeAsked_8 : decode cX1_whoMayBeAsked 8 = .ok (.getfield 24, 3) := by decide +kernel
theorem dX1_whoMayBeAsked_11 : decode cX1_whoMayBeAsked 11 = .ok (.getfield 89, 3) := by decide +kernel
theorem dX1_whoMayBeAsked_14 : decode cX1_whoMayBeAsked 14 = .ok (.if_icmp .ge 39, 3) := by decide +kernel
theorem dX1_whoMayBeAsked_17 : decode cX1_whoMayBeAsked 17 = .ok (.aload_n 1, 1) := by decide +kernel
theorem dX1_whoMayBeAsked_18 : decode cX1_whoMayBeAsked 18 = .ok (.getfield 57, 3) := by decide +kernel
theorem dX1_whoMayBeAsked_21 : decode cX1_whoMayBeAsked 21 = .ok (.iload 4, 2) := by decide +kernel
theorem dX1_whoMayBeAsked_23 : decode cX1_whoMayBeAsked 23 = .ok (.invokestatic 73, 3) := by decide +kernel
theorem dX1_whoMayBeAsked_26 : decode cX1_whoMayBeAsked 26 = .ok (.ifCond .ne 21, 3) := by decide +kernel
theorem dX1_whoMayBeAsked_29 : decode cX1_whoMayBeAsked 29 = .ok (.aload_n 0, 1) := by decide +kernel
theorem dX1_whoMayBeAsked_30 : decode cX1_whoMayBeAsked 30 = .ok (.aload_n 1, 1) := by decide +kernel
theorem dX1_whoMayBeAsked_31 : decode cX1_whoMayBeAsked 31 = .ok (.iload 4, 2) := by decide +kernel
theorem dX1_whoMayBeAsked_33 : decode cX1_whoMayBeAsked 33 = .ok (.iload_n 2, 1) := by decide +kernel
theorem dX1_whoMayBeAsked_34 : decode cX1_whoMayBeAsked 34 = .ok (.invokevirtual 92, 3) := by decide +kernel
theorem dX1_whoMayBeAsked_37 : decode cX1_whoMayBeAsked 37 = .ok (.ifCond .ne 10, 3) := by decide +kernel
theorem dX1_whoMayBeAsked_40 : decode cX1_whoMayBeAsked 40 = .ok (.iload_n 3, 1) := by decide +kernel
theorem dX1_whoMayBeAsked_41 : decode cX1_whoMayBeAsked 41 = .ok (.iconst 1, 1) := by decide +kernel
theorem dX1_whoMayBeAsked_42 : decode cX1_whoMayBeAsked 42 = .ok (.iload 4, 2) := by decide +kernel
theorem dX1_whoMayBeAsked_44 : decode cX1_whoMayBeAsked 44 = .ok (.ishl, 1) := by decide +kernel
theorem dX1_whoMayBeAsked_45 : decode cX1_whoMayBeAsked 45 = .ok (.ior, 1) := by decide +kernel
theorem dX1_whoMayBeAsked_46 : decode cX1_whoMayBeAsked 46 = .ok (.istore_n 3, 1) := by decide +kernel
theorem dX1_whoMayBeAsked_47 : decode cX1_whoMayBeAsked 47 = .ok (.iinc 4 1, 3) := by decide +kernel
theorem dX1_whoMayBeAsked_50 : decode cX1_whoMayBeAsked 50 = .ok (.goto (-45), 3) := by decide +kernel
theorem dX1_whoMayBeAsked_53 : decode cX1_whoMayBeAsked 53 = .ok (.iload_n 3, 1) := by decide +kernel
theorem dX1_whoMayBeAsked_54 : decode cX1_whoMayBeAsked 54 = .ok (.ireturn, 1) := by decide +kernel
set_option maxRecDepth 20000 in
theorem ggX1_takerBefore_X0_isForSame : GoodIn wsX1_takerBefore wsX0_isForSame := goodIn_r _ [5, 6, 7, 15, 16, 17, 18, 19, 20, 21, 22, 23, 24, 25, 26, 27, 28, 29] (by decide +kernel) (by decide +kernel)
set_option maxRecDepth 20000 in
theorem gX1_takerBefore_X0_isForSame_n95 : GoodIn wsX1_takerBefore (wsX0_isForSame) := ggX1_takerBefore_X0_isForSame
theorem dX1_takerBefore_0 : decode cX1_takerBefore 0 = .ok (.iload_n 1, 1) := by decide +kernel
theorem dX1_takerBefore_1 : decode cX1_takerBefore 1 = .ok (.iconst 1, 1) := by decide +kernel
theorem dX1_takerBefore_2 : decode cX1_takerBefore 2 = .ok (.isub, 1) := by decide +kernel
theorem dX1_takerBefore_3 : decode cX1_takerBefore 3 = .ok (.istore_n 2, 1) := by decide +kernel
theorem dX1_takerBefore_4 : decode cX1_takerBefore 4 = .ok (.iload_n 2, 1) := by decide +kernel
theorem dX1_takerBefore_5 : decode cX1_takerBefore 5 = .ok (.ifCond .lt 50, 3) := by decide +kernel
theorem dX1_takerBefore_8 : decode cX1_takerBefore 8 = .ok (.aload_n 0, 1) := by decide +kernel
theorem dX1_takerBefore_9 : decode cX1_takerBefore 9 = .ok (.getfield 11, 3) := by decide +kernel
theorem dX1_takerBefore_12 : decode cX1_takerBefore 12 = .ok (.iload_n 2, 1) := by decide +kernel
theorem dX1_takerBefore_13 : decode cX1_takerBefore 13 = .ok (.aaload, 1) := by decide +kernel
theorem dX1_takerBefore_14 : decode cX1_takerBefore 14 = .ok (.getfield 54, 3) := by decide +kernel
theorem dX1_takerBefore_17 : decode cX1_takerBefore 17 = .ok (.iconst 1, 1) := by decide +kernel
theorem dX1_takerBefore_18 : decode cX1_takerBefore 18 = .ok (.if_icmp .ne 31, 3) := by decide +kernel
theorem dX1_takerBefore_21 : decode cX1_takerBefore 21 = .ok (.aload_n 0, 1) := by decide +kernel
theorem dX1_takerBefore_22 : decode cX1_takerBefore 22 = .ok (.getfield 11, 3) := by decide +kernel
theorem dX1_takerBefore_25 : decode cX1_takerBefore 25 = .ok (.iload_n 2, 1) := by decide +kernel
theorem dX1_takerBefore_26 : decode cX1_takerBefore 26 = .ok (.aaload, 1) := by decide +kernel
theorem dX1_takerBefore_27 : decode cX1_takerBefore 27 = .ok (.aload_n 0, 1) := by decide +kernel
theorem dX1_takerBefore_28 : decode cX1_takerBefore 28 = .ok (.getfield 11, 3) := by decide +kernel
theorem dX1_takerBefore_31 : decode cX1_takerBefore 31 = .ok (.iload_n 1, 1) := by decide +kernel
theorem dX1_takerBefore_32 : decode cX1_takerBefore 32 = .ok (.aaload, 1) := by decide +kernel
theorem dX1_takerBefore_33 : decode cX1_takerBefore 33 = .ok (.invokevirtual 95, 3) := by decide +kernel
theorem dX1_takerBefore_36 : decode cX1_takerBefore 36 = .ok (.ifCond .eq 13, 3) := by decide +kernel
theorem dX1_takerBefore_39 : decode cX1_takerBefore 39 = .ok (.aload_n 0, 1) := by decide +kernel
theorem dX1_takerBefore_40 : decode cX1_takerBefore 40 = .ok (.getfield 11, 3) := by decide +kernel
theorem dX1_takerBefore_43 : decode cX1_takerBefore 43 = .ok (.iload_n 2, 1) := by decide +kernel
theorem dX1_takerBefore_44 : decode cX1_takerBefore 44 = .ok (.aaload, 1) := by decide +kernel
theorem dX1_takerBefore_45 : decode cX1_takerBefore 45 = .ok (.getfield 99, 3) := by decide +kernel
theorem dX1_takerBefore_48 : decode cX1_takerBefore 48 = .ok (.ireturn, 1) := by decide +kernel
theorem dX1_takerBefore_49 : decode cX1_takerBefore 49 = .ok (.iinc 2 (-1), 3) := by decide +kernel
theorem dX1_takerBefore_52 : decode cX1_takerBefore 52 = .ok (.goto (-48), 3) := by decide +kernel
theorem dX1_takerBefore_55 : decode cX1_takerBefore 55 = .ok (.iconst (-1), 1) := by decide +kernel
theorem dX1_takerBefore_56 : decode cX1_takerBefore 56 = .ok (.ireturn, 1) := by decide +kernel
set_option maxRecDepth 20000 in
theorem ggX1_firstByOrder_X2_tallyUpTo : GoodIn wsX1_firstByOrder wsX2_tallyUpTo := goodIn_r _ [6, 7, 8, 9, 10, 11, 12, 13, 14, 15, 4, 16, 17, 61, 62, 63, 64, 65, 66, 53, 54, 55, 56, 57, 58, 59, 60] (by decide +kernel) (by decide +kernel)
set_option maxRecDepth 20000 in
theorem gX1_firstByOrder_X2_tallyUpTo_n102 : GoodIn wsX1_firstByOrder (wsX2_tallyUpTo) := ggX1_firstByOrder_X2_tallyUpTo
set_option maxRecDepth 20000 in
theorem ggX1_firstByOrder_X1_minutesTo : GoodIn wsX1_firstByOrder wsX1_minutesTo := goodIn_r _ [22, 2, 23, 24, 25, 26, 27, 31, 32, 33, 34, 35, 36, 37, 53, 54, 55, 56, 57, 58, 59, 60, 38, 39, 40, 41, 42, 43, 44, 45, 46, 47, 48, 49, 50, 51, 52] (by decide +kernel) (by decide +kernel)
set_option maxRecDepth 20000 in
theorem gX1_firstByOrder_X1_minutesTo : GoodIn wsX1_firstByOrder (wsV RX1 108 RX1 yX1_minutesTo wsX1_minutesTo) := goodIn_app (goodIn_of _ (by decide +kernel)) ggX1_firstByOrder_X1_minutesTo
set_option maxRecDepth 20000 in
theorem ggX1_firstByOrder_X7_hasBit : GoodIn wsX1_firstByOrder wsX7_hasBit := goodIn_r _ [30] (by decide +kernel) (by decide +kernel)
set_option maxRecDepth 20000 in
theorem gX1_firstByOrder_X7_hasBit_n73 : GoodIn wsX1_firstByOrder (wsX7_hasBit) := ggX1_firstByOrder_X7_hasBit
theorem dX1_firstByOrder_0 : decode cX1_firstByOrder 0 = .ok (.iload_n 2, 1) := by decide +kernel
theorem dX1_firstByOrder_1 : decode cX1_firstByOrder 1 = .ok (.ifCond .ne 17, 3) := by decide +kernel
theorem dX1_firstByOrder_4 : decode cX1_firstByOrder 4 = .ok (.aload_n 0, 1) := by decide +kernel
theorem dX1_firstByOrder_5 : decode cX1_firstByOrder 5 = .ok (.getfield 32, 3) := by decide +kernel
theorem dX1_firstByOrder_8 : decode cX1_firstByOrder 8 = .ok (.aload_n 1, 1) := by decide +kernel
theorem dX1_firstByOrder_9 : decode cX1_firstByOrder 9 = .ok (.getfield 44, 3) := by decide +kernel
theorem dX1_firstByOrder_12 : decode cX1_firstByOrder 12 = .ok (.invokevirtual 102, 3) := by decide +kernel
theorem dX1_firstByOrder_15 : decode cX1_firstByOrder 15 = .ok (.goto 10, 3) := by decide +kernel
theorem dX1_firstByOrder_18 : decode cX1_firstByOrder 18 = .ok (.aload_n 0, 1) := by decide +kernel
theorem dX1_firstByOrder_19 : decode cX1_firstByOrder 19 = .ok (.getfield 24, 3) := by decide +kernel
theorem dX1_firstByOrder_22 : decode cX1_firstByOrder 22 = .ok (.getfield 105, 3) := by decide +kernel
theorem dX1_firstByOrder_25 : decode cX1_firstByOrder 25 = .ok (.astore 4, 2) := by decide +kernel
theorem dX1_firstByOrder_27 : decode cX1_firstByOrder 27 = .ok (.iconst (-1), 1) := by decide +kernel
theorem dX1_firstByOrder_28 : decode cX1_firstByOrder 28 = .ok (.istore 5, 2) := by decide +kernel
theorem dX1_firstByOrder_30 : decode cX1_firstByOrder 30 = .ok (.iconst 0, 1) := by decide +kernel
theorem dX1_firstByOrder_31 : decode cX1_firstByOrder 31 = .ok (.istore 6, 2) := by decide +kernel
theorem dX1_firstByOrder_33 : decode cX1_firstByOrder 33 = .ok (.iconst 0, 1) := by decide +kernel
theorem dX1_firstByOrder_34 : decode cX1_firstByOrder 34 = .ok (.istore 7, 2) := by decide +kernel
theorem dX1_firstByOrder_36 : decode cX1_firstByOrder 36 = .ok (.iload 7, 2) := by decide +kernel
theorem dX1_firstByOrder_38 : decode cX1_firstByOrder 38 = .ok (.aload_n 0, 1) := by decide +kernel
theorem dX1_firstByOrder_39 : decode cX1_firstByOrder 39 = .ok (.getfield 24, 3) := by decide +kernel
theorem dX1_firstByOrder_42 : decode cX1_firstByOrder 42 = .ok (.getfield 89, 3) := by decide +kernel
theorem dX1_firstByOrder_45 : decode cX1_firstByOrder 45 = .ok (.if_icmp .ge 65, 3) := by decide +kernel
theorem dX1_firstByOrder_48 : decode cX1_firstByOrder 48 = .ok (.iload_n 2, 1) := by decide +kernel
theorem dX1_firstByOrder_49 : decode cX1_firstByOrder 49 = .ok (.ifCond .eq 8, 3) := by decide +kernel
theorem dX1_firstByOrder_52 : decode cX1_firstByOrder 52 = .ok (.iload_n 2, 1) := by decide +kernel
theorem dX1_firstByOrder_53 : decode cX1_firstByOrder 53 = .ok (.iconst 1, 1) := by decide +kernel
theorem dX1_firstByOrder_54 : decode cX1_firstByOrder 54 = .ok (.if_icmp .ne 11, 3) := by decide +kernel
theorem dX1_firstByOrder_57 : decode cX1_firstByOrder 57 = .ok (.aload 4, 2) := by decide +kernel
theorem dX1_firstByOrder_59 : decode cX1_firstByOrder 59 = .ok (.iload 7, 2) := by decide +kernel
theorem dX1_firstByOrder_61 : decode cX1_firstByOrder 61 = .ok (.iaload, 1) := by decide +kernel
theorem dX1_firstByOrder_62 : decode cX1_firstByOrder 62 = .ok (.goto 10, 3) := by decide +kernel
theorem dX1_firstByOrder_65 : decode cX1_firstByOrder 65 = .ok (.aload_n 0, 1) := by decide +kernel
theorem dX1_firstByOrder_66 : decode cX1_firstByOrder 66 = .ok (.aload_n 1, 1) := by decide +kernel
theorem dX1_firstByOrder_67 : decode cX1_firstByOrder 67 = .ok (.iload 7, 2) := by decide +kernel
theorem dX1_firstByOrder_69 : decode cX1_firstByOrder 69 = .ok (.invokevirtual 108, 3) := by decide +kernel
theorem dX1_firstByOrder_72 : decode cX1_firstByOrder 72 = .ok (.istore 8, 2) := by decide +kernel
theorem dX1_firstByOrder_74 : decode cX1_firstByOrder 74 = .ok (.iload_n 3, 1) := by decide +kernel
theorem dX1_firstByOrder_75 : decode cX1_firstByOrder 75 = .ok (.iload 7, 2) := by decide +kernel
theorem dX1_firstByOrder_77 : decode cX1_firstByOrder 77 = .ok (.invokestatic 73, 3) := by decide +kernel
theorem dX1_firstByOrder_80 : decode cX1_firstByOrder 80 = .ok (.ifCond .eq 24, 3) := by decide +kernel
theorem dX1_firstByOrder_83 : decode cX1_firstByOrder 83 = .ok (.iload 5, 2) := by decide +kernel
theorem dX1_firstByOrder_85 : decode cX1_firstByOrder 85 = .ok (.iconst (-1), 1) := by decide +kernel
theorem dX1_firstByOrder_86 : decode cX1_firstByOrder 86 = .ok (.if_icmp .eq 10, 3) := by decide +kernel
theorem dX1_firstByOrder_89 : decode cX1_firstByOrder 89 = .ok (.iload 8, 2) := by decide +kernel
theorem dX1_firstByOrder_91 : decode cX1_firstByOrder 91 = .ok (.iload 6, 2) := by decide +kernel
theorem dX1_firstByOrder_93 : decode cX1_firstByOrder 93 = .ok (.if_icmp .ge 11, 3) := by decide +kernel
theorem dX1_firstByOrder_96 : decode cX1_firstByOrder 96 = .ok (.iload 7, 2) := by decide +kernel
theorem dX1_firstByOrder_98 : decode cX1_firstByOrder 98 = .ok (.istore 5, 2) := by decide +kernel
theorem dX1_firstByOrder_100 : decode cX1_firstByOrder 100 = .ok (.iload 8, 2) := by decide +kernel
theorem dX1_firstByOrder_102 : decode cX1_firstByOrder 102 = .ok (.istore 6, 2) := by decide +kernel
theorem dX1_firstByOrder_104 : decode cX1_firstByOrder 104 = .ok (.iinc 7 1, 3) := by decide +kernel
theorem dX1_firstByOrder_107 : decode cX1_firstByOrder 107 = .ok (.goto (-71), 3) := by decide +kernel
theorem dX1_firstByOrder_110 : decode cX1_firstByOrder 110 = .ok (.iload 5, 2) := by decide +kernel
theorem dX1_firstByOrder_112 : decode cX1_firstByOrder 112 = .ok (.ireturn, 1) := by decide +kernel
set_option maxRecDepth 20000 in
theorem ggX1_minutesTo_X3_minutesBetween : GoodIn wsX1_minutesTo wsX3_minutesBetween := goodIn_r _ [5, 6, 14, 15, 16, 17, 18, 19, 20, 21] (by decide +kernel) (by decide +kernel)
set_option maxRecDepth 20000 in
theorem gX1_minutesTo_X3_minutesBetween_n116 : GoodIn wsX1_minutesTo (wsX3_minutesBetween) := ggX1_minutesTo_X3_minutesBetween
theorem dX1_minutesTo_0 : decode cX1_minutesTo 0 = .ok (.aload_n 0, 1) := by decide +kernel
theorem dX1_minutesTo_1 : decode cX1_minutesTo 1 = .ok (.getfield 24, 3) := by decide +kernel
theorem dX1_minutesTo_4 : decode cX1_minutesTo 4 = .ok (.aload_n 0, 1) := by decide +kernel
theorem dX1_minutesTo_5 : decode cX1_minutesTo 5 = .ok (.getfield 24, 3) := by decide +kernel
theorem dX1_minutesTo_8 : decode cX1_minutesTo 8 = .ok (.getfield 111, 3) := by decide +kernel
theorem dX1_minutesTo_11 : decode cX1_minutesTo 11 = .ok (.iload_n 2, 1) := by decide +kernel
theorem dX1_minutesTo_12 : decode cX1_minutesTo 12 = .ok (.iaload, 1) := by decide +kernel
theorem dX1_minutesTo_13 : decode cX1_minutesTo 13 = .ok (.aload_n 1, 1) := by decide +kernel
theorem dX1_minutesTo_14 : decode cX1_minutesTo 14 = .ok (.getfield 114, 3) := by decide +kernel
theorem dX1_minutesTo_17 : decode cX1_minutesTo 17 = .ok (.invokevirtual 116, 3) := by decide +kernel
theorem dX1_minutesTo_20 : decode cX1_minutesTo 20 = .ok (.ireturn, 1) := by decide +kernel
set_option maxRecDepth 20000 in
theorem ggX1_reasonsAgainst_X3_isOn : GoodIn wsX1_reasonsAgainst wsX3_isOn := goodIn_r _ [5, 6, 7, 8, 9, 72, 73, 74, 75, 76, 77, 78, 79] (by decide +kernel) (by decide +kernel)
set_option maxRecDepth 20000 in
theorem gX1_reasonsAgainst_X3_isOn_n119 : GoodIn wsX1_reasonsAgainst (wsX3_isOn) := ggX1_reasonsAgainst_X3_isOn
set_option maxRecDepth 20000 in
theorem ggX1_reasonsAgainst_X3_isThere : GoodIn wsX1_reasonsAgainst wsX3_isThere := goodIn_r _ [12, 13, 7, 8, 9, 14, 15, 16, 3, 17, 18, 72, 73, 74, 75, 76, 77, 78, 79] (by decide +kernel) (by decide +kernel)
set_option maxRecDepth 20000 in
theorem gX1_reasonsAgainst_X3_isThere_n122 : GoodIn wsX1_reasonsAgainst (wsX3_isThere) := ggX1_reasonsAgainst_X3_isThere
set_option maxRecDepth 20000 in
theorem ggX1_reasonsAgainst_X3_speaks : GoodIn wsX1_reasonsAgainst wsX3_speaks := goodIn_r _ [21, 22, 7, 8, 9, 72, 73, 74, 75, 76, 77, 78, 79] (by decide +kernel) (by decide +kernel)
set_option maxRecDepth 20000 in
theorem gX1_reasonsAgainst_X3_speaks_n128 : GoodIn wsX1_reasonsAgainst (wsX3_speaks) := ggX1_reasonsAgainst_X3_speaks
set_option maxRecDepth 20000 in
theorem ggX1_reasonsAgainst_X1_minutesTo : GoodIn wsX1_reasonsAgainst wsX1_minutesTo := goodIn_r _ [27, 1, 28, 3, 29, 30, 31, 50, 51, 52, 53, 54, 55, 56, 72, 73, 74, 75, 76, 77, 78, 79, 57, 58, 59, 60, 61, 62, 63, 64, 65, 66, 67, 68, 69, 70, 71] (by decide +kernel) (by decide +kernel)
set_option maxRecDepth 20000 in
theorem gX1_reasonsAgainst_X1_minutesTo : GoodIn wsX1_reasonsAgainst (wsV RX1 108 RX1 yX1_minutesTo wsX1_minutesTo) := goodIn_app (goodIn_of _ (by decide +kernel)) ggX1_reasonsAgainst_X1_minutesTo
set_option maxRecDepth 20000 in
theorem ggX1_reasonsAgainst_X1_barsThatHold : GoodIn wsX1_reasonsAgainst wsX1_barsThatHold := goodIn_r _ [35, 36, 1, 37, 38, 39, 26, 40, 41, 42, 43, 7, 8, 9, 44, 45, 46, 47, 48, 49, 50, 51, 52, 53, 54, 55, 56, 57, 58, 59, 60, 61, 62, 63, 64, 65, 66, 67, 68, 69, 70, 71, 72, 73, 74, 75, 76, 77, 78, 79] (by decide +kernel) (by decide +kernel)
set_option maxRecDepth 20000 in
theorem gX1_reasonsAgainst_X1_barsThatHold : GoodIn wsX1_reasonsAgainst (wsV RX1 131 RX1 yX1_barsThatHold wsX1_barsThatHold) := goodIn_app (goodIn_of _ (by decide +kernel)) ggX1_reasonsAgainst_X1_barsThatHold
theorem dX1_reasonsAgainst_0 : decode cX1_reasonsAgainst 0 = .ok (.aload_n 0, 1) := by decide +kernel
theorem dX1_reasonsAgainst_1 : decode cX1_reasonsAgainst 1 = .ok (.getfield 24, 3) := by decide +kernel
theorem dX1_reasonsAgainst_4 : decode cX1_reasonsAgainst 4 = .ok (.iload_n 2, 1) := by decide +kernel
theorem dX1_reasonsAgainst_5 : decode cX1_reasonsAgainst 5 = .ok (.aload_n 1, 1) := by decide +kernel
theorem dX1_reasonsAgainst_6 : decode cX1_reasonsAgainst 6 = .ok (.getfield 76, 3) := by decide +kernel
theorem dX1_reasonsAgainst_9 : decode cX1_reasonsAgainst 9 = .ok (.invokevirtual 119, 3) := by decide +kernel
theorem dX1_reasonsAgainst_12 : decode cX1_reasonsAgainst 12 = .ok (.ifCond .eq 7, 3) := by decide +kernel
theorem dX1_reasonsAgainst_15 : decode cX1_reasonsAgainst 15 = .ok (.iconst 0, 1) := by decide +kernel
theorem dX1_reasonsAgainst_16 : decode cX1_reasonsAgainst 16 = .ok (.goto 4, 3) := by decide +kernel
theorem dX1_reasonsAgainst_19 : decode cX1_reasonsAgainst 19 = .ok (.iconst 1, 1) := by decide +kernel
theorem dX1_reasonsAgainst_20 : decode cX1_reasonsAgainst 20 = .ok (.istore 4, 2) := by decide +kernel
theorem dX1_reasonsAgainst_22 : decode cX1_reasonsAgainst 22 = .ok (.aload_n 0, 1) := by decide +kernel
theorem dX1_reasonsAgainst_23 : decode cX1_reasonsAgainst 23 = .ok (.getfield 24, 3) := by decide +kernel
theorem dX1_reasonsAgainst_26 : decode cX1_reasonsAgainst 26 = .ok (.iload_n 2, 1) := by decide +kernel
theorem dX1_reasonsAgainst_27 : decode cX1_reasonsAgainst 27 = .ok (.aload_n 1, 1) := by decide +kernel
theorem dX1_reasonsAgainst_28 : decode cX1_reasonsAgainst 28 = .ok (.getfield 44, 3) := by decide +kernel
theorem dX1_reasonsAgainst_31 : decode cX1_reasonsAgainst 31 = .ok (.invokevirtual 122, 3) := by decide +kernel
theorem dX1_reasonsAgainst_34 : decode cX1_reasonsAgainst 34 = .ok (.ifCond .ne 9, 3) := by decide +kernel
theorem dX1_reasonsAgainst_37 : decode cX1_reasonsAgainst 37 = .ok (.iload 4, 2) := by decide +kernel
theorem dX1_reasonsAgainst_39 : decode cX1_reasonsAgainst 39 = .ok (.iconst 2, 1) := by decide +kernel
theorem dX1_reasonsAgainst_40 : decode cX1_reasonsAgainst 40 = .ok (.ior, 1) := by decide +kernel
theorem dX1_reasonsAgainst_41 : decode cX1_reasonsAgainst 41 = .ok (.istore 4, 2) := by decide +kernel
theorem dX1_reasonsAgainst_43 : decode cX1_reasonsAgainst 43 = .ok (.aload_n 0, 1) := by decide +kernel
theorem dX1_reasonsAgainst_44 : decode cX1_reasonsAgainst 44 = .ok (.getfield 24, 3) := by decide +kernel
theorem dX1_reasonsAgainst_47 : decode cX1_reasonsAgainst 47 = .ok (.iload_n 2, 1) := by decide +kernel
theorem dX1_reasonsAgainst_48 : decode cX1_reasonsAgainst 48 = .ok (.aload_n 1, 1) := by decide +kernel
theorem dX1_reasonsAgainst_49 : decode cX1_reasonsAgainst 49 = .ok (.getfield 125, 3) := by decide +kernel
theorem dX1_reasonsAgainst_52 : decode cX1_reasonsAgainst 52 = .ok (.invokevirtual 128, 3) := by decide +kernel
theorem dX1_reasonsAgainst_55 : decode cX1_reasonsAgainst 55 = .ok (.ifCond .ne 9, 3) := by decide +kernel
theorem dX1_reasonsAgainst_58 : decode cX1_reasonsAgainst 58 = .ok (.iload 4, 2) := by decide +kernel
theorem dX1_reasonsAgainst_60 : decode cX1_reasonsAgainst 60 = .ok (.iconst 4, 1) := by decide +kernel
theorem dX1_reasonsAgainst_61 : decode cX1_reasonsAgainst 61 = .ok (.ior, 1) := by decide +kernel
theorem dX1_reasonsAgainst_62 : decode cX1_reasonsAgainst 62 = .ok (.istore 4, 2) := by decide +kernel
theorem dX1_reasonsAgainst_64 : decode cX1_reasonsAgainst 64 = .ok (.aload_n 0, 1) := by decide +kernel
theorem dX1_reasonsAgainst_65 : decode cX1_reasonsAgainst 65 = .ok (.aload_n 1, 1) := by decide +kernel
theorem dX1_reasonsAgainst_66 : decode cX1_reasonsAgainst 66 = .ok (.iload_n 2, 1) := by decide +kernel
theorem dX1_reasonsAgainst_67 : decode cX1_reasonsAgainst 67 = .ok (.invokevirtual 108, 3) := by decide +kernel
theorem dX1_reasonsAgainst_70 : decode cX1_reasonsAgainst 70 = .ok (.iconst (-1), 1) := by decide +kernel
theorem dX1_reasonsAgainst_71 : decode cX1_reasonsAgainst 71 = .ok (.if_icmp .ne 10, 3) := by decide +kernel
theorem dX1_reasonsAgainst_74 : decode cX1_reasonsAgainst 74 = .ok (.iload 4, 2) := by decide +kernel
theorem dX1_reasonsAgainst_76 : decode cX1_reasonsAgainst 76 = .ok (.bipush 8, 2) := by decide +kernel
theorem dX1_reasonsAgainst_78 : decode cX1_reasonsAgainst 78 = .ok (.ior, 1) := by decide +kernel
theorem dX1_reasonsAgainst_79 : decode cX1_reasonsAgainst 79 = .ok (.istore 4, 2) := by decide +kernel
theorem dX1_reasonsAgainst_81 : decode cX1_reasonsAgainst 81 = .ok (.iload 4, 2) := by decide +kernel
theorem dX1_reasonsAgainst_83 : decode cX1_reasonsAgainst 83 = .ok (.aload_n 0, 1) := by decide +kernel
theorem dX1_reasonsAgainst_84 : decode cX1_reasonsAgainst 84 = .ok (.aload_n 1, 1) := by decide +kernel
theorem dX1_reasonsAgainst_85 : decode cX1_reasonsAgainst 85 = .ok (.iload_n 2, 1) := by decide +kernel
theorem dX1_reasonsAgainst_86 : decode cX1_reasonsAgainst 86 = .ok (.iload_n 3, 1) := by decide +kernel
theorem dX1_reasonsAgainst_87 : decode cX1_reasonsAgainst 87 = .ok (.invokevirtual 131, 3) := by decide +kernel
theorem dX1_reasonsAgainst_90 : decode cX1_reasonsAgainst 90 = .ok (.iconst 4, 1) := by decide +kernel
theorem dX1_reasonsAgainst_91 : decode cX1_reasonsAgainst 91 = .ok (.ishl, 1) := by decide +kernel
theorem dX1_reasonsAgainst_92 : decode cX1_reasonsAgainst 92 = .ok (.ior, 1) := by decide +kernel
theorem dX1_reasonsAgainst_93 : decode cX1_reasonsAgainst 93 = .ok (.ireturn, 1) := by decide +kernel
set_option maxRecDepth 20000 in
theorem ggX1_barsThatHold_X1_tookFellow : GoodIn wsX1_barsThatHold wsX1_tookFellow := goodIn_r _ [7, 8, 9, 10, 11, 12, 13, 14, 15, 16, 17, 18, 19, 20, 21, 22, 23, 24, 25, 26, 27, 28, 29, 30, 31, 32, 33, 34, 35, 36, 37, 38, 39, 40, 41] (by decide +kernel) (by decide +kernel)
set_option maxRecDepth 20000 in
theorem gX1_barsThatHold_X1_tookFellow : GoodIn wsX1_barsThatHold (wsV RX1 134 RX1 yX1_tookFellow wsX1_tookFellow) := goodIn_app (goodIn_of _ (by decide +kernel)) ggX1_barsThatHold_X1_tookFellow
set_option maxRecDepth 20000 in
theorem ggX1_barsThatHold_X7_hasBit : GoodIn wsX1_barsThatHold wsX7_hasBit := goodIn_r _ [13] (by decide +kernel) (by decide +kernel)
set_option maxRecDepth 20000 in
theorem gX1_barsThatHold_X7_hasBit_n73 : GoodIn wsX1_barsThatHold (wsX7_hasBit) := ggX1_barsThatHold_X7_hasBit
theorem dX1_barsThatHold_0 : decode cX1_barsThatHold 0 = .ok (.iconst 0, 1) := by decide +kernel
theorem dX1_barsThatHold_1 : decode cX1_barsThatHold 1 = .ok (.istore 4, 2) := by decide +kernel
theorem dX1_barsThatHold_3 : decode cX1_barsThatHold 3 = .ok (.iload_n 3, 1) := by decide +kernel
theorem dX1_barsThatHold_4 : decode cX1_barsThatHold 4 = .ok (.iconst 1, 1) := by decide +kernel
theorem dX1_barsThatHold_5 : decode cX1_barsThatHold 5 = .ok (.iand, 1) := by decide +kernel
theorem dX1_barsThatHold_6 : decode cX1_barsThatHold 6 = .ok (.ifCond .eq 18, 3) := by decide +kernel
theorem dX1_barsThatHold_9 : decode cX1_barsThatHold 9 = .ok (.aload_n 0, 1) := by decide +kernel
theorem dX1_barsThatHold_10 : decode cX1_barsThatHold 10 = .ok (.aload_n 1, 1) := by decide +kernel
theorem dX1_barsThatHold_11 : decode cX1_barsThatHold 11 = .ok (.iload_n 2, 1) := by decide +kernel
theorem dX1_barsThatHold_12 : decode cX1_barsThatHold 12 = .ok (.invokevirtual 134, 3) := by decide +kernel
theorem dX1_barsThatHold_15 : decode cX1_barsThatHold 15 = .ok (.ifCond .eq 9, 3) := by decide +kernel
theorem dX1_barsThatHold_18 : decode cX1_barsThatHold 18 = .ok (.iload 4, 2) := by decide +kernel
theorem dX1_barsThatHold_20 : decode cX1_barsThatHold 20 = .ok (.iconst 1, 1) := by decide +kernel
theorem dX1_barsThatHold_21 : decode cX1_barsThatHold 21 = .ok (.ior, 1) := by decide +kernel
theorem dX1_barsThatHold_22 : decode cX1_barsThatHold 22 = .ok (.istore 4, 2) := by decide +kernel
theorem dX1_barsThatHold_24 : decode cX1_barsThatHold 24 = .ok (.iload_n 3, 1) := by decide +kernel
theorem dX1_barsThatHold_25 : decode cX1_barsThatHold 25 = .ok (.iconst 2, 1) := by decide +kernel
theorem dX1_barsThatHold_26 : decode cX1_barsThatHold 26 = .ok (.iand, 1) := by decide +kernel
theorem dX1_barsThatHold_27 : decode cX1_barsThatHold 27 = .ok (.ifCond .eq 25, 3) := by decide +kernel
theorem dX1_barsThatHold_30 : decode cX1_barsThatHold 30 = .ok (.aload_n 0, 1) := by decide +kernel
theorem dX1_barsThatHold_31 : decode cX1_barsThatHold 31 = .ok (.getfield 17, 3) := by decide +kernel
theorem dX1_barsThatHold_34 : decode cX1_barsThatHold 34 = .ok (.aload_n 1, 1) := by decide +kernel
theorem dX1_barsThatHold_35 : decode cX1_barsThatHold 35 = .ok (.getfield 138, 3) := by decide +kernel
theorem dX1_barsThatHold_38 : decode cX1_barsThatHold 38 = .ok (.iaload, 1) := by decide +kernel
theorem dX1_barsThatHold_39 : decode cX1_barsThatHold 39 = .ok (.iload_n 2, 1) := by decide +kernel
theorem dX1_barsThatHold_40 : decode cX1_barsThatHold 40 = .ok (.invokestatic 73, 3) := by decide +kernel
theorem dX1_barsThatHold_43 : decode cX1_barsThatHold 43 = .ok (.ifCond .eq 9, 3) := by decide +kernel
theorem dX1_barsThatHold_46 : decode cX1_barsThatHold 46 = .ok (.iload 4, 2) := by decide +kernel
theorem dX1_barsThatHold_48 : decode cX1_barsThatHold 48 = .ok (.iconst 2, 1) := by decide +kernel
theorem dX1_barsThatHold_49 : decode cX1_barsThatHold 49 = .ok (.ior, 1) := by decide +kernel
theorem dX1_barsThatHold_50 : decode cX1_barsThatHold 50 = .ok (.istore 4, 2) := by decide +kernel
theorem dX1_barsThatHold_52 : decode cX1_barsThatHold 52 = .ok (.iload_n 3, 1) := by decide +kernel
theorem dX1_barsThatHold_53 : decode cX1_barsThatHold 53 = .ok (.iconst 4, 1) := by decide +kernel
theorem dX1_barsThatHold_54 : decode cX1_barsThatHold 54 = .ok (.iand, 1) := by decide +kernel
theorem dX1_barsThatHold_55 : decode cX1_barsThatHold 55 = .ok (.ifCond .eq 25, 3) := by decide +kernel
theorem dX1_barsThatHold_58 : decode cX1_barsThatHold 58 = .ok (.aload_n 0, 1) := by decide +kernel
theorem dX1_barsThatHold_59 : decode cX1_barsThatHold 59 = .ok (.getfield 24, 3) := by decide +kernel
theorem dX1_barsThatHold_62 : decode cX1_barsThatHold 62 = .ok (.getfield 111, 3) := by decide +kernel
theorem dX1_barsThatHold_65 : decode cX1_barsThatHold 65 = .ok (.iload_n 2, 1) := by decide +kernel
theorem dX1_barsThatHold_66 : decode cX1_barsThatHold 66 = .ok (.iaload, 1) := by decide +kernel
theorem dX1_barsThatHold_67 : decode cX1_barsThatHold 67 = .ok (.aload_n 1, 1) := by decide +kernel
theorem dX1_barsThatHold_68 : decode cX1_barsThatHold 68 = .ok (.getfield 114, 3) := by decide +kernel
theorem dX1_barsThatHold_71 : decode cX1_barsThatHold 71 = .ok (.if_icmp .ne 9, 3) := by decide +kernel
theorem dX1_barsThatHold_74 : decode cX1_barsThatHold 74 = .ok (.iload 4, 2) := by decide +kernel
theorem dX1_barsThatHold_76 : decode cX1_barsThatHold 76 = .ok (.iconst 4, 1) := by decide +kernel
theorem dX1_barsThatHold_77 : decode cX1_barsThatHold 77 = .ok (.ior, 1) := by decide +kernel
theorem dX1_barsThatHold_78 : decode cX1_barsThatHold 78 = .ok (.istore 4, 2) := by decide +kernel
theorem dX1_barsThatHold_80 : decode cX1_barsThatHold 80 = .ok (.iload 4, 2) := by decide +kernel
theorem dX1_barsThatHold_82 : decode cX1_barsThatHold 82 = .ok (.ireturn, 1) := by decide +kernel
set_option maxRecDepth 20000 in
theorem ggX1_tookFellow_X7_hasBit : GoodIn wsX1_tookFellow wsX7_hasBit := goodIn_r _ [6] (by decide +kernel) (by decide +kernel)
set_option maxRecDepth 20000 in
theorem gX1_tookFellow_X7_hasBit_n73 : GoodIn wsX1_tookFellow (wsX7_hasBit) := ggX1_tookFellow_X7_hasBit
set_option maxRecDepth 20000 in
theorem ggX1_tookFellow_X0_isFellowOf : GoodIn wsX1_tookFellow wsX0_isFellowOf := goodIn_r _ [10, 11, 12, 20, 21, 22, 23, 24, 25, 26, 27, 28, 29, 30, 31, 32, 33, 34] (by decide +kernel) (by decide +kernel)
set_option maxRecDepth 20000 in
theorem gX1_tookFellow_X0_isFellowOf_n144 : GoodIn wsX1_tookFellow (wsX0_isFellowOf) := ggX1_tookFellow_X0_isFellowOf
theorem dX1_tookFellow_0 : decode cX1_tookFellow 0 = .ok (.aload_n 0, 1) := by decide +kernel
theorem dX1_tookFellow_1 : decode cX1_tookFellow 1 = .ok (.getfield 21, 3) := by decide +kernel
theorem dX1_tookFellow_4 : decode cX1_tookFellow 4 = .ok (.aload_n 1, 1) := by decide +kernel
theorem dX1_tookFellow_5 : decode cX1_tookFellow 5 = .ok (.getfield 138, 3) := by decide +kernel
theorem dX1_tookFellow_8 : decode cX1_tookFellow 8 = .ok (.iaload, 1) := by decide +kernel
theorem dX1_tookFellow_9 : decode cX1_tookFellow 9 = .ok (.istore_n 3, 1) := by decide +kernel
theorem dX1_tookFellow_10 : decode cX1_tookFellow 10 = .ok (.iload_n 3, 1) := by decide +kernel
theorem dX1_tookFellow_11 : decode cX1_tookFellow 11 = .ok (.aload_n 1, 1) := by decide +kernel
theorem dX1_tookFellow_12 : decode cX1_tookFellow 12 = .ok (.getfield 141, 3) := by decide +kernel
theorem dX1_tookFellow_15 : decode cX1_tookFellow 15 = .ok (.invokestatic 73, 3) := by decide +kernel
theorem dX1_tookFellow_18 : decode cX1_tookFellow 18 = .ok (.ifCond .eq 5, 3) := by decide +kernel
theorem dX1_tookFellow_21 : decode cX1_tookFellow 21 = .ok (.iconst 0, 1) := by decide +kernel
theorem dX1_tookFellow_22 : decode cX1_tookFellow 22 = .ok (.ireturn, 1) := by decide +kernel
theorem dX1_tookFellow_23 : decode cX1_tookFellow 23 = .ok (.iconst 0, 1) := by decide +kernel
theorem dX1_tookFellow_24 : decode cX1_tookFellow 24 = .ok (.istore 4, 2) := by decide +kernel
theorem dX1_tookFellow_26 : decode cX1_tookFellow 26 = .ok (.iload 4, 2) := by decide +kernel
theorem dX1_tookFellow_28 : decode cX1_tookFellow 28 = .ok (.aload_n 0, 1) := by decide +kernel
theorem dX1_tookFellow_29 : decode cX1_tookFellow 29 = .ok (.getfield 36, 3) := by decide +kernel
theorem dX1_tookFellow_32 : decode cX1_tookFellow 32 = .ok (.if_icmp .ge 50, 3) := by decide +kernel
theorem dX1_tookFellow_35 : decode cX1_tookFellow 35 = .ok (.aload_n 0, 1) := by decide +kernel
theorem dX1_tookFellow_36 : decode cX1_tookFellow 36 = .ok (.getfield 11, 3) := by decide +kernel
theorem dX1_tookFellow_39 : decode cX1_tookFellow 39 = .ok (.iload 4, 2) := by decide +kernel
theorem dX1_tookFellow_41 : decode cX1_tookFellow 41 = .ok (.aaload, 1) := by decide +kernel
theorem dX1_tookFellow_42 : decode cX1_tookFellow 42 = .ok (.astore 5, 2) := by decide +kernel
theorem dX1_tookFellow_44 : decode cX1_tookFellow 44 = .ok (.aload 5, 2) := by decide +kernel
theorem dX1_tookFellow_46 : decode cX1_tookFellow 46 = .ok (.getfield 99, 3) := by decide +kernel
theorem dX1_tookFellow_49 : decode cX1_tookFellow 49 = .ok (.iload_n 2, 1) := by decide +kernel
theorem dX1_tookFellow_50 : decode cX1_tookFellow 50 = .ok (.if_icmp .ne 26, 3) := by decide +kernel
theorem dX1_tookFellow_53 : decode cX1_tookFellow 53 = .ok (.aload 5, 2) := by decide +kernel
theorem dX1_tookFellow_55 : decode cX1_tookFellow 55 = .ok (.aload_n 1, 1) := by decide +kernel
theorem dX1_tookFellow_56 : decode cX1_tookFellow 56 = .ok (.invokevirtual 144, 3) := by decide +kernel
theorem dX1_tookFellow_59 : decode cX1_tookFellow 59 = .ok (.ifCond .eq 17, 3) := by decide +kernel
theorem dX1_tookFellow_62 : decode cX1_tookFellow 62 = .ok (.iload_n 3, 1) := by decide +kernel
theorem dX1_tookFellow_63 : decode cX1_tookFellow 63 = .ok (.aload 5, 2) := by decide +kernel
theorem dX1_tookFellow_65 : decode cX1_tookFellow 65 = .ok (.getfield 141, 3) := by decide +kernel
theorem dX1_tookFellow_68 : decode cX1_tookFellow 68 = .ok (.invokestatic 73, 3) := by decide +kernel
theorem dX1_tookFellow_71 : decode cX1_tookFellow 71 = .ok (.ifCond .ne 5, 3) := by decide +kernel
theorem dX1_tookFellow_74 : decode cX1_tookFellow 74 = .ok (.iconst 1, 1) := by decide +kernel
theorem dX1_tookFellow_75 : decode cX1_tookFellow 75 = .ok (.ireturn, 1) := by decide +kernel
theorem dX1_tookFellow_76 : decode cX1_tookFellow 76 = .ok (.iinc 4 1, 3) := by decide +kernel
theorem dX1_tookFellow_79 : decode cX1_tookFellow 79 = .ok (.goto (-53), 3) := by decide +kernel
theorem dX1_tookFellow_82 : decode cX1_tookFellow 82 = .ok (.iconst 0, 1) := by decide +kernel
theorem dX1_tookFellow_83 : decode cX1_tookFellow 83 = .ok (.ireturn, 1) := by decide +kernel
set_option maxRecDepth 20000 in
theorem ggX1_take_X1_minutesTo : GoodIn wsX1_take wsX1_minutesTo := goodIn_r _ [13, 8, 14, 15, 16, 17, 18, 38, 39, 40, 41, 42, 43, 44, 60, 61, 62, 63, 64, 65, 66, 67, 45, 46, 47, 48, 49, 50, 51, 52, 53, 54, 55, 56, 57, 58, 59] (by decide +kernel) (by decide +kernel)
set_option maxRecDepth 20000 in
theorem gX1_take_X1_minutesTo : GoodIn wsX1_take (wsV RX1 108 RX1 yX1_minutesTo wsX1_minutesTo) := goodIn_app (goodIn_of _ (by decide +kernel)) ggX1_take_X1_minutesTo
set_option maxRecDepth 20000 in
theorem ggX1_take_X6_textNow : GoodIn wsX1_take wsX6_textNow := goodIn_r _ [22, 23, 24, 25, 26, 20, 27, 28, 29, 30, 31, 32, 68, 69] (by decide +kernel) (by decide +kernel)
set_option maxRecDepth 20000 in
theorem gX1_take_X6_textNow_n60 : GoodIn wsX1_take (wsX6_textNow) := ggX1_take_X6_textNow
set_option maxRecDepth 20000 in
theorem ggX1_take_X2_holder : GoodIn wsX1_take wsX2_holder := goodIn_r _ [36, 37, 70, 71, 72, 73, 74, 75] (by decide +kernel) (by decide +kernel)
set_option maxRecDepth 20000 in
theorem gX1_take_X2_holder_n79 : GoodIn wsX1_take (wsX2_holder) := ggX1_take_X2_holder
theorem dX1_take_0 : decode cX1_take 0 = .ok (.aload_n 0, 1) := by decide +kernel
theorem dX1_take_1 : decode cX1_take 1 = .ok (.getfield 11, 3) := by decide +kernel
theorem dX1_take_4 : decode cX1_take 4 = .ok (.iload_n 1, 1) := by decide +kernel
theorem dX1_take_5 : decode cX1_take 5 = .ok (.aaload, 1) := by decide +kernel
theorem dX1_take_6 : decode cX1_take 6 = .ok (.astore_n 2, 1) := by decide +kernel
theorem dX1_take_7 : decode cX1_take 7 = .ok (.aload_n 2, 1) := by decide +kernel
theorem dX1_take_8 : decode cX1_take 8 = .ok (.getfield 51, 3) := by decide +kernel
theorem dX1_take_11 : decode cX1_take 11 = .ok (.istore_n 3, 1) := by decide +kernel
theorem dX1_take_12 : decode cX1_take 12 = .ok (.aload_n 2, 1) := by decide +kernel
theorem dX1_take_13 : decode cX1_take 13 = .ok (.iconst 1, 1) := by decide +kernel
theorem dX1_take_14 : decode cX1_take 14 = .ok (.putfield 54, 3) := by decide +kernel
theorem dX1_take_17 : decode cX1_take 17 = .ok (.aload_n 2, 1) := by decide +kernel
theorem dX1_take_18 : decode cX1_take 18 = .ok (.iconst (-1), 1) := by decide +kernel
theorem dX1_take_19 : decode cX1_take 19 = .ok (.putfield 51, 3) := by decide +kernel
theorem dX1_take_22 : decode cX1_take 22 = .ok (.aload_n 2, 1) := by decide +kernel
theorem dX1_take_23 : decode cX1_take 23 = .ok (.iload_n 3, 1) := by decide +kernel
theorem dX1_take_24 : decode cX1_take 24 = .ok (.putfield 99, 3) := by decide +kernel
theorem dX1_take_27 : decode cX1_take 27 = .ok (.aload_n 2, 1) := by decide +kernel
theorem dX1_take_28 : decode cX1_take 28 = .ok (.iconst 0, 1) := by decide +kernel
theorem dX1_take_29 : decode cX1_take 29 = .ok (.aload_n 0, 1) := by decide +kernel
theorem dX1_take_30 : decode cX1_take 30 = .ok (.aload_n 2, 1) := by decide +kernel
theorem dX1_take_31 : decode cX1_take 31 = .ok (.iload_n 3, 1) := by decide +kernel
theorem dX1_take_32 : decode cX1_take 32 = .ok (.invokevirtual 108, 3) := by decide +kernel
theorem dX1_take_35 : decode cX1_take 35 = .ok (.invokestatic 147, 3) := by decide +kernel
theorem dX1_take_38 : decode cX1_take 38 = .ok (.putfield 152, 3) := by decide +kernel
theorem dX1_take_41 : decode cX1_take 41 = .ok (.aload_n 2, 1) := by decide +kernel
theorem dX1_take_42 : decode cX1_take 42 = .ok (.aload_n 0, 1) := by decide +kernel
theorem dX1_take_43 : decode cX1_take 43 = .ok (.getfield 28, 3) := by decide +kernel
theorem dX1_take_46 : decode cX1_take 46 = .ok (.aload_n 2, 1) := by decide +kernel
theorem dX1_take_47 : decode cX1_take 47 = .ok (.getfield 44, 3) := by decide +kernel
theorem dX1_take_50 : decode cX1_take 50 = .ok (.invokevirtual 60, 3) := by decide +kernel
theorem dX1_take_53 : decode cX1_take 53 = .ok (.iconst 1, 1) := by decide +kernel
theorem dX1_take_54 : decode cX1_take 54 = .ok (.iaload, 1) := by decide +kernel
theorem dX1_take_55 : decode cX1_take 55 = .ok (.aload_n 2, 1) := by decide +kernel
theorem dX1_take_56 : decode cX1_take 56 = .ok (.getfield 155, 3) := by decide +kernel
theorem dX1_take_59 : decode cX1_take 59 = .ok (.imul, 1) := by decide +kernel
theorem dX1_take_60 : decode cX1_take 60 = .ok (.aload_n 2, 1) := by decide +kernel
theorem dX1_take_61 : decode cX1_take 61 = .ok (.getfield 152, 3) := by decide +kernel
theorem dX1_take_64 : decode cX1_take 64 = .ok (.iadd, 1) := by decide +kernel
theorem dX1_take_65 : decode cX1_take 65 = .ok (.putfield 158, 3) := by decide +kernel
theorem dX1_take_68 : decode cX1_take 68 = .ok (.aload_n 2, 1) := by decide +kernel
theorem dX1_take_69 : decode cX1_take 69 = .ok (.aload_n 0, 1) := by decide +kernel
theorem dX1_take_70 : decode cX1_take 70 = .ok (.getfield 32, 3) := by decide +kernel
theorem dX1_take_73 : decode cX1_take 73 = .ok (.aload_n 2, 1) := by decide +kernel
theorem dX1_take_74 : decode cX1_take 74 = .ok (.getfield 76, 3) := by decide +kernel
theorem dX1_take_77 : decode cX1_take 77 = .ok (.aload_n 2, 1) := by decide +kernel
theorem dX1_take_78 : decode cX1_take 78 = .ok (.getfield 44, 3) := by decide +kernel
theorem dX1_take_81 : decode cX1_take 81 = .ok (.invokevirtual 79, 3) := by decide +kernel
theorem dX1_take_84 : decode cX1_take 84 = .ok (.iload_n 3, 1) := by decide +kernel
theorem dX1_take_85 : decode cX1_take 85 = .ok (.if_icmp .ne 7, 3) := by decide +kernel
theorem dX1_take_88 : decode cX1_take 88 = .ok (.iconst 1, 1) := by decide +kernel
theorem dX1_take_89 : decode cX1_take 89 = .ok (.goto 4, 3) := by decide +kernel
theorem dX1_take_92 : decode cX1_take 92 = .ok (.iconst 0, 1) := by decide +kernel
theorem dX1_take_93 : decode cX1_take 93 = .ok (.putfield 161, 3) := by decide +kernel
theorem dX1_take_96 : decode cX1_take 96 = .ok (.aload_n 0, 1) := by decide +kernel
theorem dX1_take_97 : decode cX1_take 97 = .ok (.getfield 24, 3) := by decide +kernel
theorem dX1_take_100 : decode cX1_take 100 = .ok (.getfield 105, 3) := by decide +kernel
theorem dX1_take_103 : decode cX1_take 103 = .ok (.iload_n 3, 1) := by decide +kernel
theorem dX1_take_104 : decode cX1_take 104 = .ok (.dup2, 1) := by decide +kernel
theorem dX1_take_105 : decode cX1_take 105 = .ok (.iaload, 1) := by decide +kernel
theorem dX1_take_106 : decode cX1_take 106 = .ok (.iconst 1, 1) := by decide +kernel
theorem dX1_take_107 : decode cX1_take 107 = .ok (.iadd, 1) := by decide +kernel
theorem dX1_take_108 : decode cX1_take 108 = .ok (.iastore, 1) := by decide +kernel
theorem dX1_take_109 : decode cX1_take 109 = .ok (.return_, 1) := by decide +kernel
theorem dX1_settledFor_0 : decode cX1_settledFor 0 = .ok (.iconst 0, 1) := by decide +kernel
theorem dX1_settledFor_1 : decode cX1_settledFor 1 = .ok (.istore_n 2, 1) := by decide +kernel
theorem dX1_settledFor_2 : decode cX1_settledFor 2 = .ok (.iconst 0, 1) := by decide +kernel
theorem dX1_settledFor_3 : decode cX1_settledFor 3 = .ok (.istore_n 3, 1) := by decide +kernel
theorem dX1_settledFor_4 : decode cX1_settledFor 4 = .ok (.iload_n 3, 1) := by decide +kernel
theorem dX1_settledFor_5 : decode cX1_settledFor 5 = .ok (.aload_n 0, 1) := by decide +kernel
theorem dX1_settledFor_6 : decode cX1_settledFor 6 = .ok (.getfield 36, 3) := by decide +kernel
theorem dX1_settledFor_9 : decode cX1_settledFor 9 = .ok (.if_icmp .ge 34, 3) := by decide +kernel
theorem dX1_settledFor_12 : decode cX1_settledFor 12 = .ok (.aload_n 0, 1) := by decide +kernel
theorem dX1_settledFor_13 : decode cX1_settledFor 13 = .ok (.getfield 11, 3) := by decide +kernel
theorem dX1_settledFor_16 : decode cX1_settledFor 16 = .ok (.iload_n 3, 1) := by decide +kernel
theorem dX1_settledFor_17 : decode cX1_settledFor 17 = .ok (.aaload, 1) := by decide +kernel
theorem dX1_settledFor_18 : decode cX1_settledFor 18 = .ok (.getfield 99, 3) := by decide +kernel
theorem dX1_settledFor_21 : decode cX1_settledFor 21 = .ok (.iload_n 1, 1) := by decide +kernel
theorem dX1_settledFor_22 : decode cX1_settledFor 22 = .ok (.if_icmp .ne 15, 3) := by decide +kernel
theorem dX1_settledFor_25 : decode cX1_settledFor 25 = .ok (.iload_n 2, 1) := by decide +kernel
theorem dX1_settledFor_26 : decode cX1_settledFor 26 = .ok (.aload_n 0, 1) := by decide +kernel
theorem dX1_settledFor_27 : decode cX1_settledFor 27 = .ok (.getfield 11, 3) := by decide +kernel
theorem dX1_settledFor_30 : decode cX1_settledFor 30 = .ok (.iload_n 3, 1) := by decide +kernel
theorem dX1_settledFor_31 : decode cX1_settledFor 31 = .ok (.aaload, 1) := by decide +kernel
theorem dX1_settledFor_32 : decode cX1_settledFor 32 = .ok (.getfield 165, 3) := by decide +kernel
theorem dX1_settledFor_35 : decode cX1_settledFor 35 = .ok (.iadd, 1) := by decide +kernel
theorem dX1_settledFor_36 : decode cX1_settledFor 36 = .ok (.istore_n 2, 1) := by decide +kernel
theorem dX1_settledFor_37 : decode cX1_settledFor 37 = .ok (.iinc 3 1, 3) := by decide +kernel
theorem dX1_settledFor_40 : decode cX1_settledFor 40 = .ok (.goto (-36), 3) := by decide +kernel
theorem dX1_settledFor_43 : decode cX1_settledFor 43 = .ok (.iload_n 2, 1) := by decide +kernel
theorem dX1_settledFor_44 : decode cX1_settledFor 44 = .ok (.ireturn, 1) := by decide +kernel
theorem dX1_inState_0 : decode cX1_inState 0 = .ok (.iconst 0, 1) := by decide +kernel
theorem dX1_inState_1 : decode cX1_inState 1 = .ok (.istore_n 2, 1) := by decide +kernel
theorem dX1_inState_2 : decode cX1_inState 2 = .ok (.iconst 0, 1) := by decide +kernel
theorem dX1_inState_3 : decode cX1_inState 3 = .ok (.istore_n 3, 1) := by decide +kernel
theorem dX1_inState_4 : decode cX1_inState 4 = .ok (.iload_n 3, 1) := by decide +kernel
theorem dX1_inState_5 : decode cX1_inState 5 = .ok (.aload_n 0, 1) := by decide +kernel
theorem dX1_inState_6 : decode cX1_inState 6 = .ok (.getfield 36, 3) := by decide +kernel
theorem dX1_inState_9 : decode cX1_inState 9 = .ok (.if_icmp .ge 25, 3) := by decide +kernel
theorem dX1_inState_12 : decode cX1_inState 12 = .ok (.aload_n 0, 1) := by decide +kernel
theorem dX1_inState_13 : decode cX1_inState 13 = .ok (.getfield 11, 3) := by decide +kernel
theorem dX1_inState_16 : decode cX1_inState 16 = .ok (.iload_n 3, 1) := by decide +kernel
theorem dX1_inState_17 : decode cX1_inState 17 = .ok (.aaload, 1) := by decide +kernel
theorem dX1_inState_18 : decode cX1_inState 18 = .ok (.getfield 54, 3) := by decide +kernel
theorem dX1_inState_21 : decode cX1_inState 21 = .ok (.iload_n 1, 1) := by decide +kernel
theorem dX1_inState_22 : decode cX1_inState 22 = .ok (.if_icmp .ne 6, 3) := by decide +kernel
theorem dX1_inState_25 : decode cX1_inState 25 = .ok (.iinc 2 1, 3) := by decide +kernel
theorem dX1_inState_28 : decode cX1_inState 28 = .ok (.iinc 3 1, 3) := by decide +kernel
theorem dX1_inState_31 : decode cX1_inState 31 = .ok (.goto (-27), 3) := by decide +kernel
theorem dX1_inState_34 : decode cX1_inState 34 = .ok (.iload_n 2, 1) := by decide +kernel
theorem dX1_inState_35 : decode cX1_inState 35 = .ok (.ireturn, 1) := by decide +kernel
theorem dX2_init_0 : decode cX2_init 0 = .ok (.aload_n 0, 1) := by decide +kernel
theorem dX2_init_1 : decode cX2_init 1 = .ok (.invokespecial 3, 3) := by decide +kernel
theorem dX2_init_4 : decode cX2_init 4 = .ok (.aload_n 0, 1) := by decide +kernel
theorem dX2_init_5 : decode cX2_init 5 = .ok (.sipush 1000, 3) := by decide +kernel
theorem dX2_init_8 : decode cX2_init 8 = .ok (.newarray .int, 2) := by decide +kernel
theorem dX2_init_10 : decode cX2_init 10 = .ok (.putfield 9, 3) := by decide +kernel
theorem dX2_init_13 : decode cX2_init 13 = .ok (.aload_n 0, 1) := by decide +kernel
theorem dX2_init_14 : decode cX2_init 14 = .ok (.sipush 1000, 3) := by decide +kernel
theorem dX2_init_17 : decode cX2_init 17 = .ok (.newarray .int, 2) := by decide +kernel
theorem dX2_init_19 : decode cX2_init 19 = .ok (.putfield 15, 3) := by decide +kernel
theorem dX2_init_22 : decode cX2_init 22 = .ok (.aload_n 0, 1) := by decide +kernel
theorem dX2_init_23 : decode cX2_init 23 = .ok (.bipush 24, 2) := by decide +kernel
theorem dX2_init_25 : decode cX2_init 25 = .ok (.newarray .int, 2) := by decide +kernel
theorem dX2_init_27 : decode cX2_init 27 = .ok (.putfield 18, 3) := by decide +kernel
theorem dX2_init_30 : decode cX2_init 30 = .ok (.aload_n 0, 1) := by decide +kernel
theorem dX2_init_31 : decode cX2_init 31 = .ok (.bipush 24, 2) := by decide +kernel
theorem dX2_init_33 : decode cX2_init 33 = .ok (.newarray .int, 2) := by decide +kernel
theorem dX2_init_35 : decode cX2_init 35 = .ok (.putfield 21, 3) := by decide +kernel
theorem dX2_init_38 : decode cX2_init 38 = .ok (.aload_n 0, 1) := by decide +kernel
theorem dX2_init_39 : decode cX2_init 39 = .ok (.aload_n 1, 1) := by decide +kernel
theorem dX2_init_40 : decode cX2_init 40 = .ok (.putfield 24, 3) := by decide +kernel
theorem dX2_init_43 : decode cX2_init 43 = .ok (.aload_n 0, 1) := by decide +kernel
theorem dX2_init_44 : decode cX2_init 44 = .ok (.aload_n 2, 1) := by decide +kernel
theorem dX2_init_45 : decode cX2_init 45 = .ok (.putfield 28, 3) := by decide +kernel
theorem dX2_init_48 : decode cX2_init 48 = .ok (.return_, 1) := by decide +kernel
theorem dX2_holder_0 : decode cX2_holder 0 = .ok (.aload_n 0, 1) := by decide +kernel
theorem dX2_holder_1 : decode cX2_holder 1 = .ok (.getfield 9, 3) := by decide +kernel
theorem dX2_holder_4 : decode cX2_holder 4 = .ok (.iload_n 2, 1) := by decide +kernel
theorem dX2_holder_5 : decode cX2_holder 5 = .ok (.iaload, 1) := by decide +kernel
theorem dX2_holder_6 : decode cX2_holder 6 = .ok (.iload_n 1, 1) := by decide +kernel
theorem dX2_holder_7 : decode cX2_holder 7 = .ok (.iconst 5, 1) := by decide +kernel
theorem dX2_holder_8 : decode cX2_holder 8 = .ok (.imul, 1) := by decide +kernel
theorem dX2_holder_9 : decode cX2_holder 9 = .ok (.ishr, 1) := by decide +kernel
theorem dX2_holder_10 : decode cX2_holder 10 = .ok (.bipush 31, 2) := by decide +kernel
theorem dX2_holder_12 : decode cX2_holder 12 = .ok (.iand, 1) := by decide +kernel
theorem dX2_holder_13 : decode cX2_holder 13 = .ok (.iconst 1, 1) := by decide +kernel
theorem dX2_holder_14 : decode cX2_holder 14 = .ok (.isub, 1) := by decide +kernel
theorem dX2_holder_15 : decode cX2_holder 15 = .ok (.ireturn, 1) := by decide +kernel
set_option maxRecDepth 20000 in
theorem ggX2_put_X2_holder : GoodIn wsX2_put wsX2_holder := goodIn_r _ [8, 3, 9, 10, 11, 12, 13, 14] (by decide +kernel) (by decide +kernel)
set_option maxRecDepth 20000 in
theorem gX2_put_X2_holder : GoodIn wsX2_put (wsV RX2 32 RX2 yX2_holder wsX2_holder) := goodIn_app (goodIn_of _ (by decide +kernel)) ggX2_put_X2_holder
theorem dX2_put_0 : decode cX2_put 0 = .ok (.aload_n 0, 1) := by decide +kernel
theorem dX2_put_1 : decode cX2_put 1 = .ok (.iload_n 1, 1) := by decide +kernel
theorem dX2_put_2 : decode cX2_put 2 = .ok (.iload_n 2, 1) := by decide +kernel
theorem dX2_put_3 : decode cX2_put 3 = .ok (.invokevirtual 32, 3) := by decide +kernel
theorem dX2_put_6 : decode cX2_put 6 = .ok (.istore 4, 2) := by decide +kernel
theorem dX2_put_8 : decode cX2_put 8 = .ok (.iload 4, 2) := by decide +kernel
theorem dX2_put_10 : decode cX2_put 10 = .ok (.iconst (-1), 1) := by decide +kernel
theorem dX2_put_11 : decode cX2_put 11 = .ok (.if_icmp .eq 29, 3) := by decide +kernel
theorem dX2_put_14 : decode cX2_put 14 = .ok (.aload_n 0, 1) := by decide +kernel
theorem dX2_put_15 : decode cX2_put 15 = .ok (.getfield 15, 3) := by decide +kernel
theorem dX2_put_18 : decode cX2_put 18 = .ok (.iload_n 2, 1) := by decide +kernel
theorem dX2_put_19 : decode cX2_put 19 = .ok (.dup2, 1) := by decide +kernel
theorem dX2_put_20 : decode cX2_put 20 = .ok (.iaload, 1) := by decide +kernel
theorem dX2_put_21 : decode cX2_put 21 = .ok (.iconst 1, 1) := by decide +kernel
theorem dX2_put_22 : decode cX2_put 22 = .ok (.iload 4, 2) := by decide +kernel
theorem dX2_put_24 : decode cX2_put 24 = .ok (.ishl, 1) := by decide +kernel
theorem dX2_put_25 : decode cX2_put 25 = .ok (.iconst (-1), 1) := by decide +kernel
theorem dX2_put_26 : decode cX2_put 26 = .ok (.ixor, 1) := by decide +kernel
theorem dX2_put_27 : decode cX2_put 27 = .ok (.iand, 1) := by decide +kernel
theorem dX2_put_28 : decode cX2_put 28 = .ok (.iastore, 1) := by decide +kernel
theorem dX2_put_29 : decode cX2_put 29 = .ok (.aload_n 0, 1) := by decide +kernel
theorem dX2_put_30 : decode cX2_put 30 = .ok (.getfield 18, 3) := by decide +kernel
theorem dX2_put_33 : decode cX2_put 33 = .ok (.iload 4, 2) := by decide +kernel
theorem dX2_put_35 : decode cX2_put 35 = .ok (.dup2, 1) := by decide +kernel
theorem dX2_put_36 : decode cX2_put 36 = .ok (.iaload, 1) := by decide +kernel
theorem dX2_put_37 : decode cX2_put 37 = .ok (.iconst 1, 1) := by decide +kernel
theorem dX2_put_38 : decode cX2_put 38 = .ok (.isub, 1) := by decide +kernel
theorem dX2_put_39 : decode cX2_put 39 = .ok (.iastore, 1) := by decide +kernel
theorem dX2_put_40 : decode cX2_put 40 = .ok (.iload_n 1, 1) := by decide +kernel
theorem dX2_put_41 : decode cX2_put 41 = .ok (.iconst 5, 1) := by decide +kernel
theorem dX2_put_42 : decode cX2_put 42 = .ok (.imul, 1) := by decide +kernel
theorem dX2_put_43 : decode cX2_put 43 = .ok (.istore 5, 2) := by decide +kernel
theorem dX2_put_45 : decode cX2_put 45 = .ok (.aload_n 0, 1) := by decide +kernel
theorem dX2_put_46 : decode cX2_put 46 = .ok (.getfield 9, 3) := by decide +kernel
theorem dX2_put_49 : decode cX2_put 49 = .ok (.iload_n 2, 1) := by decide +kernel
theorem dX2_put_50 : decode cX2_put 50 = .ok (.aload_n 0, 1) := by decide +kernel
theorem dX2_put_51 : decode cX2_put 51 = .ok (.getfield 9, 3) := by decide +kernel
theorem dX2_put_54 : decode cX2_put 54 = .ok (.iload_n 2, 1) := by decide +kernel
theorem dX2_put_55 : decode cX2_put 55 = .ok (.iaload, 1) := by decide +kernel
theorem dX2_put_56 : decode cX2_put 56 = .ok (.bipush 31, 2) := by decide +kernel
theorem dX2_put_58 : decode cX2_put 58 = .ok (.iload 5, 2) := by decide +kernel
theorem dX2_put_60 : decode cX2_put 60 = .ok (.ishl, 1) := by decide +kernel
theorem dX2_put_61 : decode cX2_put 61 = .ok (.iconst (-1), 1) := by decide +kernel
theorem dX2_put_62 : decode cX2_put 62 = .ok (.ixor, 1) := by decide +kernel
theorem dX2_put_63 : decode cX2_put 63 = .ok (.iand, 1) := by decide +kernel
theorem dX2_put_64 : decode cX2_put 64 = .ok (.iload_n 3, 1) := by decide +kernel
theorem dX2_put_65 : decode cX2_put 65 = .ok (.iconst 1, 1) := by decide +kernel
theorem dX2_put_66 : decode cX2_put 66 = .ok (.iadd, 1) := by decide +kernel
theorem dX2_put_67 : decode cX2_put 67 = .ok (.iload 5, 2) := by decide +kernel
theorem dX2_put_69 : decode cX2_put 69 = .ok (.ishl, 1) := by decide +kernel
theorem dX2_put_70 : decode cX2_put 70 = .ok (.ior, 1) := by decide +kernel
theorem dX2_put_71 : decode cX2_put 71 = .ok (.iastore, 1) := by decide +kernel
theorem dX2_put_72 : decode cX2_put 72 = .ok (.iload_n 3, 1) := by decide +kernel
theorem dX2_put_73 : decode cX2_put 73 = .ok (.iconst (-1), 1) := by decide +kernel
theorem dX2_put_74 : decode cX2_put 74 = .ok (.if_icmp .eq 25, 3) := by decide +kernel
theorem dX2_put_77 : decode cX2_put 77 = .ok (.aload_n 0, 1) := by decide +kernel
theorem dX2_put_78 : decode cX2_put 78 = .ok (.getfield 15, 3) := by decide +kernel
theorem dX2_put_81 : decode cX2_put 81 = .ok (.iload_n 2, 1) := by decide +kernel
theorem dX2_put_82 : decode cX2_put 82 = .ok (.dup2, 1) := by decide +kernel
theorem dX2_put_83 : decode cX2_put 83 = .ok (.iaload, 1) := by decide +kernel
theorem dX2_put_84 : decode cX2_put 84 = .ok (.iconst 1, 1) := by decide +kernel
theorem dX2_put_85 : decode cX2_put 85 = .ok (.iload_n 3, 1) := by decide +kernel
theorem dX2_put_86 : decode cX2_put 86 = .ok (.ishl, 1) := by decide +kernel
theorem dX2_put_87 : decode cX2_put 87 = .ok (.ior, 1) := by decide +kernel
theorem dX2_put_88 : decode cX2_put 88 = .ok (.iastore, 1) := by decide +kernel
theorem dX2_put_89 : decode cX2_put 89 = .ok (.aload_n 0, 1) := by decide +kernel
theorem dX2_put_90 : decode cX2_put 90 = .ok (.getfield 18, 3) := by decide +kernel
theorem dX2_put_93 : decode cX2_put 93 = .ok (.iload_n 3, 1) := by decide +kernel
theorem dX2_put_94 : decode cX2_put 94 = .ok (.dup2, 1) := by decide +kernel
theorem dX2_put_95 : decode cX2_put 95 = .ok (.iaload, 1) := by decide +kernel
theorem dX2_put_96 : decode cX2_put 96 = .ok (.iconst 1, 1) := by decide +kernel
theorem dX2_put_97 : decode cX2_put 97 = .ok (.iadd, 1) := by decide +kernel
theorem dX2_put_98 : decode cX2_put 98 = .ok (.iastore, 1) := by decide +kernel
theorem dX2_put_99 : decode cX2_put 99 = .ok (.return_, 1) := by decide +kernel
set_option maxRecDepth 20000 in
theorem ggX2_mayHave_X3_isOn : GoodIn wsX2_mayHave wsX3_isOn := goodIn_r _ [6, 7, 8, 9, 10, 55, 56, 57, 58, 59, 60, 61, 62] (by decide +kernel) (by decide +kernel)
set_option maxRecDepth 20000 in
theorem gX2_mayHave_X3_isOn_n36 : GoodIn wsX2_mayHave (wsX3_isOn) := ggX2_mayHave_X3_isOn
set_option maxRecDepth 20000 in
theorem ggX2_mayHave_X3_isThere : GoodIn wsX2_mayHave wsX3_isThere := goodIn_r _ [13, 14, 8, 9, 10, 15, 16, 17, 4, 18, 19, 55, 56, 57, 58, 59, 60, 61, 62] (by decide +kernel) (by decide +kernel)
set_option maxRecDepth 20000 in
theorem gX2_mayHave_X3_isThere_n42 : GoodIn wsX2_mayHave (wsX3_isThere) := ggX2_mayHave_X3_isThere
set_option maxRecDepth 20000 in
theorem ggX2_mayHave_X6_textNow : GoodIn wsX2_mayHave wsX6_textNow := goodIn_r _ [23, 24, 25, 26, 27, 21, 28, 29, 30, 31, 32, 33, 63, 64] (by decide +kernel) (by decide +kernel)
set_option maxRecDepth 20000 in
theorem gX2_mayHave_X6_textNow_n45 : GoodIn wsX2_mayHave (wsX6_textNow) := ggX2_mayHave_X6_textNow
set_option maxRecDepth 20000 in
theorem ggX2_mayHave_X2_busyDays : GoodIn wsX2_mayHave wsX2_busyDays := goodIn_r _ [38, 39, 40, 41, 37, 42, 43, 49, 50, 51, 52, 53, 54] (by decide +kernel) (by decide +kernel)
set_option maxRecDepth 20000 in
theorem gX2_mayHave_X2_busyDays : GoodIn wsX2_mayHave (wsV RX2 51 RX2 yX2_busyDays wsX2_busyDays) := goodIn_app (goodIn_of _ (by decide +kernel)) ggX2_mayHave_X2_busyDays
set_option maxRecDepth 20000 in
theorem ggX2_mayHave_X2_keepsToMost : GoodIn wsX2_mayHave wsX2_keepsToMost := goodIn_r _ [47, 48, 34, 35, 36, 37, 38, 39, 40, 41, 42, 43, 49, 50, 51, 52, 53, 54] (by decide +kernel) (by decide +kernel)
set_option maxRecDepth 20000 in
theorem gX2_mayHave_X2_keepsToMost : GoodIn wsX2_mayHave (wsV RX2 55 RX2 yX2_keepsToMost wsX2_keepsToMost) := goodIn_app (goodIn_of _ (by decide +kernel)) ggX2_mayHave_X2_keepsToMost
theorem dX2_mayHave_0 : decode cX2_mayHave 0 = .ok (.aload_n 0, 1) := by decide +kernel
theorem dX2_mayHave_1 : decode cX2_mayHave 1 = .ok (.getfield 24, 3) := by decide +kernel
theorem dX2_mayHave_4 : decode cX2_mayHave 4 = .ok (.iload_n 1, 1) := by decide +kernel
theorem dX2_mayHave_5 : decode cX2_mayHave 5 = .ok (.iload_n 2, 1) := by decide +kernel
theorem dX2_mayHave_6 : decode cX2_mayHave 6 = .ok (.invokevirtual 36, 3) := by decide +kernel
theorem dX2_mayHave_9 : decode cX2_mayHave 9 = .ok (.ifCond .eq 15, 3) := by decide +kernel
theorem dX2_mayHave_12 : decode cX2_mayHave 12 = .ok (.aload_n 0, 1) := by decide +kernel
theorem dX2_mayHave_13 : decode cX2_mayHave 13 = .ok (.getfield 24, 3) := by decide +kernel
theorem dX2_mayHave_16 : decode cX2_mayHave 16 = .ok (.iload_n 1, 1) := by decide +kernel
theorem dX2_mayHave_17 : decode cX2_mayHave 17 = .ok (.iload_n 3, 1) := by decide +kernel
theorem dX2_mayHave_18 : decode cX2_mayHave 18 = .ok (.invokevirtual 42, 3) := by decide +kernel
theorem dX2_mayHave_21 : decode cX2_mayHave 21 = .ok (.ifCond .ne 5, 3) := by decide +kernel
theorem dX2_mayHave_24 : decode cX2_mayHave 24 = .ok (.iconst 0, 1) := by decide +kernel
theorem dX2_mayHave_25 : decode cX2_mayHave 25 = .ok (.ireturn, 1) := by decide +kernel
theorem dX2_mayHave_26 : decode cX2_mayHave 26 = .ok (.aload_n 0, 1) := by decide +kernel
theorem dX2_mayHave_27 : decode cX2_mayHave 27 = .ok (.getfield 28, 3) := by decide +kernel
theorem dX2_mayHave_30 : decode cX2_mayHave 30 = .ok (.iload_n 3, 1) := by decide +kernel
theorem dX2_mayHave_31 : decode cX2_mayHave 31 = .ok (.invokevirtual 45, 3) := by decide +kernel
theorem dX2_mayHave_34 : decode cX2_mayHave 34 = .ok (.astore 4, 2) := by decide +kernel
theorem dX2_mayHave_36 : decode cX2_mayHave 36 = .ok (.aload 4, 2) := by decide +kernel
theorem dX2_mayHave_38 : decode cX2_mayHave 38 = .ok (.iconst 2, 1) := by decide +kernel
theorem dX2_mayHave_39 : decode cX2_mayHave 39 = .ok (.iaload, 1) := by decide +kernel
theorem dX2_mayHave_40 : decode cX2_mayHave 40 = .ok (.istore 5, 2) := by decide +kernel
theorem dX2_mayHave_42 : decode cX2_mayHave 42 = .ok (.aload_n 0, 1) := by decide +kernel
theorem dX2_mayHave_43 : decode cX2_mayHave 43 = .ok (.iload_n 1, 1) := by decide +kernel
theorem dX2_mayHave_44 : decode cX2_mayHave 44 = .ok (.iload_n 3, 1) := by decide +kernel
theorem dX2_mayHave_45 : decode cX2_mayHave 45 = .ok (.iload 5, 2) := by decide +kernel
theorem dX2_mayHave_47 : decode cX2_mayHave 47 = .ok (.isub, 1) := by decide +kernel
theorem dX2_mayHave_48 : decode cX2_mayHave 48 = .ok (.iload_n 3, 1) := by decide +kernel
theorem dX2_mayHave_49 : decode cX2_mayHave 49 = .ok (.iload 5, 2) := by decide +kernel
theorem dX2_mayHave_51 : decode cX2_mayHave 51 = .ok (.iadd, 1) := by decide +kernel
theorem dX2_mayHave_52 : decode cX2_mayHave 52 = .ok (.invokevirtual 51, 3) := by decide +kernel
theorem dX2_mayHave_55 : decode cX2_mayHave 55 = .ok (.ifCond .ne 20, 3) := by decide +kernel
theorem dX2_mayHave_58 : decode cX2_mayHave 58 = .ok (.aload_n 0, 1) := by decide +kernel
theorem dX2_mayHave_59 : decode cX2_mayHave 59 = .ok (.iload_n 1, 1) := by decide +kernel
theorem dX2_mayHave_60 : decode cX2_mayHave 60 = .ok (.iload_n 3, 1) := by decide +kernel
theorem dX2_mayHave_61 : decode cX2_mayHave 61 = .ok (.aload 4, 2) := by decide +kernel
theorem dX2_mayHave_63 : decode cX2_mayHave 63 = .ok (.iconst 3, 1) := by decide +kernel
theorem dX2_mayHave_64 : decode cX2_mayHave 64 = .ok (.iaload, 1) := by decide +kernel
theorem dX2_mayHave_65 : decode cX2_mayHave 65 = .ok (.invokevirtual 55, 3) := by decide +kernel
theorem dX2_mayHave_68 : decode cX2_mayHave 68 = .ok (.ifCond .eq 7, 3) := by decide +kernel
theorem dX2_mayHave_71 : decode cX2_mayHave 71 = .ok (.iconst 1, 1) := by decide +kernel
theorem dX2_mayHave_72 : decode cX2_mayHave 72 = .ok (.goto 4, 3) := by decide +kernel
theorem dX2_mayHave_75 : decode cX2_mayHave 75 = .ok (.iconst 0, 1) := by decide +kernel
theorem dX2_mayHave_76 : decode cX2_mayHave 76 = .ok (.ireturn, 1) := by decide +kernel
set_option maxRecDepth 20000 in
theorem ggX2_keepsToMost_X2_busyDays : GoodIn wsX2_keepsToMost wsX2_busyDays := goodIn_r _ [6, 7, 8, 9, 5, 10, 11, 12, 13, 14, 15, 16, 17] (by decide +kernel) (by decide +kernel)
set_option maxRecDepth 20000 in
theorem gX2_keepsToMost_X2_busyDays : GoodIn wsX2_keepsToMost (wsV RX2 51 RX2 yX2_busyDays wsX2_busyDays) := goodIn_app (goodIn_of _ (by decide +kernel)) ggX2_keepsToMost_X2_busyDays
set_option maxRecDepth 20000 in
theorem ggX2_keepsToMost_X2_busyOn : GoodIn wsX2_keepsToMost wsX2_busyOn := goodIn_r _ [10, 11, 12, 13, 14, 15, 16, 17] (by decide +kernel) (by decide +kernel)
set_option maxRecDepth 20000 in
theorem gX2_keepsToMost_X2_busyOn : GoodIn wsX2_keepsToMost (wsV RX2 59 RX2 yX2_busyOn wsX2_busyOn) := goodIn_app (goodIn_of _ (by decide +kernel)) ggX2_keepsToMost_X2_busyOn
theorem dX2_keepsToMost_0 : decode cX2_keepsToMost 0 = .ok (.aload_n 0, 1) := by decide +kernel
theorem dX2_keepsToMost_1 : decode cX2_keepsToMost 1 = .ok (.getfield 18, 3) := by decide +kernel
theorem dX2_keepsToMost_4 : decode cX2_keepsToMost 4 = .ok (.iload_n 1, 1) := by decide +kernel
theorem dX2_keepsToMost_5 : decode cX2_keepsToMost 5 = .ok (.iaload, 1) := by decide +kernel
theorem dX2_keepsToMost_6 : decode cX2_keepsToMost 6 = .ok (.iload_n 3, 1) := by decide +kernel
theorem dX2_keepsToMost_7 : decode cX2_keepsToMost 7 = .ok (.if_icmp .ge 5, 3) := by decide +kernel
theorem dX2_keepsToMost_10 : decode cX2_keepsToMost 10 = .ok (.iconst 1, 1) := by decide +kernel
theorem dX2_keepsToMost_11 : decode cX2_keepsToMost 11 = .ok (.ireturn, 1) := by decide +kernel
theorem dX2_keepsToMost_12 : decode cX2_keepsToMost 12 = .ok (.iload_n 2, 1) := by decide +kernel
theorem dX2_keepsToMost_13 : decode cX2_keepsToMost 13 = .ok (.bipush 30, 2) := by decide +kernel
theorem dX2_keepsToMost_15 : decode cX2_keepsToMost 15 = .ok (.isub, 1) := by decide +kernel
theorem dX2_keepsToMost_16 : decode cX2_keepsToMost 16 = .ok (.iconst 1, 1) := by decide +kernel
theorem dX2_keepsToMost_17 : decode cX2_keepsToMost 17 = .ok (.iadd, 1) := by decide +kernel
theorem dX2_keepsToMost_18 : decode cX2_keepsToMost 18 = .ok (.istore 4, 2) := by decide +kernel
theorem dX2_keepsToMost_20 : decode cX2_keepsToMost 20 = .ok (.iconst 1, 1) := by decide +kernel
theorem dX2_keepsToMost_21 : decode cX2_keepsToMost 21 = .ok (.aload_n 0, 1) := by decide +kernel
theorem dX2_keepsToMost_22 : decode cX2_keepsToMost 22 = .ok (.iload_n 1, 1) := by decide +kernel
theorem dX2_keepsToMost_23 : decode cX2_keepsToMost 23 = .ok (.iload 4, 2) := by decide +kernel
theorem dX2_keepsToMost_25 : decode cX2_keepsToMost 25 = .ok (.iload_n 2, 1) := by decide +kernel
theorem dX2_keepsToMost_26 : decode cX2_keepsToMost 26 = .ok (.invokevirtual 51, 3) := by decide +kernel
theorem dX2_keepsToMost_29 : decode cX2_keepsToMost 29 = .ok (.iadd, 1) := by decide +kernel
theorem dX2_keepsToMost_30 : decode cX2_keepsToMost 30 = .ok (.istore 5, 2) := by decide +kernel
theorem dX2_keepsToMost_32 : decode cX2_keepsToMost 32 = .ok (.iload 4, 2) := by decide +kernel
theorem dX2_keepsToMost_34 : decode cX2_keepsToMost 34 = .ok (.istore 6, 2) := by decide +kernel
theorem dX2_keepsToMost_36 : decode cX2_keepsToMost 36 = .ok (.iload 6, 2) := by decide +kernel
theorem dX2_keepsToMost_38 : decode cX2_keepsToMost 38 = .ok (.iload_n 2, 1) := by decide +kernel
theorem dX2_keepsToMost_39 : decode cX2_keepsToMost 39 = .ok (.if_icmp .gt 40, 3) := by decide +kernel
theorem dX2_keepsToMost_42 : decode cX2_keepsToMost 42 = .ok (.iload 5, 2) := by decide +kernel
theorem dX2_keepsToMost_44 : decode cX2_keepsToMost 44 = .ok (.iload_n 3, 1) := by decide +kernel
theorem dX2_keepsToMost_45 : decode cX2_keepsToMost 45 = .ok (.if_icmp .le 5, 3) := by decide +kernel
theorem dX2_keepsToMost_48 : decode cX2_keepsToMost 48 = .ok (.iconst 0, 1) := by decide +kernel
theorem dX2_keepsToMost_49 : decode cX2_keepsToMost 49 = .ok (.ireturn, 1) := by decide +kernel
theorem dX2_keepsToMost_50 : decode cX2_keepsToMost 50 = .ok (.iload 5, 2) := by decide +kernel
theorem dX2_keepsToMost_52 : decode cX2_keepsToMost 52 = .ok (.aload_n 0, 1) := by decide +kernel
theorem dX2_keepsToMost_53 : decode cX2_keepsToMost 53 = .ok (.iload_n 1, 1) := by decide +kernel
theorem dX2_keepsToMost_54 : decode cX2_keepsToMost 54 = .ok (.iload 6, 2) := by decide +kernel
theorem dX2_keepsToMost_56 : decode cX2_keepsToMost 56 = .ok (.bipush 30, 2) := by decide +kernel
theorem dX2_keepsToMost_58 : decode cX2_keepsToMost 58 = .ok (.iadd, 1) := by decide +kernel
theorem dX2_keepsToMost_59 : decode cX2_keepsToMost 59 = .ok (.invokevirtual 59, 3) := by decide +kernel
theorem dX2_keepsToMost_62 : decode cX2_keepsToMost 62 = .ok (.aload_n 0, 1) := by decide +kernel
theorem dX2_keepsToMost_63 : decode cX2_keepsToMost 63 = .ok (.iload_n 1, 1) := by decide +kernel
theorem dX2_keepsToMost_64 : decode cX2_keepsToMost 64 = .ok (.iload 6, 2) := by decide +kernel
theorem dX2_keepsToMost_66 : decode cX2_keepsToMost 66 = .ok (.invokevirtual 59, 3) := by decide +kernel
theorem dX2_keepsToMost_69 : decode cX2_keepsToMost 69 = .ok (.isub, 1) := by decide +kernel
theorem dX2_keepsToMost_70 : decode cX2_keepsToMost 70 = .ok (.iadd, 1) := by decide +kernel
theorem dX2_keepsToMost_71 : decode cX2_keepsToMost 71 = .ok (.istore 5, 2) := by decide +kernel
theorem dX2_keepsToMost_73 : decode cX2_keepsToMost 73 = .ok (.iinc 6 1, 3) := by decide +kernel
theorem dX2_keepsToMost_76 : decode cX2_keepsToMost 76 = .ok (.goto (-40), 3) := by decide +kernel
theorem dX2_keepsToMost_79 : decode cX2_keepsToMost 79 = .ok (.iconst 1, 1) := by decide +kernel
theorem dX2_keepsToMost_80 : decode cX2_keepsToMost 80 = .ok (.ireturn, 1) := by decide +kernel
set_option maxRecDepth 20000 in
theorem ggX2_busyDays_X2_busyOn : GoodIn wsX2_busyDays wsX2_busyOn := goodIn_r _ [5, 6, 7, 8, 9, 10, 11, 12] (by decide +kernel) (by decide +kernel)
set_option maxRecDepth 20000 in
theorem gX2_busyDays_X2_busyOn : GoodIn wsX2_busyDays (wsV RX2 59 RX2 yX2_busyOn wsX2_busyOn) := goodIn_app (goodIn_of _ (by decide +kernel)) ggX2_busyDays_X2_busyOn
theorem dX2_busyDays_0 : decode cX2_busyDays 0 = .ok (.iconst 0, 1) := by decide +kernel
theorem dX2_busyDays_1 : decode cX2_busyDays 1 = .ok (.istore 4, 2) := by decide +kernel
theorem dX2_busyDays_3 : decode cX2_busyDays 3 = .ok (.iload_n 2, 1) := by decide +kernel
theorem dX2_busyDays_4 : decode cX2_busyDays 4 = .ok (.istore 5, 2) := by decide +kernel
theorem dX2_busyDays_6 : decode cX2_busyDays 6 = .ok (.iload 5, 2) := by decide +kernel
theorem dX2_busyDays_8 : decode cX2_busyDays 8 = .ok (.iload_n 3, 1) := by decide +kernel
theorem dX2_busyDays_9 : decode cX2_busyDays 9 = .ok (.if_icmp .gt 21, 3) := by decide +kernel
theorem dX2_busyDays_12 : decode cX2_busyDays 12 = .ok (.iload 4, 2) := by decide +kernel
theorem dX2_busyDays_14 : decode cX2_busyDays 14 = .ok (.aload_n 0, 1) := by decide +kernel
theorem dX2_busyDays_15 : decode cX2_busyDays 15 = .ok (.iload_n 1, 1) := by decide +kernel
theorem dX2_busyDays_16 : decode cX2_busyDays 16 = .ok (.iload 5, 2) := by decide +kernel
theorem dX2_busyDays_18 : decode cX2_busyDays 18 = .ok (.invokevirtual 59, 3) := by decide +kernel
theorem dX2_busyDays_21 : decode cX2_busyDays 21 = .ok (.iadd, 1) := by decide +kernel
theorem dX2_busyDays_22 : decode cX2_busyDays 22 = .ok (.istore 4, 2) := by decide +kernel
theorem dX2_busyDays_24 : decode cX2_busyDays 24 = .ok (.iinc 5 1, 3) := by decide +kernel
theorem dX2_busyDays_27 : decode cX2_busyDays 27 = .ok (.goto (-21), 3) := by decide +kernel
theorem dX2_busyDays_30 : decode cX2_busyDays 30 = .ok (.iload 4, 2) := by decide +kernel
theorem dX2_busyDays_32 : decode cX2_busyDays 32 = .ok (.ireturn, 1) := by decide +kernel
theorem dX2_busyOn_0 : decode cX2_busyOn 0 = .ok (.iload_n 2, 1) := by decide +kernel
theorem dX2_busyOn_1 : decode cX2_busyOn 1 = .ok (.ifCond .lt 23, 3) := by decide +kernel
theorem dX2_busyOn_4 : decode cX2_busyOn 4 = .ok (.iload_n 2, 1) := by decide +kernel
theorem dX2_busyOn_5 : decode cX2_busyOn 5 = .ok (.sipush 1000, 3) := by decide +kernel
theorem dX2_busyOn_8 : decode cX2_busyOn 8 = .ok (.if_icmp .ge 16, 3) := by decide +kernel
theorem dX2_busyOn_11 : decode cX2_busyOn 11 = .ok (.aload_n 0, 1) := by decide +kernel
theorem dX2_busyOn_12 : decode cX2_busyOn 12 = .ok (.getfield 15, 3) := by decide +kernel
theorem dX2_busyOn_15 : decode cX2_busyOn 15 = .ok (.iload_n 2, 1) := by decide +kernel
theorem dX2_busyOn_16 : decode cX2_busyOn 16 = .ok (.iaload, 1) := by decide +kernel
theorem dX2_busyOn_17 : decode cX2_busyOn 17 = .ok (.iload_n 1, 1) := by decide +kernel
theorem dX2_busyOn_18 : decode cX2_busyOn 18 = .ok (.ishr, 1) := by decide +kernel
theorem dX2_busyOn_19 : decode cX2_busyOn 19 = .ok (.iconst 1, 1) := by decide +kernel
theorem dX2_busyOn_20 : decode cX2_busyOn 20 = .ok (.iand, 1) := by decide +kernel
theorem dX2_busyOn_21 : decode cX2_busyOn 21 = .ok (.goto 4, 3) := by decide +kernel
theorem dX2_busyOn_24 : decode cX2_busyOn 24 = .ok (.iconst 0, 1) := by decide +kernel
theorem dX2_busyOn_25 : decode cX2_busyOn 25 = .ok (.ireturn, 1) := by decide +kernel
set_option maxRecDepth 20000 in
theorem ggX2_passOn_X2_busyOn : GoodIn wsX2_passOn wsX2_busyOn := goodIn_r _ [5, 6, 70, 71, 72, 73, 74, 75] (by decide +kernel) (by decide +kernel)
set_option maxRecDepth 20000 in
theorem gX2_passOn_X2_busyOn : GoodIn wsX2_passOn (wsV RX2 59 RX2 yX2_busyOn wsX2_busyOn) := goodIn_app (goodIn_of _ (by decide +kernel)) ggX2_passOn_X2_busyOn
set_option maxRecDepth 20000 in
theorem ggX2_passOn_X2_passOnNight : GoodIn wsX2_passOn wsX2_passOnNight := goodIn_r _ [10, 11, 12, 13, 4, 14, 15, 16, 17, 18, 19, 6, 20, 21, 22, 23, 24, 25, 26, 27, 28, 29, 30, 31, 32, 33, 34, 35, 36, 37, 38, 39, 40, 41, 42, 43, 44, 45, 46, 47, 48, 49, 50, 51, 52, 53, 54, 55, 56, 57, 58, 59, 60, 61, 62, 63, 64, 65, 1, 2, 3, 5, 66, 67, 68, 69, 70, 71, 72, 73, 74, 75, 76, 77, 78, 79, 80, 81, 82, 83, 84, 85] (by decide +kernel) (by decide +kernel)
set_option maxRecDepth 20000 in
theorem gX2_passOn_X2_passOnNight : GoodIn wsX2_passOn (wsV RX2 62 RX2 yX2_passOnNight wsX2_passOnNight) := goodIn_app (goodIn_of _ (by decide +kernel)) ggX2_passOn_X2_passOnNight
theorem dX2_passOn_0 : decode cX2_passOn 0 = .ok (.iconst 0, 1) := by decide +kernel
theorem dX2_passOn_1 : decode cX2_passOn 1 = .ok (.istore_n 3, 1) := by decide +kernel
theorem dX2_passOn_2 : decode cX2_passOn 2 = .ok (.iload_n 2, 1) := by decide +kernel
theorem dX2_passOn_3 : decode cX2_passOn 3 = .ok (.istore 4, 2) := by decide +kernel
theorem dX2_passOn_5 : decode cX2_passOn 5 = .ok (.iload 4, 2) := by decide +kernel
theorem dX2_passOn_7 : decode cX2_passOn 7 = .ok (.sipush 1000, 3) := by decide +kernel
theorem dX2_passOn_10 : decode cX2_passOn 10 = .ok (.if_icmp .ge 30, 3) := by decide +kernel
theorem dX2_passOn_13 : decode cX2_passOn 13 = .ok (.aload_n 0, 1) := by decide +kernel
theorem dX2_passOn_14 : decode cX2_passOn 14 = .ok (.iload_n 1, 1) := by decide +kernel
theorem dX2_passOn_15 : decode cX2_passOn 15 = .ok (.iload 4, 2) := by decide +kernel
theorem dX2_passOn_17 : decode cX2_passOn 17 = .ok (.invokevirtual 59, 3) := by decide +kernel
theorem dX2_passOn_20 : decode cX2_passOn 20 = .ok (.iconst 1, 1) := by decide +kernel
theorem dX2_passOn_21 : decode cX2_passOn 21 = .ok (.if_icmp .ne 13, 3) := by decide +kernel
theorem dX2_passOn_24 : decode cX2_passOn 24 = .ok (.aload_n 0, 1) := by decide +kernel
theorem dX2_passOn_25 : decode cX2_passOn 25 = .ok (.iload_n 1, 1) := by decide +kernel
theorem dX2_passOn_26 : decode cX2_passOn 26 = .ok (.iload 4, 2) := by decide +kernel
theorem dX2_passOn_28 : decode cX2_passOn 28 = .ok (.invokevirtual 62, 3) := by decide +kernel
theorem dX2_passOn_31 : decode cX2_passOn 31 = .ok (.iinc 3 1, 3) := by decide +kernel
theorem dX2_passOn_34 : decode cX2_passOn 34 = .ok (.iinc 4 1, 3) := by decide +kernel
theorem dX2_passOn_37 : decode cX2_passOn 37 = .ok (.goto (-32), 3) := by decide +kernel
theorem dX2_passOn_40 : decode cX2_passOn 40 = .ok (.iload_n 3, 1) := by decide +kernel
theorem dX2_passOn_41 : decode cX2_passOn 41 = .ok (.ireturn, 1) := by decide +kernel
set_option maxRecDepth 20000 in
theorem ggX2_passOnNight_X2_holder : GoodIn wsX2_passOnNight wsX2_holder := goodIn_r _ [5, 6, 66, 67, 68, 69, 70, 71] (by decide +kernel) (by decide +kernel)
set_option maxRecDepth 20000 in
theorem gX2_passOnNight_X2_holder : GoodIn wsX2_passOnNight (wsV RX2 32 RX2 yX2_holder wsX2_holder) := goodIn_app (goodIn_of _ (by decide +kernel)) ggX2_passOnNight_X2_holder
set_option maxRecDepth 20000 in
theorem ggX2_passOnNight_X2_put : GoodIn wsX2_passOnNight wsX2_put := goodIn_r _ [10, 11, 12, 6, 1, 2, 3, 4, 5, 66, 67, 68, 69, 70, 71] (by decide +kernel) (by decide +kernel)
set_option maxRecDepth 20000 in
theorem gX2_passOnNight_X2_put : GoodIn wsX2_passOnNight (wsV RX2 66 RX2 yX2_put wsX2_put) := goodIn_app (goodIn_of _ (by decide +kernel)) ggX2_passOnNight_X2_put
set_option maxRecDepth 20000 in
theorem ggX2_passOnNight_X2_leastLoaded : GoodIn wsX2_passOnNight wsX2_leastLoaded := goodIn_r _ [16, 17, 12, 18, 19, 20, 4, 21, 22, 23, 24, 25, 26, 27, 28, 29, 30, 31, 32, 33, 34, 35, 36, 37, 38, 39, 40, 41, 42, 43, 44, 45, 46, 47, 48, 49, 50, 51, 52, 53, 54, 55, 56, 57, 58, 59, 60, 61, 11, 62, 63, 64, 65, 66, 67, 68, 69, 70, 71, 72, 73, 74, 75, 76, 77, 78, 79, 80, 81] (by decide +kernel) (by decide +kernel)
set_option maxRecDepth 20000 in
theorem gX2_passOnNight_X2_leastLoaded : GoodIn wsX2_passOnNight (wsV RX2 70 RX2 yX2_leastLoaded wsX2_leastLoaded) := goodIn_app (goodIn_of _ (by decide +kernel)) ggX2_passOnNight_X2_leastLoaded
theorem dX2_passOnNight_0 : decode cX2_passOnNight 0 = .ok (.iconst 0, 1) := by decide +kernel
theorem dX2_passOnNight_1 : decode cX2_passOnNight 1 = .ok (.istore_n 3, 1) := by decide +kernel
theorem dX2_passOnNight_2 : decode cX2_passOnNight 2 = .ok (.iload_n 3, 1) := by decide +kernel
theorem dX2_passOnNight_3 : decode cX2_passOnNight 3 = .ok (.bipush 6, 2) := by decide +kernel
theorem dX2_passOnNight_5 : decode cX2_passOnNight 5 = .ok (.if_icmp .ge 38, 3) := by decide +kernel
theorem dX2_passOnNight_8 : decode cX2_passOnNight 8 = .ok (.aload_n 0, 1) := by decide +kernel
theorem dX2_passOnNight_9 : decode cX2_passOnNight 9 = .ok (.iload_n 3, 1) := by decide +kernel
theorem dX2_passOnNight_10 : decode cX2_passOnNight 10 = .ok (.iload_n 2, 1) := by decide +kernel
theorem dX2_passOnNight_11 : decode cX2_passOnNight 11 = .ok (.invokevirtual 32, 3) := by decide +kernel
theorem dX2_passOnNight_14 : decode cX2_passOnNight 14 = .ok (.iload_n 1, 1) := by decide +kernel
theorem dX2_passOnNight_15 : decode cX2_passOnNight 15 = .ok (.if_icmp .ne 22, 3) := by decide +kernel
theorem dX2_passOnNight_18 : decode cX2_passOnNight 18 = .ok (.aload_n 0, 1) := by decide +kernel
theorem dX2_passOnNight_19 : decode cX2_passOnNight 19 = .ok (.iload_n 3, 1) := by decide +kernel
theorem dX2_passOnNight_20 : decode cX2_passOnNight 20 = .ok (.iload_n 2, 1) := by decide +kernel
theorem dX2_passOnNight_21 : decode cX2_passOnNight 21 = .ok (.iconst (-1), 1) := by decide +kernel
theorem dX2_passOnNight_22 : decode cX2_passOnNight 22 = .ok (.invokevirtual 66, 3) := by decide +kernel
theorem dX2_passOnNight_25 : decode cX2_passOnNight 25 = .ok (.aload_n 0, 1) := by decide +kernel
theorem dX2_passOnNight_26 : decode cX2_passOnNight 26 = .ok (.iload_n 3, 1) := by decide +kernel
theorem dX2_passOnNight_27 : decode cX2_passOnNight 27 = .ok (.iload_n 2, 1) := by decide +kernel
theorem dX2_passOnNight_28 : decode cX2_passOnNight 28 = .ok (.aload_n 0, 1) := by decide +kernel
theorem dX2_passOnNight_29 : decode cX2_passOnNight 29 = .ok (.iload_n 3, 1) := by decide +kernel
theorem dX2_passOnNight_30 : decode cX2_passOnNight 30 = .ok (.iload_n 2, 1) := by decide +kernel
theorem dX2_passOnNight_31 : decode cX2_passOnNight 31 = .ok (.invokevirtual 70, 3) := by decide +kernel
theorem dX2_passOnNight_34 : decode cX2_passOnNight 34 = .ok (.invokevirtual 66, 3) := by decide +kernel
theorem dX2_passOnNight_37 : decode cX2_passOnNight 37 = .ok (.iinc 3 1, 3) := by decide +kernel
theorem dX2_passOnNight_40 : decode cX2_passOnNight 40 = .ok (.goto (-38), 3) := by decide +kernel
theorem dX2_passOnNight_43 : decode cX2_passOnNight 43 = .ok (.return_, 1) := by decide +kernel
set_option maxRecDepth 20000 in
theorem ggX2_leastLoaded_X2_mayHave : GoodIn wsX2_leastLoaded wsX2_mayHave := goodIn_r _ [7, 1, 8, 9, 10, 11, 12, 13, 14, 15, 16, 17, 18, 19, 20, 21, 22, 23, 24, 25, 26, 27, 28, 29, 30, 31, 32, 33, 34, 35, 36, 37, 38, 39, 40, 41, 42, 6, 43, 44, 45, 46, 47, 48, 49, 50, 51, 52, 2, 53, 54, 55, 56, 57, 58, 59, 60, 61, 62, 63, 64, 65, 66, 67, 68] (by decide +kernel) (by decide +kernel)
set_option maxRecDepth 20000 in
theorem gX2_leastLoaded_X2_mayHave : GoodIn wsX2_leastLoaded (wsV RX2 77 RX2 yX2_mayHave wsX2_mayHave) := goodIn_app (goodIn_of _ (by decide +kernel)) ggX2_leastLoaded_X2_mayHave
theorem dX2_leastLoaded_0 : decode cX2_leastLoaded 0 = .ok (.iconst (-1), 1) := by decide +kernel
theorem dX2_leastLoaded_1 : decode cX2_leastLoaded 1 = .ok (.istore_n 3, 1) := by decide +kernel
theorem dX2_leastLoaded_2 : decode cX2_leastLoaded 2 = .ok (.iconst 0, 1) := by decide +kernel
theorem dX2_leastLoaded_3 : decode cX2_leastLoaded 3 = .ok (.istore 4, 2) := by decide +kernel
theorem dX2_leastLoaded_5 : decode cX2_leastLoaded 5 = .ok (.iload 4, 2) := by decide +kernel
theorem dX2_leastLoaded_7 : decode cX2_leastLoaded 7 = .ok (.aload_n 0, 1) := by decide +kernel
theorem dX2_leastLoaded_8 : decode cX2_leastLoaded 8 = .ok (.getfield 24, 3) := by decide +kernel
theorem dX2_leastLoaded_11 : decode cX2_leastLoaded 11 = .ok (.getfield 73, 3) := by decide +kernel
theorem dX2_leastLoaded_14 : decode cX2_leastLoaded 14 = .ok (.if_icmp .ge 44, 3) := by decide +kernel
theorem dX2_leastLoaded_17 : decode cX2_leastLoaded 17 = .ok (.iload_n 3, 1) := by decide +kernel
theorem dX2_leastLoaded_18 : decode cX2_leastLoaded 18 = .ok (.iconst (-1), 1) := by decide +kernel
theorem dX2_leastLoaded_19 : decode cX2_leastLoaded 19 = .ok (.if_icmp .eq 19, 3) := by decide +kernel
theorem dX2_leastLoaded_22 : decode cX2_leastLoaded 22 = .ok (.aload_n 0, 1) := by decide +kernel
theorem dX2_leastLoaded_23 : decode cX2_leastLoaded 23 = .ok (.getfield 18, 3) := by decide +kernel
theorem dX2_leastLoaded_26 : decode cX2_leastLoaded 26 = .ok (.iload 4, 2) := by decide +kernel
theorem dX2_leastLoaded_28 : decode cX2_leastLoaded 28 = .ok (.iaload, 1) := by decide +kernel
theorem dX2_leastLoaded_29 : decode cX2_leastLoaded 29 = .ok (.aload_n 0, 1) := by decide +kernel
theorem dX2_leastLoaded_30 : decode cX2_leastLoaded 30 = .ok (.getfield 18, 3) := by decide +kernel
theorem dX2_leastLoaded_33 : decode cX2_leastLoaded 33 = .ok (.iload_n 3, 1) := by decide +kernel
theorem dX2_leastLoaded_34 : decode cX2_leastLoaded 34 = .ok (.iaload, 1) := by decide +kernel
theorem dX2_leastLoaded_35 : decode cX2_leastLoaded 35 = .ok (.if_icmp .ge 17, 3) := by decide +kernel
theorem dX2_leastLoaded_38 : decode cX2_leastLoaded 38 = .ok (.aload_n 0, 1) := by decide +kernel
theorem dX2_leastLoaded_39 : decode cX2_leastLoaded 39 = .ok (.iload 4, 2) := by decide +kernel
theorem dX2_leastLoaded_41 : decode cX2_leastLoaded 41 = .ok (.iload_n 1, 1) := by decide +kernel
theorem dX2_leastLoaded_42 : decode cX2_leastLoaded 42 = .ok (.iload_n 2, 1) := by decide +kernel
theorem dX2_leastLoaded_43 : decode cX2_leastLoaded 43 = .ok (.invokevirtual 77, 3) := by decide +kernel
theorem dX2_leastLoaded_46 : decode cX2_leastLoaded 46 = .ok (.ifCond .eq 6, 3) := by decide +kernel
theorem dX2_leastLoaded_49 : decode cX2_leastLoaded 49 = .ok (.iload 4, 2) := by decide +kernel
theorem dX2_leastLoaded_51 : decode cX2_leastLoaded 51 = .ok (.istore_n 3, 1) := by decide +kernel
theorem dX2_leastLoaded_52 : decode cX2_leastLoaded 52 = .ok (.iinc 4 1, 3) := by decide +kernel
theorem dX2_leastLoaded_55 : decode cX2_leastLoaded 55 = .ok (.goto (-50), 3) := by decide +kernel
theorem dX2_leastLoaded_58 : decode cX2_leastLoaded 58 = .ok (.iload_n 3, 1) := by decide +kernel
theorem dX2_leastLoaded_59 : decode cX2_leastLoaded 59 = .ok (.ireturn, 1) := by decide +kernel
set_option maxRecDepth 20000 in
theorem ggX2_tallyUpTo_J7_fill_53178 : GoodIn wsX2_tallyUpTo wsJ7_fill_53178 := goodIn_r _ [6] (by decide +kernel) (by decide +kernel)
set_option maxRecDepth 20000 in
theorem gX2_tallyUpTo_J7_fill_53178 : GoodIn wsX2_tallyUpTo (va_wsS RX2 80 yJ7_fill_53178 wsJ7_fill_53178) := goodIn_app (goodIn_of _ (by decide +kernel)) ggX2_tallyUpTo_J7_fill_53178
set_option maxRecDepth 20000 in
theorem ggX2_tallyUpTo_X2_addToTally : GoodIn wsX2_tallyUpTo wsX2_addToTally := goodIn_r _ [11, 12, 1, 13, 14, 15, 16, 17, 18, 19, 20, 21, 22, 23, 24, 25, 26] (by decide +kernel) (by decide +kernel)
set_option maxRecDepth 20000 in
theorem gX2_tallyUpTo_X2_addToTally : GoodIn wsX2_tallyUpTo (wsV RX2 86 RX2 yX2_addToTally wsX2_addToTally) := goodIn_app (goodIn_of _ (by decide +kernel)) ggX2_tallyUpTo_X2_addToTally
theorem dX2_tallyUpTo_0 : decode cX2_tallyUpTo 0 = .ok (.aload_n 0, 1) := by decide +kernel
theorem dX2_tallyUpTo_1 : decode cX2_tallyUpTo 1 = .ok (.getfield 21, 3) := by decide +kernel
theorem dX2_tallyUpTo_4 : decode cX2_tallyUpTo 4 = .ok (.iconst 0, 1) := by decide +kernel
theorem dX2_tallyUpTo_5 : decode cX2_tallyUpTo 5 = .ok (.invokestatic 80, 3) := by decide +kernel
theorem dX2_tallyUpTo_8 : decode cX2_tallyUpTo 8 = .ok (.iconst 0, 1) := by decide +kernel
theorem dX2_tallyUpTo_9 : decode cX2_tallyUpTo 9 = .ok (.istore_n 2, 1) := by decide +kernel
theorem dX2_tallyUpTo_10 : decode cX2_tallyUpTo 10 = .ok (.iload_n 2, 1) := by decide +kernel
theorem dX2_tallyUpTo_11 : decode cX2_tallyUpTo 11 = .ok (.iload_n 1, 1) := by decide +kernel
theorem dX2_tallyUpTo_12 : decode cX2_tallyUpTo 12 = .ok (.if_icmp .gt 35, 3) := by decide +kernel
theorem dX2_tallyUpTo_15 : decode cX2_tallyUpTo 15 = .ok (.iload_n 2, 1) := by decide +kernel
theorem dX2_tallyUpTo_16 : decode cX2_tallyUpTo 16 = .ok (.sipush 1000, 3) := by decide +kernel
theorem dX2_tallyUpTo_19 : decode cX2_tallyUpTo 19 = .ok (.if_icmp .ge 28, 3) := by decide +kernel
theorem dX2_tallyUpTo_22 : decode cX2_tallyUpTo 22 = .ok (.aload_n 0, 1) := by decide +kernel
theorem dX2_tallyUpTo_23 : decode cX2_tallyUpTo 23 = .ok (.getfield 15, 3) := by decide +kernel
theorem dX2_tallyUpTo_26 : decode cX2_tallyUpTo 26 = .ok (.iload_n 2, 1) := by decide +kernel
theorem dX2_tallyUpTo_27 : decode cX2_tallyUpTo 27 = .ok (.iaload, 1) := by decide +kernel
theorem dX2_tallyUpTo_28 : decode cX2_tallyUpTo 28 = .ok (.ifCond .eq 13, 3) := by decide +kernel
theorem dX2_tallyUpTo_31 : decode cX2_tallyUpTo 31 = .ok (.aload_n 0, 1) := by decide +kernel
theorem dX2_tallyUpTo_32 : decode cX2_tallyUpTo 32 = .ok (.aload_n 0, 1) := by decide +kernel
theorem dX2_tallyUpTo_33 : decode cX2_tallyUpTo 33 = .ok (.getfield 15, 3) := by decide +kernel
theorem dX2_tallyUpTo_36 : decode cX2_tallyUpTo 36 = .ok (.iload_n 2, 1) := by decide +kernel
theorem dX2_tallyUpTo_37 : decode cX2_tallyUpTo 37 = .ok (.iaload, 1) := by decide +kernel
theorem dX2_tallyUpTo_38 : decode cX2_tallyUpTo 38 = .ok (.invokevirtual 86, 3) := by decide +kernel
theorem dX2_tallyUpTo_41 : decode cX2_tallyUpTo 41 = .ok (.iinc 2 1, 3) := by decide +kernel
theorem dX2_tallyUpTo_44 : decode cX2_tallyUpTo 44 = .ok (.goto (-34), 3) := by decide +kernel
theorem dX2_tallyUpTo_47 : decode cX2_tallyUpTo 47 = .ok (.aload_n 0, 1) := by decide +kernel
theorem dX2_tallyUpTo_48 : decode cX2_tallyUpTo 48 = .ok (.getfield 21, 3) := by decide +kernel
theorem dX2_tallyUpTo_51 : decode cX2_tallyUpTo 51 = .ok (.areturn, 1) := by decide +kernel
theorem dX2_addToTally_0 : decode cX2_addToTally 0 = .ok (.iconst 0, 1) := by decide +kernel
theorem dX2_addToTally_1 : decode cX2_addToTally 1 = .ok (.istore_n 2, 1) := by decide +kernel
theorem dX2_addToTally_2 : decode cX2_addToTally 2 = .ok (.iload_n 2, 1) := by decide +kernel
theorem dX2_addToTally_3 : decode cX2_addToTally 3 = .ok (.aload_n 0, 1) := by decide +kernel
theorem dX2_addToTally_4 : decode cX2_addToTally 4 = .ok (.getfield 24, 3) := by decide +kernel
theorem dX2_addToTally_7 : decode cX2_addToTally 7 = .ok (.getfield 73, 3) := by decide +kernel
theorem dX2_addToTally_10 : decode cX2_addToTally 10 = .ok (.if_icmp .ge 23, 3) := by decide +kernel
theorem dX2_addToTally_13 : decode cX2_addToTally 13 = .ok (.aload_n 0, 1) := by decide +kernel
theorem dX2_addToTally_14 : decode cX2_addToTally 14 = .ok (.getfield 21, 3) := by decide +kernel
theorem dX2_addToTally_17 : decode cX2_addToTally 17 = .ok (.iload_n 2, 1) := by decide +kernel
theorem dX2_addToTally_18 : decode cX2_addToTally 18 = .ok (.dup2, 1) := by decide +kernel
theorem dX2_addToTally_19 : decode cX2_addToTally 19 = .ok (.iaload, 1) := by decide +kernel
theorem dX2_addToTally_20 : decode cX2_addToTally 20 = .ok (.iload_n 1, 1) := by decide +kernel
theorem dX2_addToTally_21 : decode cX2_addToTally 21 = .ok (.iload_n 2, 1) := by decide +kernel
theorem dX2_addToTally_22 : decode cX2_addToTally 22 = .ok (.ishr, 1) := by decide +kernel
theorem dX2_addToTally_23 : decode cX2_addToTally 23 = .ok (.iconst 1, 1) := by decide +kernel
theorem dX2_addToTally_24 : decode cX2_addToTally 24 = .ok (.iand, 1) := by decide +kernel
theorem dX2_addToTally_25 : decode cX2_addToTally 25 = .ok (.iadd, 1) := by decide +kernel
theorem dX2_addToTally_26 : decode cX2_addToTally 26 = .ok (.iastore, 1) := by decide +kernel
theorem dX2_addToTally_27 : decode cX2_addToTally 27 = .ok (.iinc 2 1, 3) := by decide +kernel
theorem dX2_addToTally_30 : decode cX2_addToTally 30 = .ok (.goto (-28), 3) := by decide +kernel
theorem dX2_addToTally_33 : decode cX2_addToTally 33 = .ok (.return_, 1) := by decide +kernel
theorem dX2_allDuties_0 : decode cX2_allDuties 0 = .ok (.iconst 0, 1) := by decide +kernel
theorem dX2_allDuties_1 : decode cX2_allDuties 1 = .ok (.istore_n 1, 1) := by decide +kernel
theorem dX2_allDuties_2 : decode cX2_allDuties 2 = .ok (.iconst 0, 1) := by decide +kernel
theorem dX2_allDuties_3 : decode cX2_allDuties 3 = .ok (.istore_n 2, 1) := by decide +kernel
theorem dX2_allDuties_4 : decode cX2_allDuties 4 = .ok (.iload_n 2, 1) := by decide +kernel
theorem dX2_allDuties_5 : decode cX2_allDuties 5 = .ok (.aload_n 0, 1) := by decide +kernel
theorem dX2_allDuties_6 : decode cX2_allDuties 6 = .ok (.getfield 24, 3) := by decide +kernel
theorem dX2_allDuties_9 : decode cX2_allDuties 9 = .ok (.getfield 73, 3) := by decide +kernel
theorem dX2_allDuties_12 : decode cX2_allDuties 12 = .ok (.if_icmp .ge 18, 3) := by decide +kernel
theorem dX2_allDuties_15 : decode cX2_allDuties 15 = .ok (.iload_n 1, 1) := by decide +kernel
theorem dX2_allDuties_16 : decode cX2_allDuties 16 = .ok (.aload_n 0, 1) := by decide +kernel
theorem dX2_allDuties_17 : decode cX2_allDuties 17 = .ok (.getfield 18, 3) := by decide +kernel
theorem dX2_allDuties_20 : decode cX2_allDuties 20 = .ok (.iload_n 2, 1) := by decide +kernel
theorem dX2_allDuties_21 : decode cX2_allDuties 21 = .ok (.iaload, 1) := by decide +kernel
theorem dX2_allDuties_22 : decode cX2_allDuties 22 = .ok (.iadd, 1) := by decide +kernel
theorem dX2_allDuties_23 : decode cX2_allDuties 23 = .ok (.istore_n 1, 1) := by decide +kernel
theorem dX2_allDuties_24 : decode cX2_allDuties 24 = .ok (.iinc 2 1, 3) := by decide +kernel
theorem dX2_allDuties_27 : decode cX2_allDuties 27 = .ok (.goto (-23), 3) := by decide +kernel
theorem dX2_allDuties_30 : decode cX2_allDuties 30 = .ok (.iload_n 1, 1) := by decide +kernel
theorem dX2_allDuties_31 : decode cX2_allDuties 31 = .ok (.ireturn, 1) := by decide +kernel
set_option maxRecDepth 20000 in
theorem ggX3_init_J7_fill_53178 : GoodIn wsX3_init wsJ7_fill_53178 := goodIn_r _ [15] (by decide +kernel) (by decide +kernel)
set_option maxRecDepth 20000 in
theorem gX3_init_J7_fill_53178 : GoodIn wsX3_init (va_wsS RX3 33 yJ7_fill_53178 wsJ7_fill_53178) := goodIn_app (goodIn_of _ (by decide +kernel)) ggX3_init_J7_fill_53178
theorem dX3_init_0 : decode cX3_init 0 = .ok (.aload_n 0, 1) := by decide +kernel
theorem dX3_init_1 : decode cX3_init 1 = .ok (.invokespecial 3, 3) := by decide +kernel
theorem dX3_init_4 : decode cX3_init 4 = .ok (.aload_n 0, 1) := by decide +kernel
theorem dX3_init_5 : decode cX3_init 5 = .ok (.bipush 24, 2) := by decide +kernel
theorem dX3_init_7 : decode cX3_init 7 = .ok (.newarray .int, 2) := by decide +kernel
theorem dX3_init_9 : decode cX3_init 9 = .ok (.putfield 9, 3) := by decide +kernel
theorem dX3_init_12 : decode cX3_init 12 = .ok (.aload_n 0, 1) := by decide +kernel
theorem dX3_init_13 : decode cX3_init 13 = .ok (.bipush 24, 2) := by decide +kernel
theorem dX3_init_15 : decode cX3_init 15 = .ok (.newarray .int, 2) := by decide +kernel
theorem dX3_init_17 : decode cX3_init 17 = .ok (.putfield 15, 3) := by decide +kernel
theorem dX3_init_20 : decode cX3_init 20 = .ok (.aload_n 0, 1) := by decide +kernel
theorem dX3_init_21 : decode cX3_init 21 = .ok (.bipush 24, 2) := by decide +kernel
theorem dX3_init_23 : decode cX3_init 23 = .ok (.newarray .int, 2) := by decide +kernel
theorem dX3_init_25 : decode cX3_init 25 = .ok (.putfield 18, 3) := by decide +kernel
theorem dX3_init_28 : decode cX3_init 28 = .ok (.aload_n 0, 1) := by decide +kernel
theorem dX3_init_29 : decode cX3_init 29 = .ok (.bipush 24, 2) := by decide +kernel
theorem dX3_init_31 : decode cX3_init 31 = .ok (.newarray .int, 2) := by decide +kernel
theorem dX3_init_33 : decode cX3_init 33 = .ok (.putfield 21, 3) := by decide +kernel
theorem dX3_init_36 : decode cX3_init 36 = .ok (.aload_n 0, 1) := by decide +kernel
theorem dX3_init_37 : decode cX3_init 37 = .ok (.bipush 24, 2) := by decide +kernel
theorem dX3_init_39 : decode cX3_init 39 = .ok (.newarray .int, 2) := by decide +kernel
theorem dX3_init_41 : decode cX3_init 41 = .ok (.putfield 24, 3) := by decide +kernel
theorem dX3_init_44 : decode cX3_init 44 = .ok (.aload_n 0, 1) := by decide +kernel
theorem dX3_init_45 : decode cX3_init 45 = .ok (.sipush 1000, 3) := by decide +kernel
theorem dX3_init_48 : decode cX3_init 48 = .ok (.newarray .int, 2) := by decide +kernel
theorem dX3_init_50 : decode cX3_init 50 = .ok (.putfield 27, 3) := by decide +kernel
theorem dX3_init_53 : decode cX3_init 53 = .ok (.aload_n 0, 1) := by decide +kernel
theorem dX3_init_54 : decode cX3_init 54 = .ok (.bipush 100, 2) := by decide +kernel
theorem dX3_init_56 : decode cX3_init 56 = .ok (.newarray .int, 2) := by decide +kernel
theorem dX3_init_58 : decode cX3_init 58 = .ok (.putfield 30, 3) := by decide +kernel
theorem dX3_init_61 : decode cX3_init 61 = .ok (.aload_n 0, 1) := by decide +kernel
theorem dX3_init_62 : decode cX3_init 62 = .ok (.getfield 21, 3) := by decide +kernel
theorem dX3_init_65 : decode cX3_init 65 = .ok (.iconst (-1), 1) := by decide +kernel
theorem dX3_init_66 : decode cX3_init 66 = .ok (.invokestatic 33, 3) := by decide +kernel
theorem dX3_init_69 : decode cX3_init 69 = .ok (.aload_n 0, 1) := by decide +kernel
theorem dX3_init_70 : decode cX3_init 70 = .ok (.getfield 30, 3) := by decide +kernel
theorem dX3_init_73 : decode cX3_init 73 = .ok (.iconst (-1), 1) := by decide +kernel
theorem dX3_init_74 : decode cX3_init 74 = .ok (.invokestatic 33, 3) := by decide +kernel
theorem dX3_init_77 : decode cX3_init 77 = .ok (.iconst 0, 1) := by decide +kernel
theorem dX3_init_78 : decode cX3_init 78 = .ok (.istore_n 1, 1) := by decide +kernel
theorem dX3_init_79 : decode cX3_init 79 = .ok (.iload_n 1, 1) := by decide +kernel
theorem dX3_init_80 : decode cX3_init 80 = .ok (.bipush 10, 2) := by decide +kernel
theorem dX3_init_82 : decode cX3_init 82 = .ok (.if_icmp .ge 22, 3) := by decide +kernel
theorem dX3_init_85 : decode cX3_init 85 = .ok (.aload_n 0, 1) := by decide +kernel
theorem dX3_init_86 : decode cX3_init 86 = .ok (.getfield 30, 3) := by decide +kernel
theorem dX3_init_89 : decode cX3_init 89 = .ok (.iload_n 1, 1) := by decide +kernel
theorem dX3_init_90 : decode cX3_init 90 = .ok (.bipush 10, 2) := by decide +kernel
theorem dX3_init_92 : decode cX3_init 92 = .ok (.imul, 1) := by decide +kernel
theorem dX3_init_93 : decode cX3_init 93 = .ok (.iload_n 1, 1) := by decide +kernel
theorem dX3_init_94 : decode cX3_init 94 = .ok (.iadd, 1) := by decide +kernel
theorem dX3_init_95 : decode cX3_init 95 = .ok (.bipush 10, 2) := by decide +kernel
theorem dX3_init_97 : decode cX3_init 97 = .ok (.iastore, 1) := by decide +kernel
theorem dX3_init_98 : decode cX3_init 98 = .ok (.iinc 1 1, 3) := by decide +kernel
theorem dX3_init_101 : decode cX3_init 101 = .ok (.goto (-22), 3) := by decide +kernel
theorem dX3_init_104 : decode cX3_init 104 = .ok (.return_, 1) := by decide +kernel
set_option maxRecDepth 20000 in
theorem ggX3_has_X7_isBelow : GoodIn wsX3_has wsX7_isBelow := goodIn_r _ [4] (by decide +kernel) (by decide +kernel)
set_option maxRecDepth 20000 in
theorem gX3_has_X7_isBelow_n43 : GoodIn wsX3_has (wsX7_isBelow) := ggX3_has_X7_isBelow
theorem dX3_has_0 : decode cX3_has 0 = .ok (.iload_n 1, 1) := by decide +kernel
theorem dX3_has_1 : decode cX3_has 1 = .ok (.aload_n 0, 1) := by decide +kernel
theorem dX3_has_2 : decode cX3_has 2 = .ok (.getfield 39, 3) := by decide +kernel
theorem dX3_has_5 : decode cX3_has 5 = .ok (.invokestatic 43, 3) := by decide +kernel
theorem dX3_has_8 : decode cX3_has 8 = .ok (.ireturn, 1) := by decide +kernel
theorem dX3_add_0 : decode cX3_add 0 = .ok (.aload_n 0, 1) := by decide +kernel
theorem dX3_add_1 : decode cX3_add 1 = .ok (.getfield 9, 3) := by decide +kernel
theorem dX3_add_4 : decode cX3_add 4 = .ok (.aload_n 0, 1) := by decide +kernel
theorem dX3_add_5 : decode cX3_add 5 = .ok (.getfield 39, 3) := by decide +kernel
theorem dX3_add_8 : decode cX3_add 8 = .ok (.iload_n 1, 1) := by decide +kernel
theorem dX3_add_9 : decode cX3_add 9 = .ok (.iastore, 1) := by decide +kernel
theorem dX3_add_10 : decode cX3_add 10 = .ok (.aload_n 0, 1) := by decide +kernel
theorem dX3_add_11 : decode cX3_add 11 = .ok (.getfield 15, 3) := by decide +kernel
theorem dX3_add_14 : decode cX3_add 14 = .ok (.aload_n 0, 1) := by decide +kernel
theorem dX3_add_15 : decode cX3_add 15 = .ok (.getfield 39, 3) := by decide +kernel
theorem dX3_add_18 : decode cX3_add 18 = .ok (.iload_n 2, 1) := by decide +kernel
theorem dX3_add_19 : decode cX3_add 19 = .ok (.iastore, 1) := by decide +kernel
theorem dX3_add_20 : decode cX3_add 20 = .ok (.aload_n 0, 1) := by decide +kernel
theorem dX3_add_21 : decode cX3_add 21 = .ok (.getfield 18, 3) := by decide +kernel
theorem dX3_add_24 : decode cX3_add 24 = .ok (.aload_n 0, 1) := by decide +kernel
theorem dX3_add_25 : decode cX3_add 25 = .ok (.getfield 39, 3) := by decide +kernel
theorem dX3_add_28 : decode cX3_add 28 = .ok (.iload_n 3, 1) := by decide +kernel
theorem dX3_add_29 : decode cX3_add 29 = .ok (.iastore, 1) := by decide +kernel
theorem dX3_add_30 : decode cX3_add 30 = .ok (.aload_n 0, 1) := by decide +kernel
theorem dX3_add_31 : decode cX3_add 31 = .ok (.dup, 1) := by decide +kernel
theorem dX3_add_32 : decode cX3_add 32 = .ok (.getfield 39, 3) := by decide +kernel
theorem dX3_add_35 : decode cX3_add 35 = .ok (.iconst 1, 1) := by decide +kernel
theorem dX3_add_36 : decode cX3_add 36 = .ok (.iadd, 1) := by decide +kernel
theorem dX3_add_37 : decode cX3_add 37 = .ok (.putfield 39, 3) := by decide +kernel
theorem dX3_add_40 : decode cX3_add 40 = .ok (.aload_n 0, 1) := by decide +kernel
theorem dX3_add_41 : decode cX3_add 41 = .ok (.getfield 39, 3) := by decide +kernel
theorem dX3_add_44 : decode cX3_add 44 = .ok (.iconst 1, 1) := by decide +kernel
theorem dX3_add_45 : decode cX3_add 45 = .ok (.isub, 1) := by decide +kernel
theorem dX3_add_46 : decode cX3_add 46 = .ok (.ireturn, 1) := by decide +kernel
set_option maxRecDepth 20000 in
theorem ggX3_isOn_X7_hasBit : GoodIn wsX3_isOn wsX7_hasBit := goodIn_r _ [4] (by decide +kernel) (by decide +kernel)
set_option maxRecDepth 20000 in
theorem gX3_isOn_X7_hasBit_n47 : GoodIn wsX3_isOn (wsX7_hasBit) := ggX3_isOn_X7_hasBit
theorem dX3_isOn_0 : decode cX3_isOn 0 = .ok (.aload_n 0, 1) := by decide +kernel
theorem dX3_isOn_1 : decode cX3_isOn 1 = .ok (.getfield 15, 3) := by decide +kernel
theorem dX3_isOn_4 : decode cX3_isOn 4 = .ok (.iload_n 1, 1) := by decide +kernel
theorem dX3_isOn_5 : decode cX3_isOn 5 = .ok (.iaload, 1) := by decide +kernel
theorem dX3_isOn_6 : decode cX3_isOn 6 = .ok (.iload_n 2, 1) := by decide +kernel
theorem dX3_isOn_7 : decode cX3_isOn 7 = .ok (.invokestatic 47, 3) := by decide +kernel
theorem dX3_isOn_10 : decode cX3_isOn 10 = .ok (.ireturn, 1) := by decide +kernel
set_option maxRecDepth 20000 in
theorem ggX3_speaks_X7_hasBit : GoodIn wsX3_speaks wsX7_hasBit := goodIn_r _ [4] (by decide +kernel) (by decide +kernel)
set_option maxRecDepth 20000 in
theorem gX3_speaks_X7_hasBit_n47 : GoodIn wsX3_speaks (wsX7_hasBit) := ggX3_speaks_X7_hasBit
theorem dX3_speaks_0 : decode cX3_speaks 0 = .ok (.iload_n 2, 1) := by decide +kernel
theorem dX3_speaks_1 : decode cX3_speaks 1 = .ok (.iconst (-1), 1) := by decide +kernel
theorem dX3_speaks_2 : decode cX3_speaks 2 = .ok (.if_icmp .eq 16, 3) := by decide +kernel
theorem dX3_speaks_5 : decode cX3_speaks 5 = .ok (.aload_n 0, 1) := by decide +kernel
theorem dX3_speaks_6 : decode cX3_speaks 6 = .ok (.getfield 18, 3) := by decide +kernel
theorem dX3_speaks_9 : decode cX3_speaks 9 = .ok (.iload_n 1, 1) := by decide +kernel
theorem dX3_speaks_10 : decode cX3_speaks 10 = .ok (.iaload, 1) := by decide +kernel
theorem dX3_speaks_11 : decode cX3_speaks 11 = .ok (.iload_n 2, 1) := by decide +kernel
theorem dX3_speaks_12 : decode cX3_speaks 12 = .ok (.invokestatic 47, 3) := by decide +kernel
theorem dX3_speaks_15 : decode cX3_speaks 15 = .ok (.ifCond .eq 7, 3) := by decide +kernel
theorem dX3_speaks_18 : decode cX3_speaks 18 = .ok (.iconst 1, 1) := by decide +kernel
theorem dX3_speaks_19 : decode cX3_speaks 19 = .ok (.goto 4, 3) := by decide +kernel
theorem dX3_speaks_22 : decode cX3_speaks 22 = .ok (.iconst 0, 1) := by decide +kernel
theorem dX3_speaks_23 : decode cX3_speaks 23 = .ok (.ireturn, 1) := by decide +kernel
set_option maxRecDepth 20000 in
theorem ggX3_isAway_X7_hasBit : GoodIn wsX3_isAway wsX7_hasBit := goodIn_r _ [4] (by decide +kernel) (by decide +kernel)
set_option maxRecDepth 20000 in
theorem gX3_isAway_X7_hasBit_n47 : GoodIn wsX3_isAway (wsX7_hasBit) := ggX3_isAway_X7_hasBit
theorem dX3_isAway_0 : decode cX3_isAway 0 = .ok (.aload_n 0, 1) := by decide +kernel
theorem dX3_isAway_1 : decode cX3_isAway 1 = .ok (.getfield 27, 3) := by decide +kernel
theorem dX3_isAway_4 : decode cX3_isAway 4 = .ok (.iload_n 2, 1) := by decide +kernel
theorem dX3_isAway_5 : decode cX3_isAway 5 = .ok (.iaload, 1) := by decide +kernel
theorem dX3_isAway_6 : decode cX3_isAway 6 = .ok (.iload_n 1, 1) := by decide +kernel
theorem dX3_isAway_7 : decode cX3_isAway 7 = .ok (.invokestatic 47, 3) := by decide +kernel
theorem dX3_isAway_10 : decode cX3_isAway 10 = .ok (.ireturn, 1) := by decide +kernel
theorem dX3_turnAway_0 : decode cX3_turnAway 0 = .ok (.aload_n 0, 1) := by decide +kernel
theorem dX3_turnAway_1 : decode cX3_turnAway 1 = .ok (.getfield 27, 3) := by decide +kernel
theorem dX3_turnAway_4 : decode cX3_turnAway 4 = .ok (.iload_n 2, 1) := by decide +kernel
theorem dX3_turnAway_5 : decode cX3_turnAway 5 = .ok (.dup2, 1) := by decide +kernel
theorem dX3_turnAway_6 : decode cX3_turnAway 6 = .ok (.iaload, 1) := by decide +kernel
theorem dX3_turnAway_7 : decode cX3_turnAway 7 = .ok (.iconst 1, 1) := by decide +kernel
theorem dX3_turnAway_8 : decode cX3_turnAway 8 = .ok (.iload_n 1, 1) := by decide +kernel
theorem dX3_turnAway_9 : decode cX3_turnAway 9 = .ok (.ishl, 1) := by decide +kernel
theorem dX3_turnAway_10 : decode cX3_turnAway 10 = .ok (.ixor, 1) := by decide +kernel
theorem dX3_turnAway_11 : decode cX3_turnAway 11 = .ok (.iastore, 1) := by decide +kernel
theorem dX3_turnAway_12 : decode cX3_turnAway 12 = .ok (.return_, 1) := by decide +kernel
theorem dX3_isStruck_0 : decode cX3_isStruck 0 = .ok (.aload_n 0, 1) := by decide +kernel
theorem dX3_isStruck_1 : decode cX3_isStruck 1 = .ok (.getfield 21, 3) := by decide +kernel
theorem dX3_isStruck_4 : decode cX3_isStruck 4 = .ok (.iload_n 1, 1) := by decide +kernel
theorem dX3_isStruck_5 : decode cX3_isStruck 5 = .ok (.iaload, 1) := by decide +kernel
theorem dX3_isStruck_6 : decode cX3_isStruck 6 = .ok (.iconst (-1), 1) := by decide +kernel
theorem dX3_isStruck_7 : decode cX3_isStruck 7 = .ok (.if_icmp .eq 17, 3) := by decide +kernel
theorem dX3_isStruck_10 : decode cX3_isStruck 10 = .ok (.iload_n 2, 1) := by decide +kernel
theorem dX3_isStruck_11 : decode cX3_isStruck 11 = .ok (.aload_n 0, 1) := by decide +kernel
theorem dX3_isStruck_12 : decode cX3_isStruck 12 = .ok (.getfield 21, 3) := by decide +kernel
theorem dX3_isStruck_15 : decode cX3_isStruck 15 = .ok (.iload_n 1, 1) := by decide +kernel
theorem dX3_isStruck_16 : decode cX3_isStruck 16 = .ok (.iaload, 1) := by decide +kernel
theorem dX3_isStruck_17 : decode cX3_isStruck 17 = .ok (.if_icmp .lt 7, 3) := by decide +kernel
theorem dX3_isStruck_20 : decode cX3_isStruck 20 = .ok (.iconst 1, 1) := by decide +kernel
theorem dX3_isStruck_21 : decode cX3_isStruck 21 = .ok (.goto 4, 3) := by decide +kernel
theorem dX3_isStruck_24 : decode cX3_isStruck 24 = .ok (.iconst 0, 1) := by decide +kernel
theorem dX3_isStruck_25 : decode cX3_isStruck 25 = .ok (.ireturn, 1) := by decide +kernel
set_option maxRecDepth 20000 in
theorem ggX3_isThere_X7_hasBit : GoodIn wsX3_isThere wsX7_hasBit := goodIn_r _ [4] (by decide +kernel) (by decide +kernel)
set_option maxRecDepth 20000 in
theorem gX3_isThere_X7_hasBit_n47 : GoodIn wsX3_isThere (wsX7_hasBit) := ggX3_isThere_X7_hasBit
set_option maxRecDepth 20000 in
theorem ggX3_isThere_X3_isStruck : GoodIn wsX3_isThere wsX3_isStruck := goodIn_r _ [9, 10, 11, 12, 13, 14, 15, 16, 17, 18] (by decide +kernel) (by decide +kernel)
set_option maxRecDepth 20000 in
theorem gX3_isThere_X3_isStruck : GoodIn wsX3_isThere (wsV RX3 50 RX3 yX3_isStruck wsX3_isStruck) := goodIn_app (goodIn_of _ (by decide +kernel)) ggX3_isThere_X3_isStruck
theorem dX3_isThere_0 : decode cX3_isThere 0 = .ok (.aload_n 0, 1) := by decide +kernel
theorem dX3_isThere_1 : decode cX3_isThere 1 = .ok (.getfield 27, 3) := by decide +kernel
theorem dX3_isThere_4 : decode cX3_isThere 4 = .ok (.iload_n 2, 1) := by decide +kernel
theorem dX3_isThere_5 : decode cX3_isThere 5 = .ok (.iaload, 1) := by decide +kernel
theorem dX3_isThere_6 : decode cX3_isThere 6 = .ok (.iload_n 1, 1) := by decide +kernel
theorem dX3_isThere_7 : decode cX3_isThere 7 = .ok (.invokestatic 47, 3) := by decide +kernel
theorem dX3_isThere_10 : decode cX3_isThere 10 = .ok (.ifCond .ne 16, 3) := by decide +kernel
theorem dX3_isThere_13 : decode cX3_isThere 13 = .ok (.aload_n 0, 1) := by decide +kernel
theorem dX3_isThere_14 : decode cX3_isThere 14 = .ok (.iload_n 1, 1) := by decide +kernel
theorem dX3_isThere_15 : decode cX3_isThere 15 = .ok (.iload_n 2, 1) := by decide +kernel
theorem dX3_isThere_16 : decode cX3_isThere 16 = .ok (.invokevirtual 50, 3) := by decide +kernel
theorem dX3_isThere_19 : decode cX3_isThere 19 = .ok (.ifCond .ne 7, 3) := by decide +kernel
theorem dX3_isThere_22 : decode cX3_isThere 22 = .ok (.iconst 1, 1) := by decide +kernel
theorem dX3_isThere_23 : decode cX3_isThere 23 = .ok (.goto 4, 3) := by decide +kernel
theorem dX3_isThere_26 : decode cX3_isThere 26 = .ok (.iconst 0, 1) := by decide +kernel
theorem dX3_isThere_27 : decode cX3_isThere 27 = .ok (.ireturn, 1) := by decide +kernel
theorem dX3_minutesBetween_0 : decode cX3_minutesBetween 0 = .ok (.aload_n 0, 1) := by decide +kernel
theorem dX3_minutesBetween_1 : decode cX3_minutesBetween 1 = .ok (.getfield 30, 3) := by decide +kernel
theorem dX3_minutesBetween_4 : decode cX3_minutesBetween 4 = .ok (.iload_n 1, 1) := by decide +kernel
theorem dX3_minutesBetween_5 : decode cX3_minutesBetween 5 = .ok (.bipush 10, 2) := by decide +kernel
theorem dX3_minutesBetween_7 : decode cX3_minutesBetween 7 = .ok (.imul, 1) := by decide +kernel
theorem dX3_minutesBetween_8 : decode cX3_minutesBetween 8 = .ok (.iload_n 2, 1) := by decide +kernel
theorem dX3_minutesBetween_9 : decode cX3_minutesBetween 9 = .ok (.iadd, 1) := by decide +kernel
theorem dX3_minutesBetween_10 : decode cX3_minutesBetween 10 = .ok (.iaload, 1) := by decide +kernel
theorem dX3_minutesBetween_11 : decode cX3_minutesBetween 11 = .ok (.ireturn, 1) := by decide +kernel
theorem dX3_setMinutes_0 : decode cX3_setMinutes 0 = .ok (.aload_n 0, 1) := by decide +kernel
theorem dX3_setMinutes_1 : decode cX3_setMinutes 1 = .ok (.getfield 30, 3) := by decide +kernel
theorem dX3_setMinutes_4 : decode cX3_setMinutes 4 = .ok (.iload_n 1, 1) := by decide +kernel
theorem dX3_setMinutes_5 : decode cX3_setMinutes 5 = .ok (.bipush 10, 2) := by decide +kernel
theorem dX3_setMinutes_7 : decode cX3_setMinutes 7 = .ok (.imul, 1) := by decide +kernel
theorem dX3_setMinutes_8 : decode cX3_setMinutes 8 = .ok (.iload_n 2, 1) := by decide +kernel
theorem dX3_setMinutes_9 : decode cX3_setMinutes 9 = .ok (.iadd, 1) := by decide +kernel
theorem dX3_setMinutes_10 : decode cX3_setMinutes 10 = .ok (.iload_n 3, 1) := by decide +kernel
theorem dX3_setMinutes_11 : decode cX3_setMinutes 11 = .ok (.iastore, 1) := by decide +kernel
theorem dX3_setMinutes_12 : decode cX3_setMinutes 12 = .ok (.aload_n 0, 1) := by decide +kernel
theorem dX3_setMinutes_13 : decode cX3_setMinutes 13 = .ok (.getfield 30, 3) := by decide +kernel
theorem dX3_setMinutes_16 : decode cX3_setMinutes 16 = .ok (.iload_n 2, 1) := by decide +kernel
theorem dX3_setMinutes_17 : decode cX3_setMinutes 17 = .ok (.bipush 10, 2) := by decide +kernel
theorem dX3_setMinutes_19 : decode cX3_setMinutes 19 = .ok (.imul, 1) := by decide +kernel
theorem dX3_setMinutes_20 : decode cX3_setMinutes 20 = .ok (.iload_n 1, 1) := by decide +kernel
theorem dX3_setMinutes_21 : decode cX3_setMinutes 21 = .ok (.iadd, 1) := by decide +kernel
theorem dX3_setMinutes_22 : decode cX3_setMinutes 22 = .ok (.iload_n 3, 1) := by decide +kernel
theorem dX3_setMinutes_23 : decode cX3_setMinutes 23 = .ok (.iastore, 1) := by decide +kernel
theorem dX3_setMinutes_24 : decode cX3_setMinutes 24 = .ok (.return_, 1) := by decide +kernel
theorem dX4_init_0 : decode cX4_init 0 = .ok (.aload_n 0, 1) := by decide +kernel
theorem dX4_init_1 : decode cX4_init 1 = .ok (.invokespecial 5, 3) := by decide +kernel
theorem dX4_init_4 : decode cX4_init 4 = .ok (.aload_n 0, 1) := by decide +kernel
theorem dX4_init_5 : decode cX4_init 5 = .ok (.bipush 16, 2) := by decide +kernel
theorem dX4_init_7 : decode cX4_init 7 = .ok (.newarray .long, 2) := by decide +kernel
theorem dX4_init_9 : decode cX4_init 9 = .ok (.putfield 11, 3) := by decide +kernel
theorem dX4_init_12 : decode cX4_init 12 = .ok (.aload_n 0, 1) := by decide +kernel
theorem dX4_init_13 : decode cX4_init 13 = .ok (.aload_n 1, 1) := by decide +kernel
theorem dX4_init_14 : decode cX4_init 14 = .ok (.putfield 15, 3) := by decide +kernel
theorem dX4_init_17 : decode cX4_init 17 = .ok (.aload_n 0, 1) := by decide +kernel
