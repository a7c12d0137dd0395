theorem dX8_plan_188 : decode cX8_plan 188 = .ok (.iload_n 1, 1) := by decide +kernel
theorem dX8_plan_189 : decode cX8_plan 189 = .ok (.imul, 1) := by decide +kernel
theorem dX8_plan_190 : decode cX8_plan 190 = .ok (.iload_n 2, 1) := by decide +kernel
theorem dX8_plan_191 : decode cX8_plan 191 = .ok (.iadd, 1) := by decide +kernel
theorem dX8_plan_192 : decode cX8_plan 192 = .ok (.iload 5, 2) := by decide +kernel
theorem dX8_plan_194 : decode cX8_plan 194 = .ok (.iadd, 1) := by decide +kernel
theorem dX8_plan_195 : decode cX8_plan 195 = .ok (.aload_n 0, 1) := by decide +kernel
theorem dX8_plan_196 : decode cX8_plan 196 = .ok (.getfield 52, 3) := by decide +kernel
theorem dX8_plan_199 : decode cX8_plan 199 = .ok (.iload 5, 2) := by decide +kernel
theorem dX8_plan_201 : decode cX8_plan 201 = .ok (.iaload, 1) := by decide +kernel
theorem dX8_plan_202 : decode cX8_plan 202 = .ok (.iastore, 1) := by decide +kernel
theorem dX8_plan_203 : decode cX8_plan 203 = .ok (.iinc 5 1, 3) := by decide +kernel
theorem dX8_plan_206 : decode cX8_plan 206 = .ok (.goto (-31), 3) := by decide +kernel
theorem dX8_plan_209 : decode cX8_plan 209 = .ok (.aload_n 0, 1) := by decide +kernel
theorem dX8_plan_210 : decode cX8_plan 210 = .ok (.getfield 214, 3) := by decide +kernel
theorem dX8_plan_213 : decode cX8_plan 213 = .ok (.ireturn, 1) := by decide +kernel
set_option maxRecDepth 20000 in
theorem ggX8_uneven_X8_duties : GoodIn wsX8_uneven wsX8_duties := goodIn_r _ [6, 7, 8, 9, 10, 11, 12, 13, 14, 15, 16, 17, 18, 19, 20, 21, 22, 23, 24, 25, 26, 27, 28, 29, 30, 31, 32, 33, 34, 35, 36, 37, 38, 39, 40, 41, 42, 43, 44, 45, 46, 47, 48, 49, 50, 51, 52] (by decide +kernel) (by decide +kernel)
set_option maxRecDepth 20000 in
theorem gX8_uneven_X8_duties : GoodIn wsX8_uneven (wsV RX8 195 RX8 yX8_duties wsX8_duties) := goodIn_app (goodIn_of _ (by decide +kernel)) ggX8_uneven_X8_duties
theorem dX8_uneven_0 : decode cX8_uneven 0 = .ok (.iconst 0, 1) := by decide +kernel
theorem dX8_uneven_1 : decode cX8_uneven 1 = .ok (.istore_n 1, 1) := by decide +kernel
theorem dX8_uneven_2 : decode cX8_uneven 2 = .ok (.iconst 0, 1) := by decide +kernel
theorem dX8_uneven_3 : decode cX8_uneven 3 = .ok (.istore_n 2, 1) := by decide +kernel
theorem dX8_uneven_4 : decode cX8_uneven 4 = .ok (.iload_n 2, 1) := by decide +kernel
theorem dX8_uneven_5 : decode cX8_uneven 5 = .ok (.aload_n 0, 1) := by decide +kernel
theorem dX8_uneven_6 : decode cX8_uneven 6 = .ok (.getfield 189, 3) := by decide +kernel
theorem dX8_uneven_9 : decode cX8_uneven 9 = .ok (.if_icmp .ge 29, 3) := by decide +kernel
theorem dX8_uneven_12 : decode cX8_uneven 12 = .ok (.iload_n 1, 1) := by decide +kernel
theorem dX8_uneven_13 : decode cX8_uneven 13 = .ok (.aload_n 0, 1) := by decide +kernel
theorem dX8_uneven_14 : decode cX8_uneven 14 = .ok (.iload_n 2, 1) := by decide +kernel
theorem dX8_uneven_15 : decode cX8_uneven 15 = .ok (.sipush 999, 3) := by decide +kernel
theorem dX8_uneven_18 : decode cX8_uneven 18 = .ok (.invokevirtual 195, 3) := by decide +kernel
theorem dX8_uneven_21 : decode cX8_uneven 21 = .ok (.aload_n 0, 1) := by decide +kernel
theorem dX8_uneven_22 : decode cX8_uneven 22 = .ok (.iload_n 2, 1) := by decide +kernel
theorem dX8_uneven_23 : decode cX8_uneven 23 = .ok (.sipush 999, 3) := by decide +kernel
theorem dX8_uneven_26 : decode cX8_uneven 26 = .ok (.invokevirtual 195, 3) := by decide +kernel
theorem dX8_uneven_29 : decode cX8_uneven 29 = .ok (.imul, 1) := by decide +kernel
theorem dX8_uneven_30 : decode cX8_uneven 30 = .ok (.iadd, 1) := by decide +kernel
theorem dX8_uneven_31 : decode cX8_uneven 31 = .ok (.istore_n 1, 1) := by decide +kernel
theorem dX8_uneven_32 : decode cX8_uneven 32 = .ok (.iinc 2 1, 3) := by decide +kernel
theorem dX8_uneven_35 : decode cX8_uneven 35 = .ok (.goto (-31), 3) := by decide +kernel
theorem dX8_uneven_38 : decode cX8_uneven 38 = .ok (.iload_n 1, 1) := by decide +kernel
theorem dX8_uneven_39 : decode cX8_uneven 39 = .ok (.ireturn, 1) := by decide +kernel
theorem dX8_taken_0 : decode cX8_taken 0 = .ok (.iconst 0, 1) := by decide +kernel
theorem dX8_taken_1 : decode cX8_taken 1 = .ok (.istore_n 2, 1) := by decide +kernel
theorem dX8_taken_2 : decode cX8_taken 2 = .ok (.iconst 0, 1) := by decide +kernel
theorem dX8_taken_3 : decode cX8_taken 3 = .ok (.istore_n 3, 1) := by decide +kernel
theorem dX8_taken_4 : decode cX8_taken 4 = .ok (.iload_n 3, 1) := by decide +kernel
theorem dX8_taken_5 : decode cX8_taken 5 = .ok (.aload_n 0, 1) := by decide +kernel
theorem dX8_taken_6 : decode cX8_taken 6 = .ok (.getfield 231, 3) := by decide +kernel
theorem dX8_taken_9 : decode cX8_taken 9 = .ok (.if_icmp .ge 27, 3) := by decide +kernel
theorem dX8_taken_12 : decode cX8_taken 12 = .ok (.iload_n 2, 1) := by decide +kernel
theorem dX8_taken_13 : decode cX8_taken 13 = .ok (.aload_n 0, 1) := by decide +kernel
theorem dX8_taken_14 : decode cX8_taken 14 = .ok (.getfield 85, 3) := by decide +kernel
theorem dX8_taken_17 : decode cX8_taken 17 = .ok (.iload_n 3, 1) := by decide +kernel
theorem dX8_taken_18 : decode cX8_taken 18 = .ok (.iaload, 1) := by decide +kernel
theorem dX8_taken_19 : decode cX8_taken 19 = .ok (.iload_n 1, 1) := by decide +kernel
theorem dX8_taken_20 : decode cX8_taken 20 = .ok (.if_icmp .ne 7, 3) := by decide +kernel
theorem dX8_taken_23 : decode cX8_taken 23 = .ok (.iconst 1, 1) := by decide +kernel
theorem dX8_taken_24 : decode cX8_taken 24 = .ok (.goto 4, 3) := by decide +kernel
theorem dX8_taken_27 : decode cX8_taken 27 = .ok (.iconst 0, 1) := by decide +kernel
theorem dX8_taken_28 : decode cX8_taken 28 = .ok (.iadd, 1) := by decide +kernel
theorem dX8_taken_29 : decode cX8_taken 29 = .ok (.istore_n 2, 1) := by decide +kernel
theorem dX8_taken_30 : decode cX8_taken 30 = .ok (.iinc 3 1, 3) := by decide +kernel
theorem dX8_taken_33 : decode cX8_taken 33 = .ok (.goto (-29), 3) := by decide +kernel
theorem dX8_taken_36 : decode cX8_taken 36 = .ok (.iload_n 2, 1) := by decide +kernel
theorem dX8_taken_37 : decode cX8_taken 37 = .ok (.ireturn, 1) := by decide +kernel
set_option maxRecDepth 20000 in
theorem ggX8_against_X8_isLawyer : GoodIn wsX8_against wsX8_isLawyer := goodIn_r _ [6, 7, 8, 9, 5, 10, 11, 12, 13, 14, 15, 16, 17, 18, 19, 20, 21, 22, 23, 24, 25, 26, 27, 28, 29, 30, 31, 32, 33, 34, 35, 36, 37, 38, 39, 40, 41, 42, 43, 44, 45, 46, 47, 48, 49, 50, 51, 52, 53, 54, 55] (by decide +kernel) (by decide +kernel)
set_option maxRecDepth 20000 in
theorem gX8_against_X8_isLawyer : GoodIn wsX8_against (wsV RX8 192 RX8 yX8_isLawyer wsX8_isLawyer) := goodIn_app (goodIn_of _ (by decide +kernel)) ggX8_against_X8_isLawyer
set_option maxRecDepth 20000 in
theorem ggX8_against_X8_in : GoodIn wsX8_against wsX8_in := goodIn_r _ [10] (by decide +kernel) (by decide +kernel)
set_option maxRecDepth 20000 in
theorem gX8_against_X8_in : GoodIn wsX8_against (va_wsS RX8 166 yX8_in wsX8_in) := goodIn_app (goodIn_of _ (by decide +kernel)) ggX8_against_X8_in
theorem dX8_against_0 : decode cX8_against 0 = .ok (.aload_n 0, 1) := by decide +kernel
theorem dX8_against_1 : decode cX8_against 1 = .ok (.iload_n 1, 1) := by decide +kernel
theorem dX8_against_2 : decode cX8_against 2 = .ok (.invokevirtual 192, 3) := by decide +kernel
theorem dX8_against_5 : decode cX8_against 5 = .ok (.ifCond .eq 13, 3) := by decide +kernel
theorem dX8_against_8 : decode cX8_against 8 = .ok (.iload_n 2, 1) := by decide +kernel
theorem dX8_against_9 : decode cX8_against 9 = .ok (.iconst 0, 1) := by decide +kernel
theorem dX8_against_10 : decode cX8_against 10 = .ok (.bipush 99, 2) := by decide +kernel
theorem dX8_against_12 : decode cX8_against 12 = .ok (.invokestatic 166, 3) := by decide +kernel
theorem dX8_against_15 : decode cX8_against 15 = .ok (.ifCond .ne 6, 3) := by decide +kernel
theorem dX8_against_18 : decode cX8_against 18 = .ok (.bipush (-2), 2) := by decide +kernel
theorem dX8_against_20 : decode cX8_against 20 = .ok (.ireturn, 1) := by decide +kernel
theorem dX8_against_21 : decode cX8_against 21 = .ok (.aload_n 0, 1) := by decide +kernel
theorem dX8_against_22 : decode cX8_against 22 = .ok (.getfield 103, 3) := by decide +kernel
theorem dX8_against_25 : decode cX8_against 25 = .ok (.bipush 100, 2) := by decide +kernel
theorem dX8_against_27 : decode cX8_against 27 = .ok (.iload_n 1, 1) := by decide +kernel
theorem dX8_against_28 : decode cX8_against 28 = .ok (.imul, 1) := by decide +kernel
theorem dX8_against_29 : decode cX8_against 29 = .ok (.iload_n 2, 1) := by decide +kernel
theorem dX8_against_30 : decode cX8_against 30 = .ok (.iadd, 1) := by decide +kernel
theorem dX8_against_31 : decode cX8_against 31 = .ok (.baload, 1) := by decide +kernel
theorem dX8_against_32 : decode cX8_against 32 = .ok (.istore_n 3, 1) := by decide +kernel
theorem dX8_against_33 : decode cX8_against 33 = .ok (.aload_n 0, 1) := by decide +kernel
theorem dX8_against_34 : decode cX8_against 34 = .ok (.getfield 103, 3) := by decide +kernel
theorem dX8_against_37 : decode cX8_against 37 = .ok (.bipush 100, 2) := by decide +kernel
theorem dX8_against_39 : decode cX8_against 39 = .ok (.iload_n 1, 1) := by decide +kernel
theorem dX8_against_40 : decode cX8_against 40 = .ok (.imul, 1) := by decide +kernel
theorem dX8_against_41 : decode cX8_against 41 = .ok (.iload_n 2, 1) := by decide +kernel
theorem dX8_against_42 : decode cX8_against 42 = .ok (.iadd, 1) := by decide +kernel
theorem dX8_against_43 : decode cX8_against 43 = .ok (.iconst 1, 1) := by decide +kernel
theorem dX8_against_44 : decode cX8_against 44 = .ok (.bastore, 1) := by decide +kernel
theorem dX8_against_45 : decode cX8_against 45 = .ok (.iload_n 3, 1) := by decide +kernel
theorem dX8_against_46 : decode cX8_against 46 = .ok (.ifCond .eq 7, 3) := by decide +kernel
theorem dX8_against_49 : decode cX8_against 49 = .ok (.iconst 0, 1) := by decide +kernel
theorem dX8_against_50 : decode cX8_against 50 = .ok (.goto 4, 3) := by decide +kernel
theorem dX8_against_53 : decode cX8_against 53 = .ok (.iconst 1, 1) := by decide +kernel
theorem dX8_against_54 : decode cX8_against 54 = .ok (.ireturn, 1) := by decide +kernel
set_option maxRecDepth 20000 in
theorem ggX8_waive_X8_in : GoodIn wsX8_waive wsX8_in := goodIn_r _ [5] (by decide +kernel) (by decide +kernel)
set_option maxRecDepth 20000 in
theorem gX8_waive_X8_in : GoodIn wsX8_waive (va_wsS RX8 166 yX8_in wsX8_in) := goodIn_app (goodIn_of _ (by decide +kernel)) ggX8_waive_X8_in
theorem dX8_waive_0 : decode cX8_waive 0 = .ok (.iload_n 1, 1) := by decide +kernel
theorem dX8_waive_1 : decode cX8_waive 1 = .ok (.iconst 0, 1) := by decide +kernel
theorem dX8_waive_2 : decode cX8_waive 2 = .ok (.bipush 99, 2) := by decide +kernel
theorem dX8_waive_4 : decode cX8_waive 4 = .ok (.invokestatic 166, 3) := by decide +kernel
theorem dX8_waive_7 : decode cX8_waive 7 = .ok (.ifCond .eq 13, 3) := by decide +kernel
theorem dX8_waive_10 : decode cX8_waive 10 = .ok (.iload_n 2, 1) := by decide +kernel
theorem dX8_waive_11 : decode cX8_waive 11 = .ok (.iconst 0, 1) := by decide +kernel
theorem dX8_waive_12 : decode cX8_waive 12 = .ok (.bipush 9, 2) := by decide +kernel
theorem dX8_waive_14 : decode cX8_waive 14 = .ok (.invokestatic 166, 3) := by decide +kernel
theorem dX8_waive_17 : decode cX8_waive 17 = .ok (.ifCond .ne 6, 3) := by decide +kernel
theorem dX8_waive_20 : decode cX8_waive 20 = .ok (.bipush (-2), 2) := by decide +kernel
theorem dX8_waive_22 : decode cX8_waive 22 = .ok (.ireturn, 1) := by decide +kernel
theorem dX8_waive_23 : decode cX8_waive 23 = .ok (.aload_n 0, 1) := by decide +kernel
theorem dX8_waive_24 : decode cX8_waive 24 = .ok (.getfield 106, 3) := by decide +kernel
theorem dX8_waive_27 : decode cX8_waive 27 = .ok (.bipush 10, 2) := by decide +kernel
theorem dX8_waive_29 : decode cX8_waive 29 = .ok (.iload_n 1, 1) := by decide +kernel
theorem dX8_waive_30 : decode cX8_waive 30 = .ok (.imul, 1) := by decide +kernel
theorem dX8_waive_31 : decode cX8_waive 31 = .ok (.iload_n 2, 1) := by decide +kernel
theorem dX8_waive_32 : decode cX8_waive 32 = .ok (.iadd, 1) := by decide +kernel
theorem dX8_waive_33 : decode cX8_waive 33 = .ok (.baload, 1) := by decide +kernel
theorem dX8_waive_34 : decode cX8_waive 34 = .ok (.istore_n 3, 1) := by decide +kernel
theorem dX8_waive_35 : decode cX8_waive 35 = .ok (.aload_n 0, 1) := by decide +kernel
theorem dX8_waive_36 : decode cX8_waive 36 = .ok (.getfield 106, 3) := by decide +kernel
theorem dX8_waive_39 : decode cX8_waive 39 = .ok (.bipush 10, 2) := by decide +kernel
theorem dX8_waive_41 : decode cX8_waive 41 = .ok (.iload_n 1, 1) := by decide +kernel
theorem dX8_waive_42 : decode cX8_waive 42 = .ok (.imul, 1) := by decide +kernel
theorem dX8_waive_43 : decode cX8_waive 43 = .ok (.iload_n 2, 1) := by decide +kernel
theorem dX8_waive_44 : decode cX8_waive 44 = .ok (.iadd, 1) := by decide +kernel
theorem dX8_waive_45 : decode cX8_waive 45 = .ok (.iconst 1, 1) := by decide +kernel
theorem dX8_waive_46 : decode cX8_waive 46 = .ok (.bastore, 1) := by decide +kernel
theorem dX8_waive_47 : decode cX8_waive 47 = .ok (.iload_n 3, 1) := by decide +kernel
theorem dX8_waive_48 : decode cX8_waive 48 = .ok (.ifCond .eq 7, 3) := by decide +kernel
theorem dX8_waive_51 : decode cX8_waive 51 = .ok (.iconst 0, 1) := by decide +kernel
theorem dX8_waive_52 : decode cX8_waive 52 = .ok (.goto 4, 3) := by decide +kernel
theorem dX8_waive_55 : decode cX8_waive 55 = .ok (.iconst 1, 1) := by decide +kernel
theorem dX8_waive_56 : decode cX8_waive 56 = .ok (.ireturn, 1) := by decide +kernel
theorem dX8_isFellow_0 : decode cX8_isFellow 0 = .ok (.bipush 10, 2) := by decide +kernel
theorem dX8_isFellow_2 : decode cX8_isFellow 2 = .ok (.aload_n 0, 1) := by decide +kernel
theorem dX8_isFellow_3 : decode cX8_isFellow 3 = .ok (.getfield 70, 3) := by decide +kernel
theorem dX8_isFellow_6 : decode cX8_isFellow 6 = .ok (.iload_n 1, 1) := by decide +kernel
theorem dX8_isFellow_7 : decode cX8_isFellow 7 = .ok (.iaload, 1) := by decide +kernel
theorem dX8_isFellow_8 : decode cX8_isFellow 8 = .ok (.imul, 1) := by decide +kernel
theorem dX8_isFellow_9 : decode cX8_isFellow 9 = .ok (.aload_n 0, 1) := by decide +kernel
theorem dX8_isFellow_10 : decode cX8_isFellow 10 = .ok (.getfield 73, 3) := by decide +kernel
theorem dX8_isFellow_13 : decode cX8_isFellow 13 = .ok (.iload_n 1, 1) := by decide +kernel
theorem dX8_isFellow_14 : decode cX8_isFellow 14 = .ok (.iaload, 1) := by decide +kernel
theorem dX8_isFellow_15 : decode cX8_isFellow 15 = .ok (.iadd, 1) := by decide +kernel
theorem dX8_isFellow_16 : decode cX8_isFellow 16 = .ok (.istore_n 3, 1) := by decide +kernel
theorem dX8_isFellow_17 : decode cX8_isFellow 17 = .ok (.iconst 0, 1) := by decide +kernel
theorem dX8_isFellow_18 : decode cX8_isFellow 18 = .ok (.istore 4, 2) := by decide +kernel
theorem dX8_isFellow_20 : decode cX8_isFellow 20 = .ok (.iload 4, 2) := by decide +kernel
theorem dX8_isFellow_22 : decode cX8_isFellow 22 = .ok (.aload_n 0, 1) := by decide +kernel
theorem dX8_isFellow_23 : decode cX8_isFellow 23 = .ok (.getfield 231, 3) := by decide +kernel
theorem dX8_isFellow_26 : decode cX8_isFellow 26 = .ok (.if_icmp .ge 92, 3) := by decide +kernel
theorem dX8_isFellow_29 : decode cX8_isFellow 29 = .ok (.aload_n 0, 1) := by decide +kernel
theorem dX8_isFellow_30 : decode cX8_isFellow 30 = .ok (.getfield 85, 3) := by decide +kernel
theorem dX8_isFellow_33 : decode cX8_isFellow 33 = .ok (.iload 4, 2) := by decide +kernel
theorem dX8_isFellow_35 : decode cX8_isFellow 35 = .ok (.iaload, 1) := by decide +kernel
theorem dX8_isFellow_36 : decode cX8_isFellow 36 = .ok (.iload_n 2, 1) := by decide +kernel
theorem dX8_isFellow_37 : decode cX8_isFellow 37 = .ok (.if_icmp .ne 75, 3) := by decide +kernel
theorem dX8_isFellow_40 : decode cX8_isFellow 40 = .ok (.aload_n 0, 1) := by decide +kernel
theorem dX8_isFellow_41 : decode cX8_isFellow 41 = .ok (.getfield 70, 3) := by decide +kernel
theorem dX8_isFellow_44 : decode cX8_isFellow 44 = .ok (.iload 4, 2) := by decide +kernel
theorem dX8_isFellow_46 : decode cX8_isFellow 46 = .ok (.iaload, 1) := by decide +kernel
theorem dX8_isFellow_47 : decode cX8_isFellow 47 = .ok (.aload_n 0, 1) := by decide +kernel
theorem dX8_isFellow_48 : decode cX8_isFellow 48 = .ok (.getfield 70, 3) := by decide +kernel
theorem dX8_isFellow_51 : decode cX8_isFellow 51 = .ok (.iload_n 1, 1) := by decide +kernel
theorem dX8_isFellow_52 : decode cX8_isFellow 52 = .ok (.iaload, 1) := by decide +kernel
theorem dX8_isFellow_53 : decode cX8_isFellow 53 = .ok (.if_icmp .ne 59, 3) := by decide +kernel
theorem dX8_isFellow_56 : decode cX8_isFellow 56 = .ok (.aload_n 0, 1) := by decide +kernel
theorem dX8_isFellow_57 : decode cX8_isFellow 57 = .ok (.getfield 73, 3) := by decide +kernel
theorem dX8_isFellow_60 : decode cX8_isFellow 60 = .ok (.iload 4, 2) := by decide +kernel
theorem dX8_isFellow_62 : decode cX8_isFellow 62 = .ok (.iaload, 1) := by decide +kernel
theorem dX8_isFellow_63 : decode cX8_isFellow 63 = .ok (.aload_n 0, 1) := by decide +kernel
theorem dX8_isFellow_64 : decode cX8_isFellow 64 = .ok (.getfield 73, 3) := by decide +kernel
theorem dX8_isFellow_67 : decode cX8_isFellow 67 = .ok (.iload_n 1, 1) := by decide +kernel
theorem dX8_isFellow_68 : decode cX8_isFellow 68 = .ok (.iaload, 1) := by decide +kernel
theorem dX8_isFellow_69 : decode cX8_isFellow 69 = .ok (.if_icmp .ne 6, 3) := by decide +kernel
theorem dX8_isFellow_72 : decode cX8_isFellow 72 = .ok (.goto 40, 3) := by decide +kernel
theorem dX8_isFellow_75 : decode cX8_isFellow 75 = .ok (.aload_n 0, 1) := by decide +kernel
theorem dX8_isFellow_76 : decode cX8_isFellow 76 = .ok (.getfield 106, 3) := by decide +kernel
theorem dX8_isFellow_79 : decode cX8_isFellow 79 = .ok (.iload_n 3, 1) := by decide +kernel
theorem dX8_isFellow_80 : decode cX8_isFellow 80 = .ok (.baload, 1) := by decide +kernel
theorem dX8_isFellow_81 : decode cX8_isFellow 81 = .ok (.ifCond .ne 31, 3) := by decide +kernel
theorem dX8_isFellow_84 : decode cX8_isFellow 84 = .ok (.aload_n 0, 1) := by decide +kernel
theorem dX8_isFellow_85 : decode cX8_isFellow 85 = .ok (.getfield 106, 3) := by decide +kernel
theorem dX8_isFellow_88 : decode cX8_isFellow 88 = .ok (.bipush 10, 2) := by decide +kernel
theorem dX8_isFellow_90 : decode cX8_isFellow 90 = .ok (.aload_n 0, 1) := by decide +kernel
theorem dX8_isFellow_91 : decode cX8_isFellow 91 = .ok (.getfield 70, 3) := by decide +kernel
theorem dX8_isFellow_94 : decode cX8_isFellow 94 = .ok (.iload 4, 2) := by decide +kernel
theorem dX8_isFellow_96 : decode cX8_isFellow 96 = .ok (.iaload, 1) := by decide +kernel
theorem dX8_isFellow_97 : decode cX8_isFellow 97 = .ok (.imul, 1) := by decide +kernel
theorem dX8_isFellow_98 : decode cX8_isFellow 98 = .ok (.aload_n 0, 1) := by decide +kernel
theorem dX8_isFellow_99 : decode cX8_isFellow 99 = .ok (.getfield 73, 3) := by decide +kernel
theorem dX8_isFellow_102 : decode cX8_isFellow 102 = .ok (.iload 4, 2) := by decide +kernel
theorem dX8_isFellow_104 : decode cX8_isFellow 104 = .ok (.iaload, 1) := by decide +kernel
theorem dX8_isFellow_105 : decode cX8_isFellow 105 = .ok (.iadd, 1) := by decide +kernel
theorem dX8_isFellow_106 : decode cX8_isFellow 106 = .ok (.baload, 1) := by decide +kernel
theorem dX8_isFellow_107 : decode cX8_isFellow 107 = .ok (.ifCond .ne 5, 3) := by decide +kernel
theorem dX8_isFellow_110 : decode cX8_isFellow 110 = .ok (.iconst 1, 1) := by decide +kernel
theorem dX8_isFellow_111 : decode cX8_isFellow 111 = .ok (.ireturn, 1) := by decide +kernel
theorem dX8_isFellow_112 : decode cX8_isFellow 112 = .ok (.iinc 4 1, 3) := by decide +kernel
theorem dX8_isFellow_115 : decode cX8_isFellow 115 = .ok (.goto (-95), 3) := by decide +kernel
theorem dX8_isFellow_118 : decode cX8_isFellow 118 = .ok (.iconst 0, 1) := by decide +kernel
theorem dX8_isFellow_119 : decode cX8_isFellow 119 = .ok (.ireturn, 1) := by decide +kernel
set_option maxRecDepth 20000 in
theorem ggX8_barsOf_X8_now : GoodIn wsX8_barsOf wsX8_now := goodIn_r _ [16, 17, 18, 19, 20, 15, 21, 22, 23, 24, 25, 26, 27, 28, 29, 30, 44, 45, 46, 47, 48, 49, 50, 51, 52, 53, 54, 55, 56, 57, 58, 59, 60, 61, 62, 63, 64, 65, 66, 67, 68, 69, 70, 71, 72, 73, 74, 75, 76, 77, 78, 79, 80, 81, 82, 83, 84, 85, 86, 87, 88] (by decide +kernel) (by decide +kernel)
set_option maxRecDepth 20000 in
theorem gX8_barsOf_X8_now : GoodIn wsX8_barsOf (wsV RX8 205 RX8 yX8_now wsX8_now) := goodIn_app (goodIn_of _ (by decide +kernel)) ggX8_barsOf_X8_now
set_option maxRecDepth 20000 in
theorem ggX8_barsOf_X8_isStruck : GoodIn wsX8_barsOf wsX8_isStruck := goodIn_r _ [34, 35, 44, 45, 46, 47, 48, 49, 50, 51, 52, 53, 54, 55, 56, 57, 58, 59, 60, 61, 62, 63, 64, 65, 66, 67, 68, 69, 70, 71, 72, 73, 74, 75, 76, 77, 78, 79, 80, 81, 82, 83, 84, 85, 86, 87, 88] (by decide +kernel) (by decide +kernel)
set_option maxRecDepth 20000 in
theorem gX8_barsOf_X8_isStruck : GoodIn wsX8_barsOf (wsV RX8 201 RX8 yX8_isStruck wsX8_isStruck) := goodIn_app (goodIn_of _ (by decide +kernel)) ggX8_barsOf_X8_isStruck
set_option maxRecDepth 20000 in
theorem ggX8_barsOf_X8_isFellow : GoodIn wsX8_barsOf wsX8_isFellow := goodIn_r _ [39, 11, 40, 41, 42, 43, 44, 45, 46, 47, 48, 49, 50, 51, 52, 53, 54, 55, 56, 57, 58, 59, 60, 61, 62, 63, 64, 65, 66, 67, 68, 69, 70, 71, 72, 73, 74, 75, 76, 77, 78, 79, 80, 81, 82, 83, 84, 85, 86, 87, 88] (by decide +kernel) (by decide +kernel)
set_option maxRecDepth 20000 in
theorem gX8_barsOf_X8_isFellow : GoodIn wsX8_barsOf (wsV RX8 234 RX8 yX8_isFellow wsX8_isFellow) := goodIn_app (goodIn_of _ (by decide +kernel)) ggX8_barsOf_X8_isFellow
theorem dX8_barsOf_0 : decode cX8_barsOf 0 = .ok (.aload_n 0, 1) := by decide +kernel
theorem dX8_barsOf_1 : decode cX8_barsOf 1 = .ok (.aload_n 0, 1) := by decide +kernel
theorem dX8_barsOf_2 : decode cX8_barsOf 2 = .ok (.getfield 58, 3) := by decide +kernel
theorem dX8_barsOf_5 : decode cX8_barsOf 5 = .ok (.iload_n 1, 1) := by decide +kernel
theorem dX8_barsOf_6 : decode cX8_barsOf 6 = .ok (.iaload, 1) := by decide +kernel
theorem dX8_barsOf_7 : decode cX8_barsOf 7 = .ok (.bipush 10, 2) := by decide +kernel
theorem dX8_barsOf_9 : decode cX8_barsOf 9 = .ok (.invokevirtual 205, 3) := by decide +kernel
theorem dX8_barsOf_12 : decode cX8_barsOf 12 = .ok (.istore_n 3, 1) := by decide +kernel
theorem dX8_barsOf_13 : decode cX8_barsOf 13 = .ok (.aload_n 0, 1) := by decide +kernel
theorem dX8_barsOf_14 : decode cX8_barsOf 14 = .ok (.getfield 31, 3) := by decide +kernel
theorem dX8_barsOf_17 : decode cX8_barsOf 17 = .ok (.iload_n 2, 1) := by decide +kernel
theorem dX8_barsOf_18 : decode cX8_barsOf 18 = .ok (.iaload, 1) := by decide +kernel
theorem dX8_barsOf_19 : decode cX8_barsOf 19 = .ok (.aload_n 0, 1) := by decide +kernel
theorem dX8_barsOf_20 : decode cX8_barsOf 20 = .ok (.getfield 61, 3) := by decide +kernel
theorem dX8_barsOf_23 : decode cX8_barsOf 23 = .ok (.iload_n 1, 1) := by decide +kernel
theorem dX8_barsOf_24 : decode cX8_barsOf 24 = .ok (.iaload, 1) := by decide +kernel
theorem dX8_barsOf_25 : decode cX8_barsOf 25 = .ok (.ishr, 1) := by decide +kernel
theorem dX8_barsOf_26 : decode cX8_barsOf 26 = .ok (.iconst 1, 1) := by decide +kernel
theorem dX8_barsOf_27 : decode cX8_barsOf 27 = .ok (.iand, 1) := by decide +kernel
theorem dX8_barsOf_28 : decode cX8_barsOf 28 = .ok (.ifCond .ne 7, 3) := by decide +kernel
theorem dX8_barsOf_31 : decode cX8_barsOf 31 = .ok (.iconst 1, 1) := by decide +kernel
theorem dX8_barsOf_32 : decode cX8_barsOf 32 = .ok (.goto 4, 3) := by decide +kernel
theorem dX8_barsOf_35 : decode cX8_barsOf 35 = .ok (.iconst 0, 1) := by decide +kernel
theorem dX8_barsOf_36 : decode cX8_barsOf 36 = .ok (.istore 4, 2) := by decide +kernel
theorem dX8_barsOf_38 : decode cX8_barsOf 38 = .ok (.aload_n 0, 1) := by decide +kernel
theorem dX8_barsOf_39 : decode cX8_barsOf 39 = .ok (.iload_n 2, 1) := by decide +kernel
theorem dX8_barsOf_40 : decode cX8_barsOf 40 = .ok (.aload_n 0, 1) := by decide +kernel
theorem dX8_barsOf_41 : decode cX8_barsOf 41 = .ok (.getfield 58, 3) := by decide +kernel
theorem dX8_barsOf_44 : decode cX8_barsOf 44 = .ok (.iload_n 1, 1) := by decide +kernel
theorem dX8_barsOf_45 : decode cX8_barsOf 45 = .ok (.iaload, 1) := by decide +kernel
theorem dX8_barsOf_46 : decode cX8_barsOf 46 = .ok (.invokevirtual 201, 3) := by decide +kernel
theorem dX8_barsOf_49 : decode cX8_barsOf 49 = .ok (.ifCond .ne 23, 3) := by decide +kernel
theorem dX8_barsOf_52 : decode cX8_barsOf 52 = .ok (.aload_n 0, 1) := by decide +kernel
theorem dX8_barsOf_53 : decode cX8_barsOf 53 = .ok (.getfield 40, 3) := by decide +kernel
theorem dX8_barsOf_56 : decode cX8_barsOf 56 = .ok (.sipush 1000, 3) := by decide +kernel
theorem dX8_barsOf_59 : decode cX8_barsOf 59 = .ok (.iload_n 2, 1) := by decide +kernel
theorem dX8_barsOf_60 : decode cX8_barsOf 60 = .ok (.imul, 1) := by decide +kernel
theorem dX8_barsOf_61 : decode cX8_barsOf 61 = .ok (.aload_n 0, 1) := by decide +kernel
theorem dX8_barsOf_62 : decode cX8_barsOf 62 = .ok (.getfield 58, 3) := by decide +kernel
theorem dX8_barsOf_65 : decode cX8_barsOf 65 = .ok (.iload_n 1, 1) := by decide +kernel
theorem dX8_barsOf_66 : decode cX8_barsOf 66 = .ok (.iaload, 1) := by decide +kernel
theorem dX8_barsOf_67 : decode cX8_barsOf 67 = .ok (.iadd, 1) := by decide +kernel
theorem dX8_barsOf_68 : decode cX8_barsOf 68 = .ok (.baload, 1) := by decide +kernel
theorem dX8_barsOf_69 : decode cX8_barsOf 69 = .ok (.ifCond .eq 9, 3) := by decide +kernel
theorem dX8_barsOf_72 : decode cX8_barsOf 72 = .ok (.iload 4, 2) := by decide +kernel
theorem dX8_barsOf_74 : decode cX8_barsOf 74 = .ok (.iconst 2, 1) := by decide +kernel
theorem dX8_barsOf_75 : decode cX8_barsOf 75 = .ok (.ior, 1) := by decide +kernel
theorem dX8_barsOf_76 : decode cX8_barsOf 76 = .ok (.istore 4, 2) := by decide +kernel
theorem dX8_barsOf_78 : decode cX8_barsOf 78 = .ok (.aload_n 0, 1) := by decide +kernel
theorem dX8_barsOf_79 : decode cX8_barsOf 79 = .ok (.getfield 67, 3) := by decide +kernel
theorem dX8_barsOf_82 : decode cX8_barsOf 82 = .ok (.iload_n 1, 1) := by decide +kernel
theorem dX8_barsOf_83 : decode cX8_barsOf 83 = .ok (.iaload, 1) := by decide +kernel
theorem dX8_barsOf_84 : decode cX8_barsOf 84 = .ok (.iconst (-1), 1) := by decide +kernel
theorem dX8_barsOf_85 : decode cX8_barsOf 85 = .ok (.if_icmp .eq 27, 3) := by decide +kernel
theorem dX8_barsOf_88 : decode cX8_barsOf 88 = .ok (.aload_n 0, 1) := by decide +kernel
theorem dX8_barsOf_89 : decode cX8_barsOf 89 = .ok (.getfield 34, 3) := by decide +kernel
theorem dX8_barsOf_92 : decode cX8_barsOf 92 = .ok (.iload_n 2, 1) := by decide +kernel
theorem dX8_barsOf_93 : decode cX8_barsOf 93 = .ok (.iaload, 1) := by decide +kernel
theorem dX8_barsOf_94 : decode cX8_barsOf 94 = .ok (.aload_n 0, 1) := by decide +kernel
theorem dX8_barsOf_95 : decode cX8_barsOf 95 = .ok (.getfield 67, 3) := by decide +kernel
theorem dX8_barsOf_98 : decode cX8_barsOf 98 = .ok (.iload_n 1, 1) := by decide +kernel
theorem dX8_barsOf_99 : decode cX8_barsOf 99 = .ok (.iaload, 1) := by decide +kernel
theorem dX8_barsOf_100 : decode cX8_barsOf 100 = .ok (.ishr, 1) := by decide +kernel
theorem dX8_barsOf_101 : decode cX8_barsOf 101 = .ok (.iconst 1, 1) := by decide +kernel
theorem dX8_barsOf_102 : decode cX8_barsOf 102 = .ok (.iand, 1) := by decide +kernel
theorem dX8_barsOf_103 : decode cX8_barsOf 103 = .ok (.ifCond .ne 9, 3) := by decide +kernel
theorem dX8_barsOf_106 : decode cX8_barsOf 106 = .ok (.iload 4, 2) := by decide +kernel
theorem dX8_barsOf_108 : decode cX8_barsOf 108 = .ok (.iconst 4, 1) := by decide +kernel
theorem dX8_barsOf_109 : decode cX8_barsOf 109 = .ok (.ior, 1) := by decide +kernel
theorem dX8_barsOf_110 : decode cX8_barsOf 110 = .ok (.istore 4, 2) := by decide +kernel
theorem dX8_barsOf_112 : decode cX8_barsOf 112 = .ok (.aload_n 0, 1) := by decide +kernel
theorem dX8_barsOf_113 : decode cX8_barsOf 113 = .ok (.getfield 43, 3) := by decide +kernel
theorem dX8_barsOf_116 : decode cX8_barsOf 116 = .ok (.bipush 10, 2) := by decide +kernel
theorem dX8_barsOf_118 : decode cX8_barsOf 118 = .ok (.aload_n 0, 1) := by decide +kernel
theorem dX8_barsOf_119 : decode cX8_barsOf 119 = .ok (.getfield 28, 3) := by decide +kernel
theorem dX8_barsOf_122 : decode cX8_barsOf 122 = .ok (.iload_n 2, 1) := by decide +kernel
theorem dX8_barsOf_123 : decode cX8_barsOf 123 = .ok (.iaload, 1) := by decide +kernel
theorem dX8_barsOf_124 : decode cX8_barsOf 124 = .ok (.imul, 1) := by decide +kernel
theorem dX8_barsOf_125 : decode cX8_barsOf 125 = .ok (.aload_n 0, 1) := by decide +kernel
theorem dX8_barsOf_126 : decode cX8_barsOf 126 = .ok (.getfield 64, 3) := by decide +kernel
theorem dX8_barsOf_129 : decode cX8_barsOf 129 = .ok (.iload_n 1, 1) := by decide +kernel
theorem dX8_barsOf_130 : decode cX8_barsOf 130 = .ok (.iaload, 1) := by decide +kernel
theorem dX8_barsOf_131 : decode cX8_barsOf 131 = .ok (.iadd, 1) := by decide +kernel
theorem dX8_barsOf_132 : decode cX8_barsOf 132 = .ok (.iaload, 1) := by decide +kernel
theorem dX8_barsOf_133 : decode cX8_barsOf 133 = .ok (.iconst (-1), 1) := by decide +kernel
theorem dX8_barsOf_134 : decode cX8_barsOf 134 = .ok (.if_icmp .ne 10, 3) := by decide +kernel
theorem dX8_barsOf_137 : decode cX8_barsOf 137 = .ok (.iload 4, 2) := by decide +kernel
theorem dX8_barsOf_139 : decode cX8_barsOf 139 = .ok (.bipush 8, 2) := by decide +kernel
theorem dX8_barsOf_141 : decode cX8_barsOf 141 = .ok (.ior, 1) := by decide +kernel
theorem dX8_barsOf_142 : decode cX8_barsOf 142 = .ok (.istore 4, 2) := by decide +kernel
theorem dX8_barsOf_144 : decode cX8_barsOf 144 = .ok (.iload_n 3, 1) := by decide +kernel
theorem dX8_barsOf_145 : decode cX8_barsOf 145 = .ok (.iconst 1, 1) := by decide +kernel
theorem dX8_barsOf_146 : decode cX8_barsOf 146 = .ok (.iand, 1) := by decide +kernel
theorem dX8_barsOf_147 : decode cX8_barsOf 147 = .ok (.ifCond .eq 19, 3) := by decide +kernel
theorem dX8_barsOf_150 : decode cX8_barsOf 150 = .ok (.aload_n 0, 1) := by decide +kernel
theorem dX8_barsOf_151 : decode cX8_barsOf 151 = .ok (.iload_n 1, 1) := by decide +kernel
theorem dX8_barsOf_152 : decode cX8_barsOf 152 = .ok (.iload_n 2, 1) := by decide +kernel
theorem dX8_barsOf_153 : decode cX8_barsOf 153 = .ok (.invokevirtual 234, 3) := by decide +kernel
theorem dX8_barsOf_156 : decode cX8_barsOf 156 = .ok (.ifCond .eq 10, 3) := by decide +kernel
theorem dX8_barsOf_159 : decode cX8_barsOf 159 = .ok (.iload 4, 2) := by decide +kernel
theorem dX8_barsOf_161 : decode cX8_barsOf 161 = .ok (.bipush 16, 2) := by decide +kernel
theorem dX8_barsOf_163 : decode cX8_barsOf 163 = .ok (.ior, 1) := by decide +kernel
theorem dX8_barsOf_164 : decode cX8_barsOf 164 = .ok (.istore 4, 2) := by decide +kernel
theorem dX8_barsOf_166 : decode cX8_barsOf 166 = .ok (.iload_n 3, 1) := by decide +kernel
theorem dX8_barsOf_167 : decode cX8_barsOf 167 = .ok (.iconst 2, 1) := by decide +kernel
theorem dX8_barsOf_168 : decode cX8_barsOf 168 = .ok (.iand, 1) := by decide +kernel
theorem dX8_barsOf_169 : decode cX8_barsOf 169 = .ok (.ifCond .eq 29, 3) := by decide +kernel
theorem dX8_barsOf_172 : decode cX8_barsOf 172 = .ok (.aload_n 0, 1) := by decide +kernel
theorem dX8_barsOf_173 : decode cX8_barsOf 173 = .ok (.getfield 103, 3) := by decide +kernel
theorem dX8_barsOf_176 : decode cX8_barsOf 176 = .ok (.bipush 100, 2) := by decide +kernel
theorem dX8_barsOf_178 : decode cX8_barsOf 178 = .ok (.iload_n 2, 1) := by decide +kernel
theorem dX8_barsOf_179 : decode cX8_barsOf 179 = .ok (.imul, 1) := by decide +kernel
theorem dX8_barsOf_180 : decode cX8_barsOf 180 = .ok (.aload_n 0, 1) := by decide +kernel
theorem dX8_barsOf_181 : decode cX8_barsOf 181 = .ok (.getfield 70, 3) := by decide +kernel
theorem dX8_barsOf_184 : decode cX8_barsOf 184 = .ok (.iload_n 1, 1) := by decide +kernel
theorem dX8_barsOf_185 : decode cX8_barsOf 185 = .ok (.iaload, 1) := by decide +kernel
theorem dX8_barsOf_186 : decode cX8_barsOf 186 = .ok (.iadd, 1) := by decide +kernel
theorem dX8_barsOf_187 : decode cX8_barsOf 187 = .ok (.baload, 1) := by decide +kernel
theorem dX8_barsOf_188 : decode cX8_barsOf 188 = .ok (.ifCond .eq 10, 3) := by decide +kernel
theorem dX8_barsOf_191 : decode cX8_barsOf 191 = .ok (.iload 4, 2) := by decide +kernel
theorem dX8_barsOf_193 : decode cX8_barsOf 193 = .ok (.bipush 32, 2) := by decide +kernel
theorem dX8_barsOf_195 : decode cX8_barsOf 195 = .ok (.ior, 1) := by decide +kernel
theorem dX8_barsOf_196 : decode cX8_barsOf 196 = .ok (.istore 4, 2) := by decide +kernel
theorem dX8_barsOf_198 : decode cX8_barsOf 198 = .ok (.iload_n 3, 1) := by decide +kernel
theorem dX8_barsOf_199 : decode cX8_barsOf 199 = .ok (.iconst 4, 1) := by decide +kernel
theorem dX8_barsOf_200 : decode cX8_barsOf 200 = .ok (.iand, 1) := by decide +kernel
theorem dX8_barsOf_201 : decode cX8_barsOf 201 = .ok (.ifCond .eq 25, 3) := by decide +kernel
theorem dX8_barsOf_204 : decode cX8_barsOf 204 = .ok (.aload_n 0, 1) := by decide +kernel
theorem dX8_barsOf_205 : decode cX8_barsOf 205 = .ok (.getfield 28, 3) := by decide +kernel
theorem dX8_barsOf_208 : decode cX8_barsOf 208 = .ok (.iload_n 2, 1) := by decide +kernel
theorem dX8_barsOf_209 : decode cX8_barsOf 209 = .ok (.iaload, 1) := by decide +kernel
theorem dX8_barsOf_210 : decode cX8_barsOf 210 = .ok (.aload_n 0, 1) := by decide +kernel
theorem dX8_barsOf_211 : decode cX8_barsOf 211 = .ok (.getfield 64, 3) := by decide +kernel
theorem dX8_barsOf_214 : decode cX8_barsOf 214 = .ok (.iload_n 1, 1) := by decide +kernel
theorem dX8_barsOf_215 : decode cX8_barsOf 215 = .ok (.iaload, 1) := by decide +kernel
theorem dX8_barsOf_216 : decode cX8_barsOf 216 = .ok (.if_icmp .ne 10, 3) := by decide +kernel
theorem dX8_barsOf_219 : decode cX8_barsOf 219 = .ok (.iload 4, 2) := by decide +kernel
theorem dX8_barsOf_221 : decode cX8_barsOf 221 = .ok (.bipush 64, 2) := by decide +kernel
theorem dX8_barsOf_223 : decode cX8_barsOf 223 = .ok (.ior, 1) := by decide +kernel
theorem dX8_barsOf_224 : decode cX8_barsOf 224 = .ok (.istore 4, 2) := by decide +kernel
theorem dX8_barsOf_226 : decode cX8_barsOf 226 = .ok (.iload 4, 2) := by decide +kernel
theorem dX8_barsOf_228 : decode cX8_barsOf 228 = .ok (.ireturn, 1) := by decide +kernel
set_option maxRecDepth 20000 in
theorem ggX8_mayAsk_X8_barsOf : GoodIn wsX8_mayAsk wsX8_barsOf := goodIn_r _ [6, 7, 8, 9, 10, 11, 12, 13, 14, 15, 16, 17, 18, 19, 20, 5, 21, 22, 23, 24, 25, 26, 27, 28, 29, 30, 31, 32, 33, 34, 35, 36, 37, 38, 39, 40, 41, 42, 43, 44, 45, 46, 47, 48, 49, 50, 51, 52, 53, 54, 55, 56, 57, 58, 59, 60, 61, 62, 63, 64, 65, 66, 67, 68, 69, 70, 71, 72, 73, 74, 75, 76, 77, 78, 79, 80, 81, 82, 83, 84, 85, 86, 87, 88, 89, 90, 91, 92, 93] (by decide +kernel) (by decide +kernel)
set_option maxRecDepth 20000 in
theorem gX8_mayAsk_X8_barsOf : GoodIn wsX8_mayAsk (wsV RX8 237 RX8 yX8_barsOf wsX8_barsOf) := goodIn_app (goodIn_of _ (by decide +kernel)) ggX8_mayAsk_X8_barsOf
theorem dX8_mayAsk_0 : decode cX8_mayAsk 0 = .ok (.aload_n 0, 1) := by decide +kernel
theorem dX8_mayAsk_1 : decode cX8_mayAsk 1 = .ok (.getfield 100, 3) := by decide +kernel
theorem dX8_mayAsk_4 : decode cX8_mayAsk 4 = .ok (.bipush 24, 2) := by decide +kernel
theorem dX8_mayAsk_6 : decode cX8_mayAsk 6 = .ok (.iload_n 1, 1) := by decide +kernel
theorem dX8_mayAsk_7 : decode cX8_mayAsk 7 = .ok (.imul, 1) := by decide +kernel
theorem dX8_mayAsk_8 : decode cX8_mayAsk 8 = .ok (.iload_n 2, 1) := by decide +kernel
theorem dX8_mayAsk_9 : decode cX8_mayAsk 9 = .ok (.iadd, 1) := by decide +kernel
theorem dX8_mayAsk_10 : decode cX8_mayAsk 10 = .ok (.baload, 1) := by decide +kernel
theorem dX8_mayAsk_11 : decode cX8_mayAsk 11 = .ok (.ifCond .ne 16, 3) := by decide +kernel
theorem dX8_mayAsk_14 : decode cX8_mayAsk 14 = .ok (.aload_n 0, 1) := by decide +kernel
theorem dX8_mayAsk_15 : decode cX8_mayAsk 15 = .ok (.iload_n 1, 1) := by decide +kernel
theorem dX8_mayAsk_16 : decode cX8_mayAsk 16 = .ok (.iload_n 2, 1) := by decide +kernel
theorem dX8_mayAsk_17 : decode cX8_mayAsk 17 = .ok (.invokevirtual 237, 3) := by decide +kernel
theorem dX8_mayAsk_20 : decode cX8_mayAsk 20 = .ok (.ifCond .ne 7, 3) := by decide +kernel
theorem dX8_mayAsk_23 : decode cX8_mayAsk 23 = .ok (.iconst 1, 1) := by decide +kernel
theorem dX8_mayAsk_24 : decode cX8_mayAsk 24 = .ok (.goto 4, 3) := by decide +kernel
theorem dX8_mayAsk_27 : decode cX8_mayAsk 27 = .ok (.iconst 0, 1) := by decide +kernel
theorem dX8_mayAsk_28 : decode cX8_mayAsk 28 = .ok (.ireturn, 1) := by decide +kernel
theorem dX8_earlier_0 : decode cX8_earlier 0 = .ok (.iload_n 1, 1) := by decide +kernel
theorem dX8_earlier_1 : decode cX8_earlier 1 = .ok (.iconst 1, 1) := by decide +kernel
theorem dX8_earlier_2 : decode cX8_earlier 2 = .ok (.isub, 1) := by decide +kernel
theorem dX8_earlier_3 : decode cX8_earlier 3 = .ok (.istore_n 2, 1) := by decide +kernel
theorem dX8_earlier_4 : decode cX8_earlier 4 = .ok (.iload_n 2, 1) := by decide +kernel
theorem dX8_earlier_5 : decode cX8_earlier 5 = .ok (.ifCond .lt 56, 3) := by decide +kernel
theorem dX8_earlier_8 : decode cX8_earlier 8 = .ok (.aload_n 0, 1) := by decide +kernel
theorem dX8_earlier_9 : decode cX8_earlier 9 = .ok (.getfield 85, 3) := by decide +kernel
theorem dX8_earlier_12 : decode cX8_earlier 12 = .ok (.iload_n 2, 1) := by decide +kernel
theorem dX8_earlier_13 : decode cX8_earlier 13 = .ok (.iaload, 1) := by decide +kernel
theorem dX8_earlier_14 : decode cX8_earlier 14 = .ok (.iconst (-1), 1) := by decide +kernel
theorem dX8_earlier_15 : decode cX8_earlier 15 = .ok (.if_icmp .eq 40, 3) := by decide +kernel
theorem dX8_earlier_18 : decode cX8_earlier 18 = .ok (.aload_n 0, 1) := by decide +kernel
theorem dX8_earlier_19 : decode cX8_earlier 19 = .ok (.getfield 70, 3) := by decide +kernel
theorem dX8_earlier_22 : decode cX8_earlier 22 = .ok (.iload_n 2, 1) := by decide +kernel
theorem dX8_earlier_23 : decode cX8_earlier 23 = .ok (.iaload, 1) := by decide +kernel
theorem dX8_earlier_24 : decode cX8_earlier 24 = .ok (.aload_n 0, 1) := by decide +kernel
theorem dX8_earlier_25 : decode cX8_earlier 25 = .ok (.getfield 70, 3) := by decide +kernel
theorem dX8_earlier_28 : decode cX8_earlier 28 = .ok (.iload_n 1, 1) := by decide +kernel
theorem dX8_earlier_29 : decode cX8_earlier 29 = .ok (.iaload, 1) := by decide +kernel
theorem dX8_earlier_30 : decode cX8_earlier 30 = .ok (.if_icmp .ne 25, 3) := by decide +kernel
theorem dX8_earlier_33 : decode cX8_earlier 33 = .ok (.aload_n 0, 1) := by decide +kernel
theorem dX8_earlier_34 : decode cX8_earlier 34 = .ok (.getfield 73, 3) := by decide +kernel
theorem dX8_earlier_37 : decode cX8_earlier 37 = .ok (.iload_n 2, 1) := by decide +kernel
theorem dX8_earlier_38 : decode cX8_earlier 38 = .ok (.iaload, 1) := by decide +kernel
theorem dX8_earlier_39 : decode cX8_earlier 39 = .ok (.aload_n 0, 1) := by decide +kernel
theorem dX8_earlier_40 : decode cX8_earlier 40 = .ok (.getfield 73, 3) := by decide +kernel
theorem dX8_earlier_43 : decode cX8_earlier 43 = .ok (.iload_n 1, 1) := by decide +kernel
theorem dX8_earlier_44 : decode cX8_earlier 44 = .ok (.iaload, 1) := by decide +kernel
theorem dX8_earlier_45 : decode cX8_earlier 45 = .ok (.if_icmp .ne 10, 3) := by decide +kernel
theorem dX8_earlier_48 : decode cX8_earlier 48 = .ok (.aload_n 0, 1) := by decide +kernel
theorem dX8_earlier_49 : decode cX8_earlier 49 = .ok (.getfield 85, 3) := by decide +kernel
theorem dX8_earlier_52 : decode cX8_earlier 52 = .ok (.iload_n 2, 1) := by decide +kernel
theorem dX8_earlier_53 : decode cX8_earlier 53 = .ok (.iaload, 1) := by decide +kernel
theorem dX8_earlier_54 : decode cX8_earlier 54 = .ok (.ireturn, 1) := by decide +kernel
theorem dX8_earlier_55 : decode cX8_earlier 55 = .ok (.iinc 2 (-1), 3) := by decide +kernel
theorem dX8_earlier_58 : decode cX8_earlier 58 = .ok (.goto (-54), 3) := by decide +kernel
theorem dX8_earlier_61 : decode cX8_earlier 61 = .ok (.iconst (-1), 1) := by decide +kernel
theorem dX8_earlier_62 : decode cX8_earlier 62 = .ok (.ireturn, 1) := by decide +kernel
set_option maxRecDepth 20000 in
theorem ggX8_askNext_X8_earlier : GoodIn wsX8_askNext wsX8_earlier := goodIn_r _ [11, 12, 13, 14, 73, 74, 75, 76, 77, 78, 79, 80, 81, 82, 83, 84, 85, 86, 87, 88, 89, 90, 91, 92, 93, 94, 95, 96, 97, 98, 99, 100, 101, 102, 103, 104, 105, 106, 107, 108, 109, 110, 111, 112, 113, 114, 115, 116, 117] (by decide +kernel) (by decide +kernel)
set_option maxRecDepth 20000 in
theorem gX8_askNext_X8_earlier : GoodIn wsX8_askNext (wsV RX8 240 RX8 yX8_earlier wsX8_earlier) := goodIn_app (goodIn_of _ (by decide +kernel)) ggX8_askNext_X8_earlier
set_option maxRecDepth 20000 in
theorem ggX8_askNext_X8_mayAsk : GoodIn wsX8_askNext wsX8_mayAsk := goodIn_r _ [18, 6, 19, 20, 21, 10, 22, 3, 23, 2, 24, 25, 26, 27, 28, 29, 30, 13, 31, 32, 33, 34, 35, 36, 37, 38, 39, 40, 41, 42, 43, 44, 45, 46, 47, 48, 49, 50, 51, 52, 53, 54, 55, 56, 57, 14, 58, 12, 59, 73, 74, 75, 76, 77, 78, 79, 80, 81, 82, 83, 84, 85, 86, 87, 88, 89, 90, 91, 92, 93, 94, 95, 96, 97, 98, 99, 100, 101, 102, 103, 104, 105, 106, 107, 108, 109, 110, 111, 112, 113, 114, 115, 116, 117] (by decide +kernel) (by decide +kernel)
set_option maxRecDepth 20000 in
theorem gX8_askNext_X8_mayAsk : GoodIn wsX8_askNext (wsV RX8 243 RX8 yX8_mayAsk wsX8_mayAsk) := goodIn_app (goodIn_of _ (by decide +kernel)) ggX8_askNext_X8_mayAsk
set_option maxRecDepth 20000 in
theorem ggX8_askNext_X8_byOrder : GoodIn wsX8_askNext wsX8_byOrder := goodIn_r _ [63, 3, 64, 27, 28, 29, 31, 32, 33, 10, 34, 35, 36, 37, 38, 39, 40, 41, 42, 43, 44, 45, 46, 47, 48, 15, 16, 17, 18, 6, 19, 20, 21, 22, 23, 2, 24, 25, 26, 30, 13, 49, 50, 51, 52, 53, 54, 55, 56, 57, 14, 58, 12, 59, 65, 66, 67, 68, 1, 69, 70, 71, 72, 73, 74, 75, 76, 77, 78, 79, 80, 81, 82, 83, 84, 85, 86, 87, 88, 89, 90, 91, 92, 93, 94, 95, 96, 97, 98, 99, 100, 101, 102, 103, 104, 105, 106, 107, 108, 109, 110, 111, 112, 113, 114, 115, 116, 117] (by decide +kernel) (by decide +kernel)
set_option maxRecDepth 20000 in
theorem gX8_askNext_X8_byOrder : GoodIn wsX8_askNext (wsV RX8 246 RX8 yX8_byOrder wsX8_byOrder) := goodIn_app (goodIn_of _ (by decide +kernel)) ggX8_askNext_X8_byOrder
theorem dX8_askNext_0 : decode cX8_askNext 0 = .ok (.aload_n 0, 1) := by decide +kernel
theorem dX8_askNext_1 : decode cX8_askNext 1 = .ok (.iload_n 1, 1) := by decide +kernel
theorem dX8_askNext_2 : decode cX8_askNext 2 = .ok (.invokevirtual 240, 3) := by decide +kernel
theorem dX8_askNext_5 : decode cX8_askNext 5 = .ok (.istore_n 2, 1) := by decide +kernel
theorem dX8_askNext_6 : decode cX8_askNext 6 = .ok (.iload_n 2, 1) := by decide +kernel
theorem dX8_askNext_7 : decode cX8_askNext 7 = .ok (.iconst (-1), 1) := by decide +kernel
theorem dX8_askNext_8 : decode cX8_askNext 8 = .ok (.if_icmp .eq 12, 3) := by decide +kernel
theorem dX8_askNext_11 : decode cX8_askNext 11 = .ok (.aload_n 0, 1) := by decide +kernel
theorem dX8_askNext_12 : decode cX8_askNext 12 = .ok (.iload_n 1, 1) := by decide +kernel
theorem dX8_askNext_13 : decode cX8_askNext 13 = .ok (.iload_n 2, 1) := by decide +kernel
theorem dX8_askNext_14 : decode cX8_askNext 14 = .ok (.invokevirtual 243, 3) := by decide +kernel
theorem dX8_askNext_17 : decode cX8_askNext 17 = .ok (.ifCond .ne 26, 3) := by decide +kernel
theorem dX8_askNext_20 : decode cX8_askNext 20 = .ok (.aload_n 0, 1) := by decide +kernel
theorem dX8_askNext_21 : decode cX8_askNext 21 = .ok (.getfield 46, 3) := by decide +kernel
theorem dX8_askNext_24 : decode cX8_askNext 24 = .ok (.sipush 1000, 3) := by decide +kernel
theorem dX8_askNext_27 : decode cX8_askNext 27 = .ok (.aload_n 0, 1) := by decide +kernel
theorem dX8_askNext_28 : decode cX8_askNext 28 = .ok (.getfield 61, 3) := by decide +kernel
theorem dX8_askNext_31 : decode cX8_askNext 31 = .ok (.iload_n 1, 1) := by decide +kernel
theorem dX8_askNext_32 : decode cX8_askNext 32 = .ok (.iaload, 1) := by decide +kernel
theorem dX8_askNext_33 : decode cX8_askNext 33 = .ok (.imul, 1) := by decide +kernel
theorem dX8_askNext_34 : decode cX8_askNext 34 = .ok (.aload_n 0, 1) := by decide +kernel
theorem dX8_askNext_35 : decode cX8_askNext 35 = .ok (.getfield 58, 3) := by decide +kernel
theorem dX8_askNext_38 : decode cX8_askNext 38 = .ok (.iload_n 1, 1) := by decide +kernel
theorem dX8_askNext_39 : decode cX8_askNext 39 = .ok (.iaload, 1) := by decide +kernel
theorem dX8_askNext_40 : decode cX8_askNext 40 = .ok (.iadd, 1) := by decide +kernel
theorem dX8_askNext_41 : decode cX8_askNext 41 = .ok (.iaload, 1) := by decide +kernel
theorem dX8_askNext_42 : decode cX8_askNext 42 = .ok (.istore_n 2, 1) := by decide +kernel
theorem dX8_askNext_43 : decode cX8_askNext 43 = .ok (.iload_n 2, 1) := by decide +kernel
theorem dX8_askNext_44 : decode cX8_askNext 44 = .ok (.iconst (-1), 1) := by decide +kernel
theorem dX8_askNext_45 : decode cX8_askNext 45 = .ok (.if_icmp .eq 12, 3) := by decide +kernel
theorem dX8_askNext_48 : decode cX8_askNext 48 = .ok (.aload_n 0, 1) := by decide +kernel
theorem dX8_askNext_49 : decode cX8_askNext 49 = .ok (.iload_n 1, 1) := by decide +kernel
theorem dX8_askNext_50 : decode cX8_askNext 50 = .ok (.iload_n 2, 1) := by decide +kernel
theorem dX8_askNext_51 : decode cX8_askNext 51 = .ok (.invokevirtual 243, 3) := by decide +kernel
theorem dX8_askNext_54 : decode cX8_askNext 54 = .ok (.ifCond .ne 9, 3) := by decide +kernel
theorem dX8_askNext_57 : decode cX8_askNext 57 = .ok (.aload_n 0, 1) := by decide +kernel
theorem dX8_askNext_58 : decode cX8_askNext 58 = .ok (.iload_n 1, 1) := by decide +kernel
theorem dX8_askNext_59 : decode cX8_askNext 59 = .ok (.invokevirtual 246, 3) := by decide +kernel
theorem dX8_askNext_62 : decode cX8_askNext 62 = .ok (.istore_n 2, 1) := by decide +kernel
theorem dX8_askNext_63 : decode cX8_askNext 63 = .ok (.aload_n 0, 1) := by decide +kernel
theorem dX8_askNext_64 : decode cX8_askNext 64 = .ok (.getfield 82, 3) := by decide +kernel
theorem dX8_askNext_67 : decode cX8_askNext 67 = .ok (.iload_n 1, 1) := by decide +kernel
theorem dX8_askNext_68 : decode cX8_askNext 68 = .ok (.iload_n 2, 1) := by decide +kernel
theorem dX8_askNext_69 : decode cX8_askNext 69 = .ok (.iastore, 1) := by decide +kernel
theorem dX8_askNext_70 : decode cX8_askNext 70 = .ok (.aload_n 0, 1) := by decide +kernel
theorem dX8_askNext_71 : decode cX8_askNext 71 = .ok (.getfield 76, 3) := by decide +kernel
theorem dX8_askNext_74 : decode cX8_askNext 74 = .ok (.iload_n 1, 1) := by decide +kernel
theorem dX8_askNext_75 : decode cX8_askNext 75 = .ok (.iload_n 2, 1) := by decide +kernel
theorem dX8_askNext_76 : decode cX8_askNext 76 = .ok (.iconst (-1), 1) := by decide +kernel
theorem dX8_askNext_77 : decode cX8_askNext 77 = .ok (.if_icmp .ne 7, 3) := by decide +kernel
theorem dX8_askNext_80 : decode cX8_askNext 80 = .ok (.iconst 2, 1) := by decide +kernel
theorem dX8_askNext_81 : decode cX8_askNext 81 = .ok (.goto 4, 3) := by decide +kernel
theorem dX8_askNext_84 : decode cX8_askNext 84 = .ok (.iconst 0, 1) := by decide +kernel
theorem dX8_askNext_85 : decode cX8_askNext 85 = .ok (.iastore, 1) := by decide +kernel
theorem dX8_askNext_86 : decode cX8_askNext 86 = .ok (.iload_n 2, 1) := by decide +kernel
theorem dX8_askNext_87 : decode cX8_askNext 87 = .ok (.iconst (-1), 1) := by decide +kernel
theorem dX8_askNext_88 : decode cX8_askNext 88 = .ok (.if_icmp .eq 15, 3) := by decide +kernel
theorem dX8_askNext_91 : decode cX8_askNext 91 = .ok (.aload_n 0, 1) := by decide +kernel
theorem dX8_askNext_92 : decode cX8_askNext 92 = .ok (.getfield 100, 3) := by decide +kernel
theorem dX8_askNext_95 : decode cX8_askNext 95 = .ok (.bipush 24, 2) := by decide +kernel
theorem dX8_askNext_97 : decode cX8_askNext 97 = .ok (.iload_n 1, 1) := by decide +kernel
theorem dX8_askNext_98 : decode cX8_askNext 98 = .ok (.imul, 1) := by decide +kernel
theorem dX8_askNext_99 : decode cX8_askNext 99 = .ok (.iload_n 2, 1) := by decide +kernel
theorem dX8_askNext_100 : decode cX8_askNext 100 = .ok (.iadd, 1) := by decide +kernel
theorem dX8_askNext_101 : decode cX8_askNext 101 = .ok (.iconst 1, 1) := by decide +kernel
theorem dX8_askNext_102 : decode cX8_askNext 102 = .ok (.bastore, 1) := by decide +kernel
theorem dX8_askNext_103 : decode cX8_askNext 103 = .ok (.return_, 1) := by decide +kernel
set_option maxRecDepth 20000 in
theorem ggX8_byOrder_X8_now : GoodIn wsX8_byOrder wsX8_now := goodIn_r _ [10, 11, 12, 13, 14, 9, 15, 16, 17, 18, 19, 20, 21, 22, 23, 24, 63, 64, 65, 66, 67, 68, 69, 70, 71, 72, 73, 74, 75, 76, 77, 78, 79, 80, 81, 82, 83, 84, 85, 86, 87, 88, 89, 90, 91, 92, 93, 94, 95, 96, 97, 98, 99, 100, 101, 102, 103, 104, 105, 106, 107] (by decide +kernel) (by decide +kernel)
set_option maxRecDepth 20000 in
theorem gX8_byOrder_X8_now : GoodIn wsX8_byOrder (wsV RX8 205 RX8 yX8_now wsX8_now) := goodIn_app (goodIn_of _ (by decide +kernel)) ggX8_byOrder_X8_now
set_option maxRecDepth 20000 in
theorem ggX8_byOrder_X8_mayAsk : GoodIn wsX8_byOrder wsX8_mayAsk := goodIn_r _ [28, 29, 30, 31, 32, 9, 33, 1, 34, 35, 36, 37, 38, 3, 4, 5, 39, 40, 6, 7, 8, 10, 11, 12, 13, 14, 15, 16, 17, 18, 19, 20, 21, 22, 23, 24, 41, 42, 43, 44, 45, 46, 47, 48, 49, 50, 51, 52, 53, 63, 64, 65, 66, 67, 68, 69, 70, 71, 72, 73, 74, 75, 76, 77, 78, 79, 80, 81, 82, 83, 84, 85, 86, 87, 88, 89, 90, 91, 92, 93, 94, 95, 96, 97, 98, 99, 100, 101, 102, 103, 104, 105, 106, 107] (by decide +kernel) (by decide +kernel)
set_option maxRecDepth 20000 in
theorem gX8_byOrder_X8_mayAsk : GoodIn wsX8_byOrder (wsV RX8 243 RX8 yX8_mayAsk wsX8_mayAsk) := goodIn_app (goodIn_of _ (by decide +kernel)) ggX8_byOrder_X8_mayAsk
set_option maxRecDepth 20000 in
theorem ggX8_byOrder_X8_duties : GoodIn wsX8_byOrder wsX8_duties := goodIn_r _ [57, 58, 63, 64, 65, 66, 67, 68, 69, 70, 71, 72, 73, 74, 75, 76, 77, 78, 79, 80, 81, 82, 83, 84, 85, 86, 87, 88, 89, 90, 91, 92, 93, 94, 95, 96, 97, 98, 99, 100, 101, 102, 103, 104, 105, 106, 107] (by decide +kernel) (by decide +kernel)
set_option maxRecDepth 20000 in
theorem gX8_byOrder_X8_duties : GoodIn wsX8_byOrder (wsV RX8 195 RX8 yX8_duties wsX8_duties) := goodIn_app (goodIn_of _ (by decide +kernel)) ggX8_byOrder_X8_duties
set_option maxRecDepth 20000 in
theorem ggX8_byOrder_X8_taken : GoodIn wsX8_byOrder wsX8_taken := goodIn_r _ [62, 51, 52, 63, 64, 65, 66, 67, 68, 69, 70, 71, 72, 73, 74, 75, 76, 77, 78, 79, 80, 81, 82, 83, 84, 85, 86, 87, 88, 89, 90, 91, 92, 93, 94, 95, 96, 97, 98, 99, 100, 101, 102, 103, 104, 105, 106, 107] (by decide +kernel) (by decide +kernel)
set_option maxRecDepth 20000 in
theorem gX8_byOrder_X8_taken : GoodIn wsX8_byOrder (wsV RX8 198 RX8 yX8_taken wsX8_taken) := goodIn_app (goodIn_of _ (by decide +kernel)) ggX8_byOrder_X8_taken
theorem dX8_byOrder_0 : decode cX8_byOrder 0 = .ok (.aload_n 0, 1) := by decide +kernel
theorem dX8_byOrder_1 : decode cX8_byOrder 1 = .ok (.aload_n 0, 1) := by decide +kernel
theorem dX8_byOrder_2 : decode cX8_byOrder 2 = .ok (.getfield 58, 3) := by decide +kernel
theorem dX8_byOrder_5 : decode cX8_byOrder 5 = .ok (.iload_n 1, 1) := by decide +kernel
theorem dX8_byOrder_6 : decode cX8_byOrder 6 = .ok (.iaload, 1) := by decide +kernel
theorem dX8_byOrder_7 : decode cX8_byOrder 7 = .ok (.bipush 9, 2) := by decide +kernel
theorem dX8_byOrder_9 : decode cX8_byOrder 9 = .ok (.invokevirtual 205, 3) := by decide +kernel
theorem dX8_byOrder_12 : decode cX8_byOrder 12 = .ok (.istore_n 2, 1) := by decide +kernel
theorem dX8_byOrder_13 : decode cX8_byOrder 13 = .ok (.iconst (-1), 1) := by decide +kernel
theorem dX8_byOrder_14 : decode cX8_byOrder 14 = .ok (.istore_n 3, 1) := by decide +kernel
theorem dX8_byOrder_15 : decode cX8_byOrder 15 = .ok (.iconst 0, 1) := by decide +kernel
theorem dX8_byOrder_16 : decode cX8_byOrder 16 = .ok (.istore 4, 2) := by decide +kernel
theorem dX8_byOrder_18 : decode cX8_byOrder 18 = .ok (.iconst 0, 1) := by decide +kernel
theorem dX8_byOrder_19 : decode cX8_byOrder 19 = .ok (.istore 5, 2) := by decide +kernel
theorem dX8_byOrder_21 : decode cX8_byOrder 21 = .ok (.iload 5, 2) := by decide +kernel
theorem dX8_byOrder_23 : decode cX8_byOrder 23 = .ok (.aload_n 0, 1) := by decide +kernel
theorem dX8_byOrder_24 : decode cX8_byOrder 24 = .ok (.getfield 189, 3) := by decide +kernel
theorem dX8_byOrder_27 : decode cX8_byOrder 27 = .ok (.if_icmp .ge 101, 3) := by decide +kernel
theorem dX8_byOrder_30 : decode cX8_byOrder 30 = .ok (.aload_n 0, 1) := by decide +kernel
theorem dX8_byOrder_31 : decode cX8_byOrder 31 = .ok (.iload_n 1, 1) := by decide +kernel
theorem dX8_byOrder_32 : decode cX8_byOrder 32 = .ok (.iload 5, 2) := by decide +kernel
theorem dX8_byOrder_34 : decode cX8_byOrder 34 = .ok (.invokevirtual 243, 3) := by decide +kernel
theorem dX8_byOrder_37 : decode cX8_byOrder 37 = .ok (.ifCond .ne 6, 3) := by decide +kernel
theorem dX8_byOrder_40 : decode cX8_byOrder 40 = .ok (.goto 82, 3) := by decide +kernel
theorem dX8_byOrder_43 : decode cX8_byOrder 43 = .ok (.iload_n 2, 1) := by decide +kernel
theorem dX8_byOrder_44 : decode cX8_byOrder 44 = .ok (.ifCond .ne 18, 3) := by decide +kernel
theorem dX8_byOrder_47 : decode cX8_byOrder 47 = .ok (.aload_n 0, 1) := by decide +kernel
theorem dX8_byOrder_48 : decode cX8_byOrder 48 = .ok (.iload 5, 2) := by decide +kernel
theorem dX8_byOrder_50 : decode cX8_byOrder 50 = .ok (.aload_n 0, 1) := by decide +kernel
theorem dX8_byOrder_51 : decode cX8_byOrder 51 = .ok (.getfield 58, 3) := by decide +kernel
theorem dX8_byOrder_54 : decode cX8_byOrder 54 = .ok (.iload_n 1, 1) := by decide +kernel
theorem dX8_byOrder_55 : decode cX8_byOrder 55 = .ok (.iaload, 1) := by decide +kernel
theorem dX8_byOrder_56 : decode cX8_byOrder 56 = .ok (.invokevirtual 195, 3) := by decide +kernel
theorem dX8_byOrder_59 : decode cX8_byOrder 59 = .ok (.goto 39, 3) := by decide +kernel
theorem dX8_byOrder_62 : decode cX8_byOrder 62 = .ok (.iload_n 2, 1) := by decide +kernel
theorem dX8_byOrder_63 : decode cX8_byOrder 63 = .ok (.iconst 1, 1) := by decide +kernel
theorem dX8_byOrder_64 : decode cX8_byOrder 64 = .ok (.if_icmp .ne 12, 3) := by decide +kernel
theorem dX8_byOrder_67 : decode cX8_byOrder 67 = .ok (.aload_n 0, 1) := by decide +kernel
theorem dX8_byOrder_68 : decode cX8_byOrder 68 = .ok (.iload 5, 2) := by decide +kernel
theorem dX8_byOrder_70 : decode cX8_byOrder 70 = .ok (.invokevirtual 198, 3) := by decide +kernel
theorem dX8_byOrder_73 : decode cX8_byOrder 73 = .ok (.goto 25, 3) := by decide +kernel
theorem dX8_byOrder_76 : decode cX8_byOrder 76 = .ok (.aload_n 0, 1) := by decide +kernel
theorem dX8_byOrder_77 : decode cX8_byOrder 77 = .ok (.getfield 43, 3) := by decide +kernel
theorem dX8_byOrder_80 : decode cX8_byOrder 80 = .ok (.bipush 10, 2) := by decide +kernel
theorem dX8_byOrder_82 : decode cX8_byOrder 82 = .ok (.aload_n 0, 1) := by decide +kernel
theorem dX8_byOrder_83 : decode cX8_byOrder 83 = .ok (.getfield 28, 3) := by decide +kernel
theorem dX8_byOrder_86 : decode cX8_byOrder 86 = .ok (.iload 5, 2) := by decide +kernel
theorem dX8_byOrder_88 : decode cX8_byOrder 88 = .ok (.iaload, 1) := by decide +kernel
theorem dX8_byOrder_89 : decode cX8_byOrder 89 = .ok (.imul, 1) := by decide +kernel
theorem dX8_byOrder_90 : decode cX8_byOrder 90 = .ok (.aload_n 0, 1) := by decide +kernel
theorem dX8_byOrder_91 : decode cX8_byOrder 91 = .ok (.getfield 64, 3) := by decide +kernel
theorem dX8_byOrder_94 : decode cX8_byOrder 94 = .ok (.iload_n 1, 1) := by decide +kernel
theorem dX8_byOrder_95 : decode cX8_byOrder 95 = .ok (.iaload, 1) := by decide +kernel
theorem dX8_byOrder_96 : decode cX8_byOrder 96 = .ok (.iadd, 1) := by decide +kernel
theorem dX8_byOrder_97 : decode cX8_byOrder 97 = .ok (.iaload, 1) := by decide +kernel
theorem dX8_byOrder_98 : decode cX8_byOrder 98 = .ok (.istore 6, 2) := by decide +kernel
theorem dX8_byOrder_100 : decode cX8_byOrder 100 = .ok (.iload_n 3, 1) := by decide +kernel
theorem dX8_byOrder_101 : decode cX8_byOrder 101 = .ok (.iconst (-1), 1) := by decide +kernel
theorem dX8_byOrder_102 : decode cX8_byOrder 102 = .ok (.if_icmp .eq 13, 3) := by decide +kernel
theorem dX8_byOrder_105 : decode cX8_byOrder 105 = .ok (.iload 6, 2) := by decide +kernel
theorem dX8_byOrder_107 : decode cX8_byOrder 107 = .ok (.iload 4, 2) := by decide +kernel
theorem dX8_byOrder_109 : decode cX8_byOrder 109 = .ok (.if_icmp .lt 6, 3) := by decide +kernel
theorem dX8_byOrder_112 : decode cX8_byOrder 112 = .ok (.goto 10, 3) := by decide +kernel
theorem dX8_byOrder_115 : decode cX8_byOrder 115 = .ok (.iload 5, 2) := by decide +kernel
theorem dX8_byOrder_117 : decode cX8_byOrder 117 = .ok (.istore_n 3, 1) := by decide +kernel
theorem dX8_byOrder_118 : decode cX8_byOrder 118 = .ok (.iload 6, 2) := by decide +kernel
theorem dX8_byOrder_120 : decode cX8_byOrder 120 = .ok (.istore 4, 2) := by decide +kernel
theorem dX8_byOrder_122 : decode cX8_byOrder 122 = .ok (.iinc 5 1, 3) := by decide +kernel
theorem dX8_byOrder_125 : decode cX8_byOrder 125 = .ok (.goto (-104), 3) := by decide +kernel
theorem dX8_byOrder_128 : decode cX8_byOrder 128 = .ok (.iload_n 3, 1) := by decide +kernel
theorem dX8_byOrder_129 : decode cX8_byOrder 129 = .ok (.ireturn, 1) := by decide +kernel
set_option maxRecDepth 20000 in
theorem ggX8_call_X8_isDay : GoodIn wsX8_call wsX8_isDay := goodIn_r _ [15, 16, 17, 14, 18] (by decide +kernel) (by decide +kernel)
set_option maxRecDepth 20000 in
theorem gX8_call_X8_isDay : GoodIn wsX8_call (va_wsS RX8 170 yX8_isDay wsX8_isDay) := goodIn_app (goodIn_of _ (by decide +kernel)) ggX8_call_X8_isDay
set_option maxRecDepth 20000 in
theorem ggX8_call_X8_in : GoodIn wsX8_call wsX8_in := goodIn_r _ [18] (by decide +kernel) (by decide +kernel)
set_option maxRecDepth 20000 in
theorem gX8_call_X8_in : GoodIn wsX8_call (va_wsS RX8 166 yX8_in wsX8_in) := goodIn_app (goodIn_of _ (by decide +kernel)) ggX8_call_X8_in
set_option maxRecDepth 20000 in
theorem ggX8_call_X8_askNext : GoodIn wsX8_call wsX8_askNext := goodIn_r _ [22, 23, 3, 2, 24, 25, 11, 26, 27, 28, 14, 29, 9, 6, 7, 30, 31, 32, 33, 34, 35, 36, 37, 38, 39, 5, 40, 41, 42, 4, 43, 44, 45, 46, 47, 48, 49, 50, 51, 52, 53, 54, 55, 56, 57, 58, 59, 60, 61, 62, 63, 64, 65, 66, 67, 68, 69, 70, 1, 71, 72, 73, 74, 75, 76, 77, 78, 79, 80, 81, 82, 83, 84, 85, 86, 87, 88, 89, 90, 91, 92, 93, 94, 95, 96, 97, 98, 99, 100, 101, 102, 103, 104, 105, 106, 107, 108, 109, 110, 111, 112, 113, 114, 115, 116, 117, 118, 119, 120, 121, 122, 123, 124, 125, 126, 127, 128, 129] (by decide +kernel) (by decide +kernel)
set_option maxRecDepth 20000 in
theorem gX8_call_X8_askNext : GoodIn wsX8_call (wsV RX8 249 RX8 yX8_askNext wsX8_askNext) := goodIn_app (goodIn_of _ (by decide +kernel)) ggX8_call_X8_askNext
theorem dX8_call_0 : decode cX8_call 0 = .ok (.iload_n 1, 1) := by decide +kernel
theorem dX8_call_1 : decode cX8_call 1 = .ok (.invokestatic 170, 3) := by decide +kernel
theorem dX8_call_4 : decode cX8_call 4 = .ok (.ifCond .eq 67, 3) := by decide +kernel
theorem dX8_call_7 : decode cX8_call 7 = .ok (.iload_n 2, 1) := by decide +kernel
theorem dX8_call_8 : decode cX8_call 8 = .ok (.iconst 0, 1) := by decide +kernel
theorem dX8_call_9 : decode cX8_call 9 = .ok (.sipush 1439, 3) := by decide +kernel
theorem dX8_call_12 : decode cX8_call 12 = .ok (.invokestatic 166, 3) := by decide +kernel
theorem dX8_call_15 : decode cX8_call 15 = .ok (.ifCond .eq 56, 3) := by decide +kernel
theorem dX8_call_18 : decode cX8_call 18 = .ok (.iload_n 3, 1) := by decide +kernel
theorem dX8_call_19 : decode cX8_call 19 = .ok (.iconst 0, 1) := by decide +kernel
theorem dX8_call_20 : decode cX8_call 20 = .ok (.iconst 5, 1) := by decide +kernel
theorem dX8_call_21 : decode cX8_call 21 = .ok (.invokestatic 166, 3) := by decide +kernel
theorem dX8_call_24 : decode cX8_call 24 = .ok (.ifCond .eq 47, 3) := by decide +kernel
theorem dX8_call_27 : decode cX8_call 27 = .ok (.iload 4, 2) := by decide +kernel
theorem dX8_call_29 : decode cX8_call 29 = .ok (.iconst 0, 1) := by decide +kernel
theorem dX8_call_30 : decode cX8_call 30 = .ok (.bipush 9, 2) := by decide +kernel
theorem dX8_call_32 : decode cX8_call 32 = .ok (.invokestatic 166, 3) := by decide +kernel
theorem dX8_call_35 : decode cX8_call 35 = .ok (.ifCond .eq 36, 3) := by decide +kernel
theorem dX8_call_38 : decode cX8_call 38 = .ok (.iload 5, 2) := by decide +kernel
theorem dX8_call_40 : decode cX8_call 40 = .ok (.iconst (-1), 1) := by decide +kernel
theorem dX8_call_41 : decode cX8_call 41 = .ok (.bipush 7, 2) := by decide +kernel
theorem dX8_call_43 : decode cX8_call 43 = .ok (.invokestatic 166, 3) := by decide +kernel
theorem dX8_call_46 : decode cX8_call 46 = .ok (.ifCond .eq 25, 3) := by decide +kernel
theorem dX8_call_49 : decode cX8_call 49 = .ok (.iload 6, 2) := by decide +kernel
theorem dX8_call_51 : decode cX8_call 51 = .ok (.iconst 0, 1) := by decide +kernel
theorem dX8_call_52 : decode cX8_call 52 = .ok (.bipush 99, 2) := by decide +kernel
theorem dX8_call_54 : decode cX8_call 54 = .ok (.invokestatic 166, 3) := by decide +kernel
theorem dX8_call_57 : decode cX8_call 57 = .ok (.ifCond .eq 14, 3) := by decide +kernel
theorem dX8_call_60 : decode cX8_call 60 = .ok (.iload 7, 2) := by decide +kernel
theorem dX8_call_62 : decode cX8_call 62 = .ok (.iconst 0, 1) := by decide +kernel
theorem dX8_call_63 : decode cX8_call 63 = .ok (.bipush 9, 2) := by decide +kernel
theorem dX8_call_65 : decode cX8_call 65 = .ok (.invokestatic 166, 3) := by decide +kernel
theorem dX8_call_68 : decode cX8_call 68 = .ok (.ifCond .ne 6, 3) := by decide +kernel
theorem dX8_call_71 : decode cX8_call 71 = .ok (.bipush (-2), 2) := by decide +kernel
theorem dX8_call_73 : decode cX8_call 73 = .ok (.ireturn, 1) := by decide +kernel
theorem dX8_call_74 : decode cX8_call 74 = .ok (.aload_n 0, 1) := by decide +kernel
theorem dX8_call_75 : decode cX8_call 75 = .ok (.getfield 231, 3) := by decide +kernel
theorem dX8_call_78 : decode cX8_call 78 = .ok (.ifCond .le 21, 3) := by decide +kernel
theorem dX8_call_81 : decode cX8_call 81 = .ok (.iload_n 1, 1) := by decide +kernel
theorem dX8_call_82 : decode cX8_call 82 = .ok (.aload_n 0, 1) := by decide +kernel
theorem dX8_call_83 : decode cX8_call 83 = .ok (.getfield 58, 3) := by decide +kernel
theorem dX8_call_86 : decode cX8_call 86 = .ok (.aload_n 0, 1) := by decide +kernel
theorem dX8_call_87 : decode cX8_call 87 = .ok (.getfield 231, 3) := by decide +kernel
theorem dX8_call_90 : decode cX8_call 90 = .ok (.iconst 1, 1) := by decide +kernel
theorem dX8_call_91 : decode cX8_call 91 = .ok (.isub, 1) := by decide +kernel
theorem dX8_call_92 : decode cX8_call 92 = .ok (.iaload, 1) := by decide +kernel
theorem dX8_call_93 : decode cX8_call 93 = .ok (.if_icmp .ge 6, 3) := by decide +kernel
theorem dX8_call_96 : decode cX8_call 96 = .ok (.bipush (-2), 2) := by decide +kernel
theorem dX8_call_98 : decode cX8_call 98 = .ok (.ireturn, 1) := by decide +kernel
theorem dX8_call_99 : decode cX8_call 99 = .ok (.aload_n 0, 1) := by decide +kernel
theorem dX8_call_100 : decode cX8_call 100 = .ok (.getfield 231, 3) := by decide +kernel
theorem dX8_call_103 : decode cX8_call 103 = .ok (.sipush 150, 3) := by decide +kernel
theorem dX8_call_106 : decode cX8_call 106 = .ok (.if_icmp .ne 6, 3) := by decide +kernel
theorem dX8_call_109 : decode cX8_call 109 = .ok (.bipush (-3), 2) := by decide +kernel
theorem dX8_call_111 : decode cX8_call 111 = .ok (.ireturn, 1) := by decide +kernel
theorem dX8_call_112 : decode cX8_call 112 = .ok (.aload_n 0, 1) := by decide +kernel
theorem dX8_call_113 : decode cX8_call 113 = .ok (.getfield 231, 3) := by decide +kernel
theorem dX8_call_116 : decode cX8_call 116 = .ok (.istore 8, 2) := by decide +kernel
theorem dX8_call_118 : decode cX8_call 118 = .ok (.aload_n 0, 1) := by decide +kernel
theorem dX8_call_119 : decode cX8_call 119 = .ok (.getfield 58, 3) := by decide +kernel
theorem dX8_call_122 : decode cX8_call 122 = .ok (.iload 8, 2) := by decide +kernel
theorem dX8_call_124 : decode cX8_call 124 = .ok (.iload_n 1, 1) := by decide +kernel
theorem dX8_call_125 : decode cX8_call 125 = .ok (.iastore, 1) := by decide +kernel
theorem dX8_call_126 : decode cX8_call 126 = .ok (.aload_n 0, 1) := by decide +kernel
theorem dX8_call_127 : decode cX8_call 127 = .ok (.getfield 61, 3) := by decide +kernel
theorem dX8_call_130 : decode cX8_call 130 = .ok (.iload 8, 2) := by decide +kernel
theorem dX8_call_132 : decode cX8_call 132 = .ok (.iload_n 3, 1) := by decide +kernel
theorem dX8_call_133 : decode cX8_call 133 = .ok (.iastore, 1) := by decide +kernel
theorem dX8_call_134 : decode cX8_call 134 = .ok (.aload_n 0, 1) := by decide +kernel
theorem dX8_call_135 : decode cX8_call 135 = .ok (.getfield 64, 3) := by decide +kernel
theorem dX8_call_138 : decode cX8_call 138 = .ok (.iload 8, 2) := by decide +kernel
theorem dX8_call_140 : decode cX8_call 140 = .ok (.iload 4, 2) := by decide +kernel
theorem dX8_call_142 : decode cX8_call 142 = .ok (.iastore, 1) := by decide +kernel
theorem dX8_call_143 : decode cX8_call 143 = .ok (.aload_n 0, 1) := by decide +kernel
theorem dX8_call_144 : decode cX8_call 144 = .ok (.getfield 67, 3) := by decide +kernel
theorem dX8_call_147 : decode cX8_call 147 = .ok (.iload 8, 2) := by decide +kernel
theorem dX8_call_149 : decode cX8_call 149 = .ok (.iload 5, 2) := by decide +kernel
theorem dX8_call_151 : decode cX8_call 151 = .ok (.iastore, 1) := by decide +kernel
theorem dX8_call_152 : decode cX8_call 152 = .ok (.aload_n 0, 1) := by decide +kernel
theorem dX8_call_153 : decode cX8_call 153 = .ok (.getfield 70, 3) := by decide +kernel
theorem dX8_call_156 : decode cX8_call 156 = .ok (.iload 8, 2) := by decide +kernel
theorem dX8_call_158 : decode cX8_call 158 = .ok (.iload 6, 2) := by decide +kernel
theorem dX8_call_160 : decode cX8_call 160 = .ok (.iastore, 1) := by decide +kernel
theorem dX8_call_161 : decode cX8_call 161 = .ok (.aload_n 0, 1) := by decide +kernel
theorem dX8_call_162 : decode cX8_call 162 = .ok (.getfield 73, 3) := by decide +kernel
theorem dX8_call_165 : decode cX8_call 165 = .ok (.iload 8, 2) := by decide +kernel
theorem dX8_call_167 : decode cX8_call 167 = .ok (.iload 7, 2) := by decide +kernel
theorem dX8_call_169 : decode cX8_call 169 = .ok (.iastore, 1) := by decide +kernel
theorem dX8_call_170 : decode cX8_call 170 = .ok (.aload_n 0, 1) := by decide +kernel
theorem dX8_call_171 : decode cX8_call 171 = .ok (.getfield 79, 3) := by decide +kernel
theorem dX8_call_174 : decode cX8_call 174 = .ok (.iload 8, 2) := by decide +kernel
theorem dX8_call_176 : decode cX8_call 176 = .ok (.iconst 0, 1) := by decide +kernel
theorem dX8_call_177 : decode cX8_call 177 = .ok (.iastore, 1) := by decide +kernel
theorem dX8_call_178 : decode cX8_call 178 = .ok (.aload_n 0, 1) := by decide +kernel
theorem dX8_call_179 : decode cX8_call 179 = .ok (.getfield 85, 3) := by decide +kernel
theorem dX8_call_182 : decode cX8_call 182 = .ok (.iload 8, 2) := by decide +kernel
theorem dX8_call_184 : decode cX8_call 184 = .ok (.iconst (-1), 1) := by decide +kernel
theorem dX8_call_185 : decode cX8_call 185 = .ok (.iastore, 1) := by decide +kernel
theorem dX8_call_186 : decode cX8_call 186 = .ok (.aload_n 0, 1) := by decide +kernel
theorem dX8_call_187 : decode cX8_call 187 = .ok (.getfield 97, 3) := by decide +kernel
theorem dX8_call_190 : decode cX8_call 190 = .ok (.iload 8, 2) := by decide +kernel
theorem dX8_call_192 : decode cX8_call 192 = .ok (.iconst 0, 1) := by decide +kernel
theorem dX8_call_193 : decode cX8_call 193 = .ok (.iastore, 1) := by decide +kernel
theorem dX8_call_194 : decode cX8_call 194 = .ok (.iconst 0, 1) := by decide +kernel
theorem dX8_call_195 : decode cX8_call 195 = .ok (.istore 9, 2) := by decide +kernel
theorem dX8_call_197 : decode cX8_call 197 = .ok (.iload 9, 2) := by decide +kernel
theorem dX8_call_199 : decode cX8_call 199 = .ok (.bipush 24, 2) := by decide +kernel
theorem dX8_call_201 : decode cX8_call 201 = .ok (.if_icmp .ge 23, 3) := by decide +kernel
theorem dX8_call_204 : decode cX8_call 204 = .ok (.aload_n 0, 1) := by decide +kernel
theorem dX8_call_205 : decode cX8_call 205 = .ok (.getfield 100, 3) := by decide +kernel
theorem dX8_call_208 : decode cX8_call 208 = .ok (.bipush 24, 2) := by decide +kernel
theorem dX8_call_210 : decode cX8_call 210 = .ok (.iload 8, 2) := by decide +kernel
theorem dX8_call_212 : decode cX8_call 212 = .ok (.imul, 1) := by decide +kernel
theorem dX8_call_213 : decode cX8_call 213 = .ok (.iload 9, 2) := by decide +kernel
theorem dX8_call_215 : decode cX8_call 215 = .ok (.iadd, 1) := by decide +kernel
theorem dX8_call_216 : decode cX8_call 216 = .ok (.iconst 0, 1) := by decide +kernel
theorem dX8_call_217 : decode cX8_call 217 = .ok (.bastore, 1) := by decide +kernel
theorem dX8_call_218 : decode cX8_call 218 = .ok (.iinc 9 1, 3) := by decide +kernel
theorem dX8_call_221 : decode cX8_call 221 = .ok (.goto (-24), 3) := by decide +kernel
theorem dX8_call_224 : decode cX8_call 224 = .ok (.aload_n 0, 1) := by decide +kernel
theorem dX8_call_225 : decode cX8_call 225 = .ok (.dup, 1) := by decide +kernel
theorem dX8_call_226 : decode cX8_call 226 = .ok (.getfield 231, 3) := by decide +kernel
theorem dX8_call_229 : decode cX8_call 229 = .ok (.iconst 1, 1) := by decide +kernel
theorem dX8_call_230 : decode cX8_call 230 = .ok (.iadd, 1) := by decide +kernel
theorem dX8_call_231 : decode cX8_call 231 = .ok (.putfield 231, 3) := by decide +kernel
theorem dX8_call_234 : decode cX8_call 234 = .ok (.aload_n 0, 1) := by decide +kernel
theorem dX8_call_235 : decode cX8_call 235 = .ok (.iload 8, 2) := by decide +kernel
theorem dX8_call_237 : decode cX8_call 237 = .ok (.invokevirtual 249, 3) := by decide +kernel
theorem dX8_call_240 : decode cX8_call 240 = .ok (.iload 8, 2) := by decide +kernel
theorem dX8_call_242 : decode cX8_call 242 = .ok (.ireturn, 1) := by decide +kernel
set_option maxRecDepth 20000 in
theorem ggX8_isCall_X8_in : GoodIn wsX8_isCall wsX8_in := goodIn_r _ [5] (by decide +kernel) (by decide +kernel)
set_option maxRecDepth 20000 in
theorem gX8_isCall_X8_in : GoodIn wsX8_isCall (va_wsS RX8 166 yX8_in wsX8_in) := goodIn_app (goodIn_of _ (by decide +kernel)) ggX8_isCall_X8_in
theorem dX8_isCall_0 : decode cX8_isCall 0 = .ok (.iload_n 1, 1) := by decide +kernel
theorem dX8_isCall_1 : decode cX8_isCall 1 = .ok (.iconst 0, 1) := by decide +kernel
theorem dX8_isCall_2 : decode cX8_isCall 2 = .ok (.aload_n 0, 1) := by decide +kernel
theorem dX8_isCall_3 : decode cX8_isCall 3 = .ok (.getfield 231, 3) := by decide +kernel
theorem dX8_isCall_6 : decode cX8_isCall 6 = .ok (.iconst 1, 1) := by decide +kernel
theorem dX8_isCall_7 : decode cX8_isCall 7 = .ok (.isub, 1) := by decide +kernel
theorem dX8_isCall_8 : decode cX8_isCall 8 = .ok (.invokestatic 166, 3) := by decide +kernel
theorem dX8_isCall_11 : decode cX8_isCall 11 = .ok (.ireturn, 1) := by decide +kernel
set_option maxRecDepth 20000 in
theorem ggX8_asked_X8_isCall : GoodIn wsX8_asked wsX8_isCall := goodIn_r _ [7, 8, 9, 10, 6, 11, 12, 13, 14, 15, 16, 17, 18, 19, 20, 21, 22, 23, 24, 25, 26, 27, 28, 29, 30, 31, 32, 33, 34, 35, 36, 37, 38, 39, 40, 41, 42, 43, 44, 45, 46, 47, 48, 49, 50, 51, 52, 53, 54, 55, 56] (by decide +kernel) (by decide +kernel)
set_option maxRecDepth 20000 in
theorem gX8_asked_X8_isCall : GoodIn wsX8_asked (wsV RX8 253 RX8 yX8_isCall wsX8_isCall) := goodIn_app (goodIn_of _ (by decide +kernel)) ggX8_asked_X8_isCall
theorem dX8_asked_0 : decode cX8_asked 0 = .ok (.aload_n 0, 1) := by decide +kernel
theorem dX8_asked_1 : decode cX8_asked 1 = .ok (.iload_n 1, 1) := by decide +kernel
theorem dX8_asked_2 : decode cX8_asked 2 = .ok (.invokevirtual 253, 3) := by decide +kernel
theorem dX8_asked_5 : decode cX8_asked 5 = .ok (.ifCond .ne 8, 3) := by decide +kernel
theorem dX8_asked_8 : decode cX8_asked 8 = .ok (.bipush (-2), 2) := by decide +kernel
theorem dX8_asked_10 : decode cX8_asked 10 = .ok (.goto 22, 3) := by decide +kernel
theorem dX8_asked_13 : decode cX8_asked 13 = .ok (.aload_n 0, 1) := by decide +kernel
theorem dX8_asked_14 : decode cX8_asked 14 = .ok (.getfield 76, 3) := by decide +kernel
theorem dX8_asked_17 : decode cX8_asked 17 = .ok (.iload_n 1, 1) := by decide +kernel
theorem dX8_asked_18 : decode cX8_asked 18 = .ok (.iaload, 1) := by decide +kernel
theorem dX8_asked_19 : decode cX8_asked 19 = .ok (.ifCond .ne 12, 3) := by decide +kernel
theorem dX8_asked_22 : decode cX8_asked 22 = .ok (.aload_n 0, 1) := by decide +kernel
theorem dX8_asked_23 : decode cX8_asked 23 = .ok (.getfield 82, 3) := by decide +kernel
theorem dX8_asked_26 : decode cX8_asked 26 = .ok (.iload_n 1, 1) := by decide +kernel
theorem dX8_asked_27 : decode cX8_asked 27 = .ok (.iaload, 1) := by decide +kernel
theorem dX8_asked_28 : decode cX8_asked 28 = .ok (.goto 4, 3) := by decide +kernel
theorem dX8_asked_31 : decode cX8_asked 31 = .ok (.iconst (-1), 1) := by decide +kernel
theorem dX8_asked_32 : decode cX8_asked 32 = .ok (.ireturn, 1) := by decide +kernel
set_option maxRecDepth 20000 in
theorem ggX8_answer_X8_isCall : GoodIn wsX8_answer wsX8_isCall := goodIn_r _ [18, 19, 20, 21, 17, 22, 88, 89, 90, 91, 92, 93, 94, 95, 96, 97, 98, 99, 100, 101, 102, 103, 104, 105, 106, 107, 108, 109, 110, 111, 112, 113, 114, 115, 116, 117, 118, 119, 120, 121, 122, 123, 124, 125, 126, 127, 128, 129, 130, 131, 132] (by decide +kernel) (by decide +kernel)
set_option maxRecDepth 20000 in
theorem gX8_answer_X8_isCall : GoodIn wsX8_answer (wsV RX8 253 RX8 yX8_isCall wsX8_isCall) := goodIn_app (goodIn_of _ (by decide +kernel)) ggX8_answer_X8_isCall
set_option maxRecDepth 20000 in
theorem ggX8_answer_X8_now : GoodIn wsX8_answer wsX8_now := goodIn_r _ [26, 27, 28, 29, 30, 17, 31, 32, 33, 34, 35, 36, 37, 38, 39, 40, 88, 89, 90, 91, 92, 93, 94, 95, 96, 97, 98, 99, 100, 101, 102, 103, 104, 105, 106, 107, 108, 109, 110, 111, 112, 113, 114, 115, 116, 117, 118, 119, 120, 121, 122, 123, 124, 125, 126, 127, 128, 129, 130, 131, 132] (by decide +kernel) (by decide +kernel)
set_option maxRecDepth 20000 in
theorem gX8_answer_X8_now : GoodIn wsX8_answer (wsV RX8 205 RX8 yX8_now wsX8_now) := goodIn_app (goodIn_of _ (by decide +kernel)) ggX8_answer_X8_now
set_option maxRecDepth 20000 in
theorem ggX8_answer_X8_askNext : GoodIn wsX8_answer wsX8_askNext := goodIn_r _ [44, 12, 13, 10, 2, 1, 45, 46, 47, 48, 17, 49, 3, 50, 51, 52, 53, 54, 55, 56, 57, 58, 59, 60, 61, 62, 63, 5, 6, 7, 64, 23, 24, 25, 26, 27, 28, 29, 30, 31, 32, 33, 34, 35, 36, 37, 38, 39, 40, 65, 66, 67, 68, 69, 70, 71, 72, 73, 19, 74, 75, 76, 77, 78, 79, 80, 81, 82, 83, 84, 85, 86, 87, 88, 89, 90, 91, 92, 93, 94, 95, 96, 97, 98, 99, 100, 101, 102, 103, 104, 105, 106, 107, 108, 109, 110, 111, 112, 113, 114, 115, 116, 117, 118, 119, 120, 121, 122, 123, 124, 125, 126, 127, 128, 129, 130, 131, 132] (by decide +kernel) (by decide +kernel)
set_option maxRecDepth 20000 in
theorem gX8_answer_X8_askNext : GoodIn wsX8_answer (wsV RX8 249 RX8 yX8_askNext wsX8_askNext) := goodIn_app (goodIn_of _ (by decide +kernel)) ggX8_answer_X8_askNext
theorem dX8_answer_0 : decode cX8_answer 0 = .ok (.aload_n 0, 1) := by decide +kernel
theorem dX8_answer_1 : decode cX8_answer 1 = .ok (.iload_n 1, 1) := by decide +kernel
theorem dX8_answer_2 : decode cX8_answer 2 = .ok (.invokevirtual 253, 3) := by decide +kernel
theorem dX8_answer_5 : decode cX8_answer 5 = .ok (.ifCond .ne 6, 3) := by decide +kernel
theorem dX8_answer_8 : decode cX8_answer 8 = .ok (.bipush (-2), 2) := by decide +kernel
theorem dX8_answer_10 : decode cX8_answer 10 = .ok (.ireturn, 1) := by decide +kernel
theorem dX8_answer_11 : decode cX8_answer 11 = .ok (.aload_n 0, 1) := by decide +kernel
theorem dX8_answer_12 : decode cX8_answer 12 = .ok (.getfield 76, 3) := by decide +kernel
theorem dX8_answer_15 : decode cX8_answer 15 = .ok (.iload_n 1, 1) := by decide +kernel
theorem dX8_answer_16 : decode cX8_answer 16 = .ok (.iaload, 1) := by decide +kernel
theorem dX8_answer_17 : decode cX8_answer 17 = .ok (.ifCond .eq 6, 3) := by decide +kernel
theorem dX8_answer_20 : decode cX8_answer 20 = .ok (.bipush (-4), 2) := by decide +kernel
theorem dX8_answer_22 : decode cX8_answer 22 = .ok (.ireturn, 1) := by decide +kernel
theorem dX8_answer_23 : decode cX8_answer 23 = .ok (.aload_n 0, 1) := by decide +kernel
theorem dX8_answer_24 : decode cX8_answer 24 = .ok (.getfield 82, 3) := by decide +kernel
theorem dX8_answer_27 : decode cX8_answer 27 = .ok (.iload_n 1, 1) := by decide +kernel
theorem dX8_answer_28 : decode cX8_answer 28 = .ok (.iaload, 1) := by decide +kernel
theorem dX8_answer_29 : decode cX8_answer 29 = .ok (.istore_n 3, 1) := by decide +kernel
theorem dX8_answer_30 : decode cX8_answer 30 = .ok (.iload_n 2, 1) := by decide +kernel
theorem dX8_answer_31 : decode cX8_answer 31 = .ok (.ifCond .eq 143, 3) := by decide +kernel
theorem dX8_answer_34 : decode cX8_answer 34 = .ok (.aload_n 0, 1) := by decide +kernel
theorem dX8_answer_35 : decode cX8_answer 35 = .ok (.getfield 76, 3) := by decide +kernel
theorem dX8_answer_38 : decode cX8_answer 38 = .ok (.iload_n 1, 1) := by decide +kernel
theorem dX8_answer_39 : decode cX8_answer 39 = .ok (.iconst 1, 1) := by decide +kernel
theorem dX8_answer_40 : decode cX8_answer 40 = .ok (.iastore, 1) := by decide +kernel
theorem dX8_answer_41 : decode cX8_answer 41 = .ok (.aload_n 0, 1) := by decide +kernel
theorem dX8_answer_42 : decode cX8_answer 42 = .ok (.getfield 85, 3) := by decide +kernel
theorem dX8_answer_45 : decode cX8_answer 45 = .ok (.iload_n 1, 1) := by decide +kernel
theorem dX8_answer_46 : decode cX8_answer 46 = .ok (.iload_n 3, 1) := by decide +kernel
theorem dX8_answer_47 : decode cX8_answer 47 = .ok (.iastore, 1) := by decide +kernel
theorem dX8_answer_48 : decode cX8_answer 48 = .ok (.aload_n 0, 1) := by decide +kernel
theorem dX8_answer_49 : decode cX8_answer 49 = .ok (.getfield 91, 3) := by decide +kernel
theorem dX8_answer_52 : decode cX8_answer 52 = .ok (.iload_n 1, 1) := by decide +kernel
theorem dX8_answer_53 : decode cX8_answer 53 = .ok (.aload_n 0, 1) := by decide +kernel
theorem dX8_answer_54 : decode cX8_answer 54 = .ok (.getfield 43, 3) := by decide +kernel
theorem dX8_answer_57 : decode cX8_answer 57 = .ok (.bipush 10, 2) := by decide +kernel
theorem dX8_answer_59 : decode cX8_answer 59 = .ok (.aload_n 0, 1) := by decide +kernel
theorem dX8_answer_60 : decode cX8_answer 60 = .ok (.getfield 28, 3) := by decide +kernel
theorem dX8_answer_63 : decode cX8_answer 63 = .ok (.iload_n 3, 1) := by decide +kernel
theorem dX8_answer_64 : decode cX8_answer 64 = .ok (.iaload, 1) := by decide +kernel
theorem dX8_answer_65 : decode cX8_answer 65 = .ok (.imul, 1) := by decide +kernel
theorem dX8_answer_66 : decode cX8_answer 66 = .ok (.aload_n 0, 1) := by decide +kernel
theorem dX8_answer_67 : decode cX8_answer 67 = .ok (.getfield 64, 3) := by decide +kernel
theorem dX8_answer_70 : decode cX8_answer 70 = .ok (.iload_n 1, 1) := by decide +kernel
theorem dX8_answer_71 : decode cX8_answer 71 = .ok (.iaload, 1) := by decide +kernel
theorem dX8_answer_72 : decode cX8_answer 72 = .ok (.iadd, 1) := by decide +kernel
theorem dX8_answer_73 : decode cX8_answer 73 = .ok (.iaload, 1) := by decide +kernel
theorem dX8_answer_74 : decode cX8_answer 74 = .ok (.iconst (-1), 1) := by decide +kernel
theorem dX8_answer_75 : decode cX8_answer 75 = .ok (.if_icmp .ne 7, 3) := by decide +kernel
theorem dX8_answer_78 : decode cX8_answer 78 = .ok (.iconst 0, 1) := by decide +kernel
theorem dX8_answer_79 : decode cX8_answer 79 = .ok (.goto 24, 3) := by decide +kernel
theorem dX8_answer_82 : decode cX8_answer 82 = .ok (.aload_n 0, 1) := by decide +kernel
theorem dX8_answer_83 : decode cX8_answer 83 = .ok (.getfield 43, 3) := by decide +kernel
theorem dX8_answer_86 : decode cX8_answer 86 = .ok (.bipush 10, 2) := by decide +kernel
theorem dX8_answer_88 : decode cX8_answer 88 = .ok (.aload_n 0, 1) := by decide +kernel
theorem dX8_answer_89 : decode cX8_answer 89 = .ok (.getfield 28, 3) := by decide +kernel
theorem dX8_answer_92 : decode cX8_answer 92 = .ok (.iload_n 3, 1) := by decide +kernel
theorem dX8_answer_93 : decode cX8_answer 93 = .ok (.iaload, 1) := by decide +kernel
theorem dX8_answer_94 : decode cX8_answer 94 = .ok (.imul, 1) := by decide +kernel
theorem dX8_answer_95 : decode cX8_answer 95 = .ok (.aload_n 0, 1) := by decide +kernel
theorem dX8_answer_96 : decode cX8_answer 96 = .ok (.getfield 64, 3) := by decide +kernel
theorem dX8_answer_99 : decode cX8_answer 99 = .ok (.iload_n 1, 1) := by decide +kernel
theorem dX8_answer_100 : decode cX8_answer 100 = .ok (.iaload, 1) := by decide +kernel
theorem dX8_answer_101 : decode cX8_answer 101 = .ok (.iadd, 1) := by decide +kernel
theorem dX8_answer_102 : decode cX8_answer 102 = .ok (.iaload, 1) := by decide +kernel
theorem dX8_answer_103 : decode cX8_answer 103 = .ok (.iastore, 1) := by decide +kernel
theorem dX8_answer_104 : decode cX8_answer 104 = .ok (.aload_n 0, 1) := by decide +kernel
theorem dX8_answer_105 : decode cX8_answer 105 = .ok (.getfield 88, 3) := by decide +kernel
theorem dX8_answer_108 : decode cX8_answer 108 = .ok (.iload_n 1, 1) := by decide +kernel
theorem dX8_answer_109 : decode cX8_answer 109 = .ok (.aload_n 0, 1) := by decide +kernel
theorem dX8_answer_110 : decode cX8_answer 110 = .ok (.getfield 79, 3) := by decide +kernel
theorem dX8_answer_113 : decode cX8_answer 113 = .ok (.iload_n 1, 1) := by decide +kernel
theorem dX8_answer_114 : decode cX8_answer 114 = .ok (.iaload, 1) := by decide +kernel
theorem dX8_answer_115 : decode cX8_answer 115 = .ok (.aload_n 0, 1) := by decide +kernel
theorem dX8_answer_116 : decode cX8_answer 116 = .ok (.aload_n 0, 1) := by decide +kernel
theorem dX8_answer_117 : decode cX8_answer 117 = .ok (.getfield 58, 3) := by decide +kernel
theorem dX8_answer_120 : decode cX8_answer 120 = .ok (.iload_n 1, 1) := by decide +kernel
theorem dX8_answer_121 : decode cX8_answer 121 = .ok (.iaload, 1) := by decide +kernel
theorem dX8_answer_122 : decode cX8_answer 122 = .ok (.iconst 1, 1) := by decide +kernel
theorem dX8_answer_123 : decode cX8_answer 123 = .ok (.invokevirtual 205, 3) := by decide +kernel
theorem dX8_answer_126 : decode cX8_answer 126 = .ok (.imul, 1) := by decide +kernel
theorem dX8_answer_127 : decode cX8_answer 127 = .ok (.aload_n 0, 1) := by decide +kernel
theorem dX8_answer_128 : decode cX8_answer 128 = .ok (.getfield 91, 3) := by decide +kernel
theorem dX8_answer_131 : decode cX8_answer 131 = .ok (.iload_n 1, 1) := by decide +kernel
theorem dX8_answer_132 : decode cX8_answer 132 = .ok (.iaload, 1) := by decide +kernel
theorem dX8_answer_133 : decode cX8_answer 133 = .ok (.iadd, 1) := by decide +kernel
theorem dX8_answer_134 : decode cX8_answer 134 = .ok (.iastore, 1) := by decide +kernel
theorem dX8_answer_135 : decode cX8_answer 135 = .ok (.aload_n 0, 1) := by decide +kernel
theorem dX8_answer_136 : decode cX8_answer 136 = .ok (.getfield 94, 3) := by decide +kernel
theorem dX8_answer_139 : decode cX8_answer 139 = .ok (.iload_n 1, 1) := by decide +kernel
theorem dX8_answer_140 : decode cX8_answer 140 = .ok (.aload_n 0, 1) := by decide +kernel
theorem dX8_answer_141 : decode cX8_answer 141 = .ok (.getfield 46, 3) := by decide +kernel
theorem dX8_answer_144 : decode cX8_answer 144 = .ok (.sipush 1000, 3) := by decide +kernel
theorem dX8_answer_147 : decode cX8_answer 147 = .ok (.aload_n 0, 1) := by decide +kernel
theorem dX8_answer_148 : decode cX8_answer 148 = .ok (.getfield 61, 3) := by decide +kernel
theorem dX8_answer_151 : decode cX8_answer 151 = .ok (.iload_n 1, 1) := by decide +kernel
theorem dX8_answer_152 : decode cX8_answer 152 = .ok (.iaload, 1) := by decide +kernel
theorem dX8_answer_153 : decode cX8_answer 153 = .ok (.imul, 1) := by decide +kernel
theorem dX8_answer_154 : decode cX8_answer 154 = .ok (.aload_n 0, 1) := by decide +kernel
theorem dX8_answer_155 : decode cX8_answer 155 = .ok (.getfield 58, 3) := by decide +kernel
theorem dX8_answer_158 : decode cX8_answer 158 = .ok (.iload_n 1, 1) := by decide +kernel
theorem dX8_answer_159 : decode cX8_answer 159 = .ok (.iaload, 1) := by decide +kernel
theorem dX8_answer_160 : decode cX8_answer 160 = .ok (.iadd, 1) := by decide +kernel
theorem dX8_answer_161 : decode cX8_answer 161 = .ok (.iaload, 1) := by decide +kernel
theorem dX8_answer_162 : decode cX8_answer 162 = .ok (.iload_n 3, 1) := by decide +kernel
theorem dX8_answer_163 : decode cX8_answer 163 = .ok (.if_icmp .ne 7, 3) := by decide +kernel
theorem dX8_answer_166 : decode cX8_answer 166 = .ok (.iconst 1, 1) := by decide +kernel
theorem dX8_answer_167 : decode cX8_answer 167 = .ok (.goto 4, 3) := by decide +kernel
theorem dX8_answer_170 : decode cX8_answer 170 = .ok (.iconst 0, 1) := by decide +kernel
theorem dX8_answer_171 : decode cX8_answer 171 = .ok (.bastore, 1) := by decide +kernel
theorem dX8_answer_172 : decode cX8_answer 172 = .ok (.iconst (-1), 1) := by decide +kernel
theorem dX8_answer_173 : decode cX8_answer 173 = .ok (.ireturn, 1) := by decide +kernel
theorem dX8_answer_174 : decode cX8_answer 174 = .ok (.aload_n 0, 1) := by decide +kernel
theorem dX8_answer_175 : decode cX8_answer 175 = .ok (.getfield 79, 3) := by decide +kernel
theorem dX8_answer_178 : decode cX8_answer 178 = .ok (.iload_n 1, 1) := by decide +kernel
theorem dX8_answer_179 : decode cX8_answer 179 = .ok (.dup2, 1) := by decide +kernel
theorem dX8_answer_180 : decode cX8_answer 180 = .ok (.iaload, 1) := by decide +kernel
theorem dX8_answer_181 : decode cX8_answer 181 = .ok (.iconst 1, 1) := by decide +kernel
theorem dX8_answer_182 : decode cX8_answer 182 = .ok (.iadd, 1) := by decide +kernel
theorem dX8_answer_183 : decode cX8_answer 183 = .ok (.iastore, 1) := by decide +kernel
theorem dX8_answer_184 : decode cX8_answer 184 = .ok (.aload_n 0, 1) := by decide +kernel
theorem dX8_answer_185 : decode cX8_answer 185 = .ok (.iload_n 1, 1) := by decide +kernel
theorem dX8_answer_186 : decode cX8_answer 186 = .ok (.invokevirtual 249, 3) := by decide +kernel
theorem dX8_answer_189 : decode cX8_answer 189 = .ok (.aload_n 0, 1) := by decide +kernel
theorem dX8_answer_190 : decode cX8_answer 190 = .ok (.getfield 82, 3) := by decide +kernel
theorem dX8_answer_193 : decode cX8_answer 193 = .ok (.iload_n 1, 1) := by decide +kernel
theorem dX8_answer_194 : decode cX8_answer 194 = .ok (.iaload, 1) := by decide +kernel
theorem dX8_answer_195 : decode cX8_answer 195 = .ok (.ireturn, 1) := by decide +kernel
set_option maxRecDepth 20000 in
theorem ggX8_told_X8_isCall : GoodIn wsX8_told wsX8_isCall := goodIn_r _ [11, 12, 13, 14, 10, 15, 34, 35, 36, 37, 38, 39, 40, 41, 42, 43, 44, 45, 46, 47, 48, 49, 50, 51, 52, 53, 54, 55, 56, 57, 58, 59, 60, 61, 62, 63, 64, 65, 66, 67, 68, 69, 70, 71, 72, 73, 74, 75, 76, 77, 78] (by decide +kernel) (by decide +kernel)
set_option maxRecDepth 20000 in
theorem gX8_told_X8_isCall : GoodIn wsX8_told (wsV RX8 253 RX8 yX8_isCall wsX8_isCall) := goodIn_app (goodIn_of _ (by decide +kernel)) ggX8_told_X8_isCall
set_option maxRecDepth 20000 in
theorem ggX8_told_X8_now : GoodIn wsX8_told wsX8_now := goodIn_r _ [19, 20, 21, 22, 23, 10, 24, 25, 26, 27, 28, 29, 30, 31, 32, 33, 34, 35, 36, 37, 38, 39, 40, 41, 42, 43, 44, 45, 46, 47, 48, 49, 50, 51, 52, 53, 54, 55, 56, 57, 58, 59, 60, 61, 62, 63, 64, 65, 66, 67, 68, 69, 70, 71, 72, 73, 74, 75, 76, 77, 78] (by decide +kernel) (by decide +kernel)
set_option maxRecDepth 20000 in
theorem gX8_told_X8_now : GoodIn wsX8_told (wsV RX8 205 RX8 yX8_now wsX8_now) := goodIn_app (goodIn_of _ (by decide +kernel)) ggX8_told_X8_now
theorem dX8_told_0 : decode cX8_told 0 = .ok (.aload_n 0, 1) := by decide +kernel
theorem dX8_told_1 : decode cX8_told 1 = .ok (.iload_n 1, 1) := by decide +kernel
theorem dX8_told_2 : decode cX8_told 2 = .ok (.invokevirtual 253, 3) := by decide +kernel
theorem dX8_told_5 : decode cX8_told 5 = .ok (.ifCond .ne 6, 3) := by decide +kernel
theorem dX8_told_8 : decode cX8_told 8 = .ok (.bipush (-9), 2) := by decide +kernel
theorem dX8_told_10 : decode cX8_told 10 = .ok (.ireturn, 1) := by decide +kernel
theorem dX8_told_11 : decode cX8_told 11 = .ok (.aload_n 0, 1) := by decide +kernel
theorem dX8_told_12 : decode cX8_told 12 = .ok (.getfield 76, 3) := by decide +kernel
theorem dX8_told_15 : decode cX8_told 15 = .ok (.iload_n 1, 1) := by decide +kernel
theorem dX8_told_16 : decode cX8_told 16 = .ok (.iaload, 1) := by decide +kernel
theorem dX8_told_17 : decode cX8_told 17 = .ok (.iconst 1, 1) := by decide +kernel
theorem dX8_told_18 : decode cX8_told 18 = .ok (.if_icmp .ne 7, 3) := by decide +kernel
theorem dX8_told_21 : decode cX8_told 21 = .ok (.iconst 1, 1) := by decide +kernel
theorem dX8_told_22 : decode cX8_told 22 = .ok (.goto 4, 3) := by decide +kernel
theorem dX8_told_25 : decode cX8_told 25 = .ok (.iconst 0, 1) := by decide +kernel
theorem dX8_told_26 : decode cX8_told 26 = .ok (.istore_n 3, 1) := by decide +kernel
theorem dX8_told_27 : decode cX8_told 27 = .ok (.iload_n 2, 1) := by decide +kernel
theorem dX8_told_28 : decode cX8_told 28 = .ok (.tableswitch 133 0 5 #[40, 47, 54, 61, 76, 110], 40) := by decide +kernel
theorem dX8_told_68 : decode cX8_told 68 = .ok (.aload_n 0, 1) := by decide +kernel
theorem dX8_told_69 : decode cX8_told 69 = .ok (.getfield 76, 3) := by decide +kernel
theorem dX8_told_72 : decode cX8_told 72 = .ok (.iload_n 1, 1) := by decide +kernel
theorem dX8_told_73 : decode cX8_told 73 = .ok (.iaload, 1) := by decide +kernel
theorem dX8_told_74 : decode cX8_told 74 = .ok (.ireturn, 1) := by decide +kernel
theorem dX8_told_75 : decode cX8_told 75 = .ok (.aload_n 0, 1) := by decide +kernel
theorem dX8_told_76 : decode cX8_told 76 = .ok (.getfield 79, 3) := by decide +kernel
theorem dX8_told_79 : decode cX8_told 79 = .ok (.iload_n 1, 1) := by decide +kernel
theorem dX8_told_80 : decode cX8_told 80 = .ok (.iaload, 1) := by decide +kernel
theorem dX8_told_81 : decode cX8_told 81 = .ok (.ireturn, 1) := by decide +kernel
theorem dX8_told_82 : decode cX8_told 82 = .ok (.aload_n 0, 1) := by decide +kernel
theorem dX8_told_83 : decode cX8_told 83 = .ok (.getfield 85, 3) := by decide +kernel
theorem dX8_told_86 : decode cX8_told 86 = .ok (.iload_n 1, 1) := by decide +kernel
theorem dX8_told_87 : decode cX8_told 87 = .ok (.iaload, 1) := by decide +kernel
theorem dX8_told_88 : decode cX8_told 88 = .ok (.ireturn, 1) := by decide +kernel
theorem dX8_told_89 : decode cX8_told 89 = .ok (.iload_n 3, 1) := by decide +kernel
theorem dX8_told_90 : decode cX8_told 90 = .ok (.ifCond .eq 12, 3) := by decide +kernel
theorem dX8_told_93 : decode cX8_told 93 = .ok (.aload_n 0, 1) := by decide +kernel
theorem dX8_told_94 : decode cX8_told 94 = .ok (.getfield 88, 3) := by decide +kernel
theorem dX8_told_97 : decode cX8_told 97 = .ok (.iload_n 1, 1) := by decide +kernel
theorem dX8_told_98 : decode cX8_told 98 = .ok (.iaload, 1) := by decide +kernel
theorem dX8_told_99 : decode cX8_told 99 = .ok (.goto 4, 3) := by decide +kernel
theorem dX8_told_102 : decode cX8_told 102 = .ok (.iconst (-1), 1) := by decide +kernel
theorem dX8_told_103 : decode cX8_told 103 = .ok (.ireturn, 1) := by decide +kernel
theorem dX8_told_104 : decode cX8_told 104 = .ok (.iload_n 3, 1) := by decide +kernel
theorem dX8_told_105 : decode cX8_told 105 = .ok (.ifCond .ne 7, 3) := by decide +kernel
theorem dX8_told_108 : decode cX8_told 108 = .ok (.iconst (-1), 1) := by decide +kernel
theorem dX8_told_109 : decode cX8_told 109 = .ok (.goto 28, 3) := by decide +kernel
theorem dX8_told_112 : decode cX8_told 112 = .ok (.aload_n 0, 1) := by decide +kernel
theorem dX8_told_113 : decode cX8_told 113 = .ok (.getfield 88, 3) := by decide +kernel
theorem dX8_told_116 : decode cX8_told 116 = .ok (.iload_n 1, 1) := by decide +kernel
theorem dX8_told_117 : decode cX8_told 117 = .ok (.iaload, 1) := by decide +kernel
theorem dX8_told_118 : decode cX8_told 118 = .ok (.aload_n 0, 1) := by decide +kernel
theorem dX8_told_119 : decode cX8_told 119 = .ok (.aload_n 0, 1) := by decide +kernel
theorem dX8_told_120 : decode cX8_told 120 = .ok (.getfield 58, 3) := by decide +kernel
theorem dX8_told_123 : decode cX8_told 123 = .ok (.iload_n 1, 1) := by decide +kernel
theorem dX8_told_124 : decode cX8_told 124 = .ok (.iaload, 1) := by decide +kernel
theorem dX8_told_125 : decode cX8_told 125 = .ok (.iconst 0, 1) := by decide +kernel
theorem dX8_told_126 : decode cX8_told 126 = .ok (.invokevirtual 205, 3) := by decide +kernel
theorem dX8_told_129 : decode cX8_told 129 = .ok (.if_icmp .le 7, 3) := by decide +kernel
theorem dX8_told_132 : decode cX8_told 132 = .ok (.iconst 1, 1) := by decide +kernel
theorem dX8_told_133 : decode cX8_told 133 = .ok (.goto 4, 3) := by decide +kernel
theorem dX8_told_136 : decode cX8_told 136 = .ok (.iconst 0, 1) := by decide +kernel
theorem dX8_told_137 : decode cX8_told 137 = .ok (.ireturn, 1) := by decide +kernel
theorem dX8_told_138 : decode cX8_told 138 = .ok (.iload_n 3, 1) := by decide +kernel
theorem dX8_told_139 : decode cX8_told 139 = .ok (.ifCond .ne 7, 3) := by decide +kernel
theorem dX8_told_142 : decode cX8_told 142 = .ok (.iconst (-1), 1) := by decide +kernel
theorem dX8_told_143 : decode cX8_told 143 = .ok (.goto 17, 3) := by decide +kernel
theorem dX8_told_146 : decode cX8_told 146 = .ok (.aload_n 0, 1) := by decide +kernel
theorem dX8_told_147 : decode cX8_told 147 = .ok (.getfield 94, 3) := by decide +kernel
theorem dX8_told_150 : decode cX8_told 150 = .ok (.iload_n 1, 1) := by decide +kernel
theorem dX8_told_151 : decode cX8_told 151 = .ok (.baload, 1) := by decide +kernel
theorem dX8_told_152 : decode cX8_told 152 = .ok (.ifCond .eq 7, 3) := by decide +kernel
theorem dX8_told_155 : decode cX8_told 155 = .ok (.iconst 1, 1) := by decide +kernel
theorem dX8_told_156 : decode cX8_told 156 = .ok (.goto 4, 3) := by decide +kernel
theorem dX8_told_159 : decode cX8_told 159 = .ok (.iconst 0, 1) := by decide +kernel
theorem dX8_told_160 : decode cX8_told 160 = .ok (.ireturn, 1) := by decide +kernel
theorem dX8_told_161 : decode cX8_told 161 = .ok (.bipush (-9), 2) := by decide +kernel
theorem dX8_told_163 : decode cX8_told 163 = .ok (.ireturn, 1) := by decide +kernel
set_option maxRecDepth 20000 in
theorem ggX8_barred_X8_isCall : GoodIn wsX8_barred wsX8_isCall := goodIn_r _ [5, 6, 7, 8, 4, 9, 60, 61, 62, 63, 64, 65, 66, 67, 68, 69, 70, 71, 72, 73, 74, 75, 76, 77, 78, 79, 80, 81, 82, 83, 84, 85, 86, 87, 88, 89, 90, 91, 92, 93, 94, 95, 96, 97, 98, 99, 100, 101, 102, 103, 104] (by decide +kernel) (by decide +kernel)
set_option maxRecDepth 20000 in
theorem gX8_barred_X8_isCall : GoodIn wsX8_barred (wsV RX8 253 RX8 yX8_isCall wsX8_isCall) := goodIn_app (goodIn_of _ (by decide +kernel)) ggX8_barred_X8_isCall
set_option maxRecDepth 20000 in
theorem ggX8_barred_X8_isLawyer : GoodIn wsX8_barred wsX8_isLawyer := goodIn_r _ [13, 14, 7, 8, 4, 9, 60, 61, 62, 63, 64, 65, 66, 67, 68, 69, 70, 71, 72, 73, 74, 75, 76, 77, 78, 79, 80, 81, 82, 83, 84, 85, 86, 87, 88, 89, 90, 91, 92, 93, 94, 95, 96, 97, 98, 99, 100, 101, 102, 103, 104] (by decide +kernel) (by decide +kernel)
set_option maxRecDepth 20000 in
theorem gX8_barred_X8_isLawyer : GoodIn wsX8_barred (wsV RX8 192 RX8 yX8_isLawyer wsX8_isLawyer) := goodIn_app (goodIn_of _ (by decide +kernel)) ggX8_barred_X8_isLawyer
set_option maxRecDepth 20000 in
theorem ggX8_barred_X8_barsOf : GoodIn wsX8_barred wsX8_barsOf := goodIn_r _ [18, 19, 20, 21, 22, 23, 24, 25, 26, 27, 28, 29, 30, 31, 32, 4, 33, 34, 35, 36, 37, 38, 39, 40, 41, 42, 43, 44, 45, 46, 47, 48, 49, 50, 51, 52, 53, 54, 55, 56, 57, 6, 58, 59, 60, 61, 62, 63, 64, 65, 66, 67, 68, 69, 70, 71, 72, 73, 74, 75, 76, 77, 78, 79, 80, 81, 82, 83, 84, 85, 86, 87, 88, 89, 90, 91, 92, 93, 94, 95, 96, 97, 98, 99, 100, 101, 102, 103, 104] (by decide +kernel) (by decide +kernel)
set_option maxRecDepth 20000 in
theorem gX8_barred_X8_barsOf : GoodIn wsX8_barred (wsV RX8 237 RX8 yX8_barsOf wsX8_barsOf) := goodIn_app (goodIn_of _ (by decide +kernel)) ggX8_barred_X8_barsOf
theorem dX8_barred_0 : decode cX8_barred 0 = .ok (.aload_n 0, 1) := by decide +kernel
theorem dX8_barred_1 : decode cX8_barred 1 = .ok (.iload_n 1, 1) := by decide +kernel
theorem dX8_barred_2 : decode cX8_barred 2 = .ok (.invokevirtual 253, 3) := by decide +kernel
theorem dX8_barred_5 : decode cX8_barred 5 = .ok (.ifCond .eq 20, 3) := by decide +kernel
theorem dX8_barred_8 : decode cX8_barred 8 = .ok (.aload_n 0, 1) := by decide +kernel
theorem dX8_barred_9 : decode cX8_barred 9 = .ok (.iload_n 2, 1) := by decide +kernel
theorem dX8_barred_10 : decode cX8_barred 10 = .ok (.invokevirtual 192, 3) := by decide +kernel
theorem dX8_barred_13 : decode cX8_barred 13 = .ok (.ifCond .eq 12, 3) := by decide +kernel
theorem dX8_barred_16 : decode cX8_barred 16 = .ok (.aload_n 0, 1) := by decide +kernel
theorem dX8_barred_17 : decode cX8_barred 17 = .ok (.iload_n 1, 1) := by decide +kernel
theorem dX8_barred_18 : decode cX8_barred 18 = .ok (.iload_n 2, 1) := by decide +kernel
theorem dX8_barred_19 : decode cX8_barred 19 = .ok (.invokevirtual 237, 3) := by decide +kernel
theorem dX8_barred_22 : decode cX8_barred 22 = .ok (.goto 5, 3) := by decide +kernel
theorem dX8_barred_25 : decode cX8_barred 25 = .ok (.bipush (-2), 2) := by decide +kernel
theorem dX8_barred_27 : decode cX8_barred 27 = .ok (.ireturn, 1) := by decide +kernel
set_option maxRecDepth 20000 in
theorem ggX8_lineOf_X8_forceOf : GoodIn wsX8_lineOf wsX8_forceOf := goodIn_r _ [9, 10, 22, 23, 24, 25, 26, 27, 28, 29, 30, 31, 32, 33, 34, 35, 36, 37, 38, 39, 40, 41, 42, 43, 44, 45, 46, 47, 48, 49, 50, 51, 52, 53, 54, 55, 56, 57, 58, 59, 60, 61, 62, 63, 64, 65, 66] (by decide +kernel) (by decide +kernel)
set_option maxRecDepth 20000 in
theorem gX8_lineOf_X8_forceOf : GoodIn wsX8_lineOf (wsV RX8 183 RX8 yX8_forceOf wsX8_forceOf) := goodIn_app (goodIn_of _ (by decide +kernel)) ggX8_lineOf_X8_forceOf
set_option maxRecDepth 20000 in
theorem ggX8_lineOf_X8_ruleOf : GoodIn wsX8_lineOf wsX8_ruleOf := goodIn_r _ [14, 15, 16, 17, 8, 18, 22, 23, 24, 25, 26, 27, 28, 29, 30, 31, 32, 33, 34, 35, 36, 37, 38, 39, 40, 41, 42, 43, 44, 45, 46, 47, 48, 49, 50, 51, 52, 53, 54, 55, 56, 57, 58, 59, 60, 61, 62, 63, 64, 65, 66] (by decide +kernel) (by decide +kernel)
set_option maxRecDepth 20000 in
theorem gX8_lineOf_X8_ruleOf : GoodIn wsX8_lineOf (wsV RX8 186 RX8 yX8_ruleOf wsX8_ruleOf) := goodIn_app (goodIn_of _ (by decide +kernel)) ggX8_lineOf_X8_ruleOf
set_option maxRecDepth 20000 in
theorem ggX8_lineOf_X8_lineOf : GoodIn wsX8_lineOf wsX8_lineOf := goodIn_r _ [0, 1, 2, 3, 4, 5, 6, 7, 8, 9, 10, 11, 12, 13, 14, 15, 16, 17, 18, 19, 20, 21, 22, 23, 24, 25, 26, 27, 28, 29, 30, 31, 32, 33, 34, 35, 36, 37, 38, 39, 40, 41, 42, 43, 44, 45, 46, 47, 48, 49, 50, 51, 52, 53, 54, 55, 56, 57, 58, 59, 60, 61, 62, 63, 64, 65, 66] (by decide +kernel) (by decide +kernel)
set_option maxRecDepth 20000 in
theorem gX8_lineOf_X8_lineOf : GoodIn wsX8_lineOf (wsV RX8 256 RX8 yX8_lineOf wsX8_lineOf) := goodIn_app (goodIn_of _ (by decide +kernel)) ggX8_lineOf_X8_lineOf
theorem dX8_lineOf_0 : decode cX8_lineOf 0 = .ok (.aload_n 0, 1) := by decide +kernel
theorem dX8_lineOf_1 : decode cX8_lineOf 1 = .ok (.aload_n 0, 1) := by decide +kernel
theorem dX8_lineOf_2 : decode cX8_lineOf 2 = .ok (.getfield 58, 3) := by decide +kernel
theorem dX8_lineOf_5 : decode cX8_lineOf 5 = .ok (.iload_n 1, 1) := by decide +kernel
theorem dX8_lineOf_6 : decode cX8_lineOf 6 = .ok (.iaload, 1) := by decide +kernel
theorem dX8_lineOf_7 : decode cX8_lineOf 7 = .ok (.iload_n 2, 1) := by decide +kernel
theorem dX8_lineOf_8 : decode cX8_lineOf 8 = .ok (.invokevirtual 183, 3) := by decide +kernel
theorem dX8_lineOf_11 : decode cX8_lineOf 11 = .ok (.istore 4, 2) := by decide +kernel
theorem dX8_lineOf_13 : decode cX8_lineOf 13 = .ok (.iload_n 3, 1) := by decide +kernel
theorem dX8_lineOf_14 : decode cX8_lineOf 14 = .ok (.tableswitch 107 0 3 #[30, 51, 59, 77], 30) := by decide +kernel
theorem dX8_lineOf_44 : decode cX8_lineOf 44 = .ok (.aload_n 0, 1) := by decide +kernel
theorem dX8_lineOf_45 : decode cX8_lineOf 45 = .ok (.getfield 94, 3) := by decide +kernel
theorem dX8_lineOf_48 : decode cX8_lineOf 48 = .ok (.iload_n 1, 1) := by decide +kernel
theorem dX8_lineOf_49 : decode cX8_lineOf 49 = .ok (.baload, 1) := by decide +kernel
theorem dX8_lineOf_50 : decode cX8_lineOf 50 = .ok (.ifCond .eq 13, 3) := by decide +kernel
theorem dX8_lineOf_53 : decode cX8_lineOf 53 = .ok (.aload_n 0, 1) := by decide +kernel
theorem dX8_lineOf_54 : decode cX8_lineOf 54 = .ok (.iload 4, 2) := by decide +kernel
theorem dX8_lineOf_56 : decode cX8_lineOf 56 = .ok (.iconst 4, 1) := by decide +kernel
theorem dX8_lineOf_57 : decode cX8_lineOf 57 = .ok (.invokevirtual 186, 3) := by decide +kernel
theorem dX8_lineOf_60 : decode cX8_lineOf 60 = .ok (.goto 4, 3) := by decide +kernel
theorem dX8_lineOf_63 : decode cX8_lineOf 63 = .ok (.iconst 0, 1) := by decide +kernel
theorem dX8_lineOf_64 : decode cX8_lineOf 64 = .ok (.ireturn, 1) := by decide +kernel
theorem dX8_lineOf_65 : decode cX8_lineOf 65 = .ok (.aload_n 0, 1) := by decide +kernel
theorem dX8_lineOf_66 : decode cX8_lineOf 66 = .ok (.iload 4, 2) := by decide +kernel
theorem dX8_lineOf_68 : decode cX8_lineOf 68 = .ok (.iconst 5, 1) := by decide +kernel
theorem dX8_lineOf_69 : decode cX8_lineOf 69 = .ok (.invokevirtual 186, 3) := by decide +kernel
theorem dX8_lineOf_72 : decode cX8_lineOf 72 = .ok (.ireturn, 1) := by decide +kernel
theorem dX8_lineOf_73 : decode cX8_lineOf 73 = .ok (.aload_n 0, 1) := by decide +kernel
theorem dX8_lineOf_74 : decode cX8_lineOf 74 = .ok (.iload 4, 2) := by decide +kernel
theorem dX8_lineOf_76 : decode cX8_lineOf 76 = .ok (.bipush 6, 2) := by decide +kernel
theorem dX8_lineOf_78 : decode cX8_lineOf 78 = .ok (.invokevirtual 186, 3) := by decide +kernel
theorem dX8_lineOf_81 : decode cX8_lineOf 81 = .ok (.iconst 2, 1) := by decide +kernel
theorem dX8_lineOf_82 : decode cX8_lineOf 82 = .ok (.imul, 1) := by decide +kernel
theorem dX8_lineOf_83 : decode cX8_lineOf 83 = .ok (.aload_n 0, 1) := by decide +kernel
theorem dX8_lineOf_84 : decode cX8_lineOf 84 = .ok (.getfield 91, 3) := by decide +kernel
theorem dX8_lineOf_87 : decode cX8_lineOf 87 = .ok (.iload_n 1, 1) := by decide +kernel
theorem dX8_lineOf_88 : decode cX8_lineOf 88 = .ok (.iaload, 1) := by decide +kernel
theorem dX8_lineOf_89 : decode cX8_lineOf 89 = .ok (.imul, 1) := by decide +kernel
theorem dX8_lineOf_90 : decode cX8_lineOf 90 = .ok (.ireturn, 1) := by decide +kernel
theorem dX8_lineOf_91 : decode cX8_lineOf 91 = .ok (.aload_n 0, 1) := by decide +kernel
theorem dX8_lineOf_92 : decode cX8_lineOf 92 = .ok (.getfield 88, 3) := by decide +kernel
theorem dX8_lineOf_95 : decode cX8_lineOf 95 = .ok (.iload_n 1, 1) := by decide +kernel
theorem dX8_lineOf_96 : decode cX8_lineOf 96 = .ok (.iaload, 1) := by decide +kernel
theorem dX8_lineOf_97 : decode cX8_lineOf 97 = .ok (.aload_n 0, 1) := by decide +kernel
theorem dX8_lineOf_98 : decode cX8_lineOf 98 = .ok (.iload 4, 2) := by decide +kernel
theorem dX8_lineOf_100 : decode cX8_lineOf 100 = .ok (.iconst 0, 1) := by decide +kernel
theorem dX8_lineOf_101 : decode cX8_lineOf 101 = .ok (.invokevirtual 186, 3) := by decide +kernel
theorem dX8_lineOf_104 : decode cX8_lineOf 104 = .ok (.if_icmp .le 15, 3) := by decide +kernel
theorem dX8_lineOf_107 : decode cX8_lineOf 107 = .ok (.aload_n 0, 1) := by decide +kernel
theorem dX8_lineOf_108 : decode cX8_lineOf 108 = .ok (.iload 4, 2) := by decide +kernel
theorem dX8_lineOf_110 : decode cX8_lineOf 110 = .ok (.bipush 7, 2) := by decide +kernel
theorem dX8_lineOf_112 : decode cX8_lineOf 112 = .ok (.invokevirtual 186, 3) := by decide +kernel
theorem dX8_lineOf_115 : decode cX8_lineOf 115 = .ok (.ineg, 1) := by decide +kernel
theorem dX8_lineOf_116 : decode cX8_lineOf 116 = .ok (.goto 4, 3) := by decide +kernel
theorem dX8_lineOf_119 : decode cX8_lineOf 119 = .ok (.iconst 0, 1) := by decide +kernel
theorem dX8_lineOf_120 : decode cX8_lineOf 120 = .ok (.ireturn, 1) := by decide +kernel
theorem dX8_lineOf_121 : decode cX8_lineOf 121 = .ok (.aload_n 0, 1) := by decide +kernel
theorem dX8_lineOf_122 : decode cX8_lineOf 122 = .ok (.iload_n 1, 1) := by decide +kernel
theorem dX8_lineOf_123 : decode cX8_lineOf 123 = .ok (.iload_n 2, 1) := by decide +kernel
theorem dX8_lineOf_124 : decode cX8_lineOf 124 = .ok (.iconst 0, 1) := by decide +kernel
theorem dX8_lineOf_125 : decode cX8_lineOf 125 = .ok (.invokevirtual 256, 3) := by decide +kernel
theorem dX8_lineOf_128 : decode cX8_lineOf 128 = .ok (.aload_n 0, 1) := by decide +kernel
theorem dX8_lineOf_129 : decode cX8_lineOf 129 = .ok (.iload_n 1, 1) := by decide +kernel
theorem dX8_lineOf_130 : decode cX8_lineOf 130 = .ok (.iload_n 2, 1) := by decide +kernel
theorem dX8_lineOf_131 : decode cX8_lineOf 131 = .ok (.iconst 1, 1) := by decide +kernel
theorem dX8_lineOf_132 : decode cX8_lineOf 132 = .ok (.invokevirtual 256, 3) := by decide +kernel
theorem dX8_lineOf_135 : decode cX8_lineOf 135 = .ok (.iadd, 1) := by decide +kernel
theorem dX8_lineOf_136 : decode cX8_lineOf 136 = .ok (.aload_n 0, 1) := by decide +kernel
theorem dX8_lineOf_137 : decode cX8_lineOf 137 = .ok (.iload_n 1, 1) := by decide +kernel
theorem dX8_lineOf_138 : decode cX8_lineOf 138 = .ok (.iload_n 2, 1) := by decide +kernel
theorem dX8_lineOf_139 : decode cX8_lineOf 139 = .ok (.iconst 2, 1) := by decide +kernel
theorem dX8_lineOf_140 : decode cX8_lineOf 140 = .ok (.invokevirtual 256, 3) := by decide +kernel
theorem dX8_lineOf_143 : decode cX8_lineOf 143 = .ok (.iadd, 1) := by decide +kernel
theorem dX8_lineOf_144 : decode cX8_lineOf 144 = .ok (.aload_n 0, 1) := by decide +kernel
theorem dX8_lineOf_145 : decode cX8_lineOf 145 = .ok (.iload_n 1, 1) := by decide +kernel
theorem dX8_lineOf_146 : decode cX8_lineOf 146 = .ok (.iload_n 2, 1) := by decide +kernel
theorem dX8_lineOf_147 : decode cX8_lineOf 147 = .ok (.iconst 3, 1) := by decide +kernel
theorem dX8_lineOf_148 : decode cX8_lineOf 148 = .ok (.invokevirtual 256, 3) := by decide +kernel
theorem dX8_lineOf_151 : decode cX8_lineOf 151 = .ok (.iadd, 1) := by decide +kernel
theorem dX8_lineOf_152 : decode cX8_lineOf 152 = .ok (.istore 5, 2) := by decide +kernel
theorem dX8_lineOf_154 : decode cX8_lineOf 154 = .ok (.iload 5, 2) := by decide +kernel
theorem dX8_lineOf_156 : decode cX8_lineOf 156 = .ok (.aload_n 0, 1) := by decide +kernel
theorem dX8_lineOf_157 : decode cX8_lineOf 157 = .ok (.iload 4, 2) := by decide +kernel
theorem dX8_lineOf_159 : decode cX8_lineOf 159 = .ok (.bipush 8, 2) := by decide +kernel
theorem dX8_lineOf_161 : decode cX8_lineOf 161 = .ok (.invokevirtual 186, 3) := by decide +kernel
theorem dX8_lineOf_164 : decode cX8_lineOf 164 = .ok (.if_icmp .le 17, 3) := by decide +kernel
theorem dX8_lineOf_167 : decode cX8_lineOf 167 = .ok (.aload_n 0, 1) := by decide +kernel
theorem dX8_lineOf_168 : decode cX8_lineOf 168 = .ok (.iload 4, 2) := by decide +kernel
theorem dX8_lineOf_170 : decode cX8_lineOf 170 = .ok (.bipush 8, 2) := by decide +kernel
theorem dX8_lineOf_172 : decode cX8_lineOf 172 = .ok (.invokevirtual 186, 3) := by decide +kernel
theorem dX8_lineOf_175 : decode cX8_lineOf 175 = .ok (.iload 5, 2) := by decide +kernel
theorem dX8_lineOf_177 : decode cX8_lineOf 177 = .ok (.isub, 1) := by decide +kernel
theorem dX8_lineOf_178 : decode cX8_lineOf 178 = .ok (.goto 4, 3) := by decide +kernel
theorem dX8_lineOf_181 : decode cX8_lineOf 181 = .ok (.iconst 0, 1) := by decide +kernel
theorem dX8_lineOf_182 : decode cX8_lineOf 182 = .ok (.ireturn, 1) := by decide +kernel
set_option maxRecDepth 20000 in
theorem ggX8_claimOf_X8_lineOf : GoodIn wsX8_claimOf wsX8_lineOf := goodIn_r _ [5, 6, 7, 8, 9, 10, 11, 12, 4, 13, 14, 15, 16, 17, 18, 19, 20, 21, 22, 1, 2, 3, 23, 24, 25, 26, 27, 28, 29, 30, 31, 32, 33, 34, 35, 36, 37, 38, 39, 40, 41, 42, 43, 44, 45, 46, 47, 48, 49, 50, 51, 52, 53, 54, 55, 56, 57, 58, 59, 60, 61, 62, 63, 64, 65, 66, 67] (by decide +kernel) (by decide +kernel)
set_option maxRecDepth 20000 in
theorem gX8_claimOf_X8_lineOf : GoodIn wsX8_claimOf (wsV RX8 256 RX8 yX8_lineOf wsX8_lineOf) := goodIn_app (goodIn_of _ (by decide +kernel)) ggX8_claimOf_X8_lineOf
theorem dX8_claimOf_0 : decode cX8_claimOf 0 = .ok (.iconst 0, 1) := by decide +kernel
theorem dX8_claimOf_1 : decode cX8_claimOf 1 = .ok (.istore_n 3, 1) := by decide +kernel
theorem dX8_claimOf_2 : decode cX8_claimOf 2 = .ok (.iconst 0, 1) := by decide +kernel
theorem dX8_claimOf_3 : decode cX8_claimOf 3 = .ok (.istore 4, 2) := by decide +kernel
theorem dX8_claimOf_5 : decode cX8_claimOf 5 = .ok (.iload 4, 2) := by decide +kernel
theorem dX8_claimOf_7 : decode cX8_claimOf 7 = .ok (.iconst 5, 1) := by decide +kernel
theorem dX8_claimOf_8 : decode cX8_claimOf 8 = .ok (.if_icmp .ge 20, 3) := by decide +kernel
theorem dX8_claimOf_11 : decode cX8_claimOf 11 = .ok (.iload_n 3, 1) := by decide +kernel
theorem dX8_claimOf_12 : decode cX8_claimOf 12 = .ok (.aload_n 0, 1) := by decide +kernel
theorem dX8_claimOf_13 : decode cX8_claimOf 13 = .ok (.iload_n 1, 1) := by decide +kernel
theorem dX8_claimOf_14 : decode cX8_claimOf 14 = .ok (.iload_n 2, 1) := by decide +kernel
theorem dX8_claimOf_15 : decode cX8_claimOf 15 = .ok (.iload 4, 2) := by decide +kernel
theorem dX8_claimOf_17 : decode cX8_claimOf 17 = .ok (.invokevirtual 256, 3) := by decide +kernel
theorem dX8_claimOf_20 : decode cX8_claimOf 20 = .ok (.iadd, 1) := by decide +kernel
theorem dX8_claimOf_21 : decode cX8_claimOf 21 = .ok (.istore_n 3, 1) := by decide +kernel
theorem dX8_claimOf_22 : decode cX8_claimOf 22 = .ok (.iinc 4 1, 3) := by decide +kernel
theorem dX8_claimOf_25 : decode cX8_claimOf 25 = .ok (.goto (-20), 3) := by decide +kernel
theorem dX8_claimOf_28 : decode cX8_claimOf 28 = .ok (.iload_n 3, 1) := by decide +kernel
theorem dX8_claimOf_29 : decode cX8_claimOf 29 = .ok (.ifCond .ge 7, 3) := by decide +kernel
theorem dX8_claimOf_32 : decode cX8_claimOf 32 = .ok (.iconst 0, 1) := by decide +kernel
theorem dX8_claimOf_33 : decode cX8_claimOf 33 = .ok (.goto 4, 3) := by decide +kernel
theorem dX8_claimOf_36 : decode cX8_claimOf 36 = .ok (.iload_n 3, 1) := by decide +kernel
theorem dX8_claimOf_37 : decode cX8_claimOf 37 = .ok (.ireturn, 1) := by decide +kernel
set_option maxRecDepth 20000 in
theorem ggX8_claim_X8_isCall : GoodIn wsX8_claim wsX8_isCall := goodIn_r _ [7, 8, 9, 10, 6, 11, 37, 38, 39, 40, 41, 42, 43, 44, 45, 46, 47, 48, 49, 50, 51, 52, 53, 54, 55, 56, 57, 58, 59, 60, 61, 62, 63, 64, 65, 66, 67, 68, 69, 70, 71, 72, 73, 74, 75, 76, 77, 78, 79, 80, 81] (by decide +kernel) (by decide +kernel)
set_option maxRecDepth 20000 in
theorem gX8_claim_X8_isCall : GoodIn wsX8_claim (wsV RX8 253 RX8 yX8_isCall wsX8_isCall) := goodIn_app (goodIn_of _ (by decide +kernel)) ggX8_claim_X8_isCall
set_option maxRecDepth 20000 in
theorem ggX8_claim_X8_in : GoodIn wsX8_claim wsX8_in := goodIn_r _ [11] (by decide +kernel) (by decide +kernel)
set_option maxRecDepth 20000 in
theorem gX8_claim_X8_in : GoodIn wsX8_claim (va_wsS RX8 166 yX8_in wsX8_in) := goodIn_app (goodIn_of _ (by decide +kernel)) ggX8_claim_X8_in
set_option maxRecDepth 20000 in
theorem ggX8_claim_X8_claimOf : GoodIn wsX8_claim wsX8_claimOf := goodIn_r _ [15, 16, 17, 18, 6, 19, 20, 21, 22, 23, 24, 25, 26, 27, 28, 29, 30, 31, 32, 33, 34, 35, 36, 37, 38, 39, 40, 41, 42, 43, 44, 45, 46, 47, 48, 49, 50, 51, 52, 53, 54, 55, 56, 57, 58, 59, 60, 61, 62, 63, 64, 65, 66, 67, 68, 69, 70, 71, 72, 73, 74, 75, 76, 77, 78, 79, 80, 81] (by decide +kernel) (by decide +kernel)
set_option maxRecDepth 20000 in
theorem gX8_claim_X8_claimOf : GoodIn wsX8_claim (wsV RX8 260 RX8 yX8_claimOf wsX8_claimOf) := goodIn_app (goodIn_of _ (by decide +kernel)) ggX8_claim_X8_claimOf
theorem dX8_claim_0 : decode cX8_claim 0 = .ok (.aload_n 0, 1) := by decide +kernel
theorem dX8_claim_1 : decode cX8_claim 1 = .ok (.iload_n 1, 1) := by decide +kernel
theorem dX8_claim_2 : decode cX8_claim 2 = .ok (.invokevirtual 253, 3) := by decide +kernel
theorem dX8_claim_5 : decode cX8_claim 5 = .ok (.ifCond .eq 15, 3) := by decide +kernel
theorem dX8_claim_8 : decode cX8_claim 8 = .ok (.iload_n 2, 1) := by decide +kernel
theorem dX8_claim_9 : decode cX8_claim 9 = .ok (.iconst 0, 1) := by decide +kernel
theorem dX8_claim_10 : decode cX8_claim 10 = .ok (.aload_n 0, 1) := by decide +kernel
theorem dX8_claim_11 : decode cX8_claim 11 = .ok (.getfield 180, 3) := by decide +kernel
theorem dX8_claim_14 : decode cX8_claim 14 = .ok (.invokestatic 166, 3) := by decide +kernel
theorem dX8_claim_17 : decode cX8_claim 17 = .ok (.ifCond .ne 6, 3) := by decide +kernel
theorem dX8_claim_20 : decode cX8_claim 20 = .ok (.bipush (-2), 2) := by decide +kernel
theorem dX8_claim_22 : decode cX8_claim 22 = .ok (.ireturn, 1) := by decide +kernel
theorem dX8_claim_23 : decode cX8_claim 23 = .ok (.aload_n 0, 1) := by decide +kernel
theorem dX8_claim_24 : decode cX8_claim 24 = .ok (.getfield 76, 3) := by decide +kernel
theorem dX8_claim_27 : decode cX8_claim 27 = .ok (.iload_n 1, 1) := by decide +kernel
theorem dX8_claim_28 : decode cX8_claim 28 = .ok (.iaload, 1) := by decide +kernel
theorem dX8_claim_29 : decode cX8_claim 29 = .ok (.iconst 1, 1) := by decide +kernel
theorem dX8_claim_30 : decode cX8_claim 30 = .ok (.if_icmp .ne 12, 3) := by decide +kernel
theorem dX8_claim_33 : decode cX8_claim 33 = .ok (.aload_n 0, 1) := by decide +kernel
theorem dX8_claim_34 : decode cX8_claim 34 = .ok (.iload_n 1, 1) := by decide +kernel
theorem dX8_claim_35 : decode cX8_claim 35 = .ok (.iload_n 2, 1) := by decide +kernel
theorem dX8_claim_36 : decode cX8_claim 36 = .ok (.invokevirtual 260, 3) := by decide +kernel
theorem dX8_claim_39 : decode cX8_claim 39 = .ok (.goto 4, 3) := by decide +kernel
theorem dX8_claim_42 : decode cX8_claim 42 = .ok (.iconst (-1), 1) := by decide +kernel
theorem dX8_claim_43 : decode cX8_claim 43 = .ok (.ireturn, 1) := by decide +kernel
set_option maxRecDepth 20000 in
theorem ggX8_line_X8_isCall : GoodIn wsX8_line wsX8_isCall := goodIn_r _ [7, 8, 9, 10, 6, 11, 33, 34, 35, 36, 37, 38, 39, 40, 41, 42, 43, 44, 45, 46, 47, 48, 49, 50, 51, 52, 53, 54, 55, 56, 57, 58, 59, 60, 61, 62, 63, 64, 65, 66, 67, 68, 69, 70, 71, 72, 73, 74, 75, 76, 77] (by decide +kernel) (by decide +kernel)
set_option maxRecDepth 20000 in
theorem gX8_line_X8_isCall : GoodIn wsX8_line (wsV RX8 253 RX8 yX8_isCall wsX8_isCall) := goodIn_app (goodIn_of _ (by decide +kernel)) ggX8_line_X8_isCall
set_option maxRecDepth 20000 in
theorem ggX8_line_X8_in : GoodIn wsX8_line wsX8_in := goodIn_r _ [11] (by decide +kernel) (by decide +kernel)
set_option maxRecDepth 20000 in
theorem gX8_line_X8_in : GoodIn wsX8_line (va_wsS RX8 166 yX8_in wsX8_in) := goodIn_app (goodIn_of _ (by decide +kernel)) ggX8_line_X8_in
set_option maxRecDepth 20000 in
theorem ggX8_line_X8_lineOf : GoodIn wsX8_line wsX8_lineOf := goodIn_r _ [15, 16, 17, 18, 19, 20, 21, 22, 6, 23, 24, 25, 26, 27, 28, 29, 30, 31, 32, 12, 13, 14, 33, 34, 35, 36, 37, 38, 39, 40, 41, 42, 43, 44, 45, 46, 47, 48, 49, 50, 51, 52, 53, 54, 55, 56, 57, 58, 59, 60, 61, 62, 63, 64, 65, 66, 67, 68, 69, 70, 71, 72, 73, 74, 75, 76, 77] (by decide +kernel) (by decide +kernel)
set_option maxRecDepth 20000 in
theorem gX8_line_X8_lineOf : GoodIn wsX8_line (wsV RX8 256 RX8 yX8_lineOf wsX8_lineOf) := goodIn_app (goodIn_of _ (by decide +kernel)) ggX8_line_X8_lineOf
theorem dX8_line_0 : decode cX8_line 0 = .ok (.aload_n 0, 1) := by decide +kernel
theorem dX8_line_1 : decode cX8_line 1 = .ok (.iload_n 1, 1) := by decide +kernel
theorem dX8_line_2 : decode cX8_line 2 = .ok (.invokevirtual 253, 3) := by decide +kernel
theorem dX8_line_5 : decode cX8_line 5 = .ok (.ifCond .eq 15, 3) := by decide +kernel
theorem dX8_line_8 : decode cX8_line 8 = .ok (.iload_n 2, 1) := by decide +kernel
theorem dX8_line_9 : decode cX8_line 9 = .ok (.iconst 0, 1) := by decide +kernel
theorem dX8_line_10 : decode cX8_line 10 = .ok (.aload_n 0, 1) := by decide +kernel
theorem dX8_line_11 : decode cX8_line 11 = .ok (.getfield 180, 3) := by decide +kernel
theorem dX8_line_14 : decode cX8_line 14 = .ok (.invokestatic 166, 3) := by decide +kernel
theorem dX8_line_17 : decode cX8_line 17 = .ok (.ifCond .ne 6, 3) := by decide +kernel
theorem dX8_line_20 : decode cX8_line 20 = .ok (.bipush (-2), 2) := by decide +kernel
theorem dX8_line_22 : decode cX8_line 22 = .ok (.ireturn, 1) := by decide +kernel
theorem dX8_line_23 : decode cX8_line 23 = .ok (.aload_n 0, 1) := by decide +kernel
theorem dX8_line_24 : decode cX8_line 24 = .ok (.getfield 76, 3) := by decide +kernel
theorem dX8_line_27 : decode cX8_line 27 = .ok (.iload_n 1, 1) := by decide +kernel
theorem dX8_line_28 : decode cX8_line 28 = .ok (.iaload, 1) := by decide +kernel
theorem dX8_line_29 : decode cX8_line 29 = .ok (.iconst 1, 1) := by decide +kernel
theorem dX8_line_30 : decode cX8_line 30 = .ok (.if_icmp .ne 22, 3) := by decide +kernel
theorem dX8_line_33 : decode cX8_line 33 = .ok (.iload_n 3, 1) := by decide +kernel
theorem dX8_line_34 : decode cX8_line 34 = .ok (.iconst 0, 1) := by decide +kernel
theorem dX8_line_35 : decode cX8_line 35 = .ok (.iconst 4, 1) := by decide +kernel
theorem dX8_line_36 : decode cX8_line 36 = .ok (.invokestatic 166, 3) := by decide +kernel
theorem dX8_line_39 : decode cX8_line 39 = .ok (.ifCond .eq 13, 3) := by decide +kernel
theorem dX8_line_42 : decode cX8_line 42 = .ok (.aload_n 0, 1) := by decide +kernel
theorem dX8_line_43 : decode cX8_line 43 = .ok (.iload_n 1, 1) := by decide +kernel
theorem dX8_line_44 : decode cX8_line 44 = .ok (.iload_n 2, 1) := by decide +kernel
theorem dX8_line_45 : decode cX8_line 45 = .ok (.iload_n 3, 1) := by decide +kernel
theorem dX8_line_46 : decode cX8_line 46 = .ok (.invokevirtual 256, 3) := by decide +kernel
theorem dX8_line_49 : decode cX8_line 49 = .ok (.goto 4, 3) := by decide +kernel
theorem dX8_line_52 : decode cX8_line 52 = .ok (.iconst (-1), 1) := by decide +kernel
theorem dX8_line_53 : decode cX8_line 53 = .ok (.ireturn, 1) := by decide +kernel
set_option maxRecDepth 20000 in
theorem ggX8_pay_X8_isCall : GoodIn wsX8_pay wsX8_isCall := goodIn_r _ [8, 9, 10, 11, 7, 12, 38, 39, 40, 41, 42, 43, 44, 45, 46, 47, 48, 49, 50, 51, 52, 53, 54, 55, 56, 57, 58, 59, 60, 61, 62, 63, 64, 65, 66, 67, 68, 69, 70, 71, 72, 73, 74, 75, 76, 77, 78, 79, 80, 81, 82] (by decide +kernel) (by decide +kernel)
set_option maxRecDepth 20000 in
theorem gX8_pay_X8_isCall : GoodIn wsX8_pay (wsV RX8 253 RX8 yX8_isCall wsX8_isCall) := goodIn_app (goodIn_of _ (by decide +kernel)) ggX8_pay_X8_isCall
set_option maxRecDepth 20000 in
theorem ggX8_pay_X8_claimOf : GoodIn wsX8_pay wsX8_claimOf := goodIn_r _ [16, 17, 18, 19, 7, 20, 21, 22, 23, 24, 25, 26, 27, 28, 29, 30, 31, 32, 33, 34, 35, 36, 37, 38, 39, 40, 41, 42, 43, 44, 45, 46, 47, 48, 49, 50, 51, 52, 53, 54, 55, 56, 57, 58, 59, 60, 61, 62, 63, 64, 65, 66, 67, 68, 69, 70, 71, 72, 73, 74, 75, 76, 77, 78, 79, 80, 81, 82] (by decide +kernel) (by decide +kernel)
set_option maxRecDepth 20000 in
theorem gX8_pay_X8_claimOf : GoodIn wsX8_pay (wsV RX8 260 RX8 yX8_claimOf wsX8_claimOf) := goodIn_app (goodIn_of _ (by decide +kernel)) ggX8_pay_X8_claimOf
theorem dX8_pay_0 : decode cX8_pay 0 = .ok (.aload_n 0, 1) := by decide +kernel
theorem dX8_pay_1 : decode cX8_pay 1 = .ok (.iload_n 1, 1) := by decide +kernel
theorem dX8_pay_2 : decode cX8_pay 2 = .ok (.invokevirtual 253, 3) := by decide +kernel
theorem dX8_pay_5 : decode cX8_pay 5 = .ok (.ifCond .ne 6, 3) := by decide +kernel
theorem dX8_pay_8 : decode cX8_pay 8 = .ok (.bipush (-2), 2) := by decide +kernel
theorem dX8_pay_10 : decode cX8_pay 10 = .ok (.ireturn, 1) := by decide +kernel
theorem dX8_pay_11 : decode cX8_pay 11 = .ok (.aload_n 0, 1) := by decide +kernel
theorem dX8_pay_12 : decode cX8_pay 12 = .ok (.getfield 76, 3) := by decide +kernel
theorem dX8_pay_15 : decode cX8_pay 15 = .ok (.iload_n 1, 1) := by decide +kernel
theorem dX8_pay_16 : decode cX8_pay 16 = .ok (.iaload, 1) := by decide +kernel
theorem dX8_pay_17 : decode cX8_pay 17 = .ok (.iconst 1, 1) := by decide +kernel
theorem dX8_pay_18 : decode cX8_pay 18 = .ok (.if_icmp .eq 6, 3) := by decide +kernel
theorem dX8_pay_21 : decode cX8_pay 21 = .ok (.bipush (-4), 2) := by decide +kernel
theorem dX8_pay_23 : decode cX8_pay 23 = .ok (.ireturn, 1) := by decide +kernel
theorem dX8_pay_24 : decode cX8_pay 24 = .ok (.aload_n 0, 1) := by decide +kernel
theorem dX8_pay_25 : decode cX8_pay 25 = .ok (.iload_n 1, 1) := by decide +kernel
theorem dX8_pay_26 : decode cX8_pay 26 = .ok (.aload_n 0, 1) := by decide +kernel
theorem dX8_pay_27 : decode cX8_pay 27 = .ok (.getfield 180, 3) := by decide +kernel
theorem dX8_pay_30 : decode cX8_pay 30 = .ok (.invokevirtual 260, 3) := by decide +kernel
theorem dX8_pay_33 : decode cX8_pay 33 = .ok (.aload_n 0, 1) := by decide +kernel
theorem dX8_pay_34 : decode cX8_pay 34 = .ok (.getfield 97, 3) := by decide +kernel
theorem dX8_pay_37 : decode cX8_pay 37 = .ok (.iload_n 1, 1) := by decide +kernel
theorem dX8_pay_38 : decode cX8_pay 38 = .ok (.iaload, 1) := by decide +kernel
theorem dX8_pay_39 : decode cX8_pay 39 = .ok (.isub, 1) := by decide +kernel
theorem dX8_pay_40 : decode cX8_pay 40 = .ok (.istore_n 2, 1) := by decide +kernel
theorem dX8_pay_41 : decode cX8_pay 41 = .ok (.aload_n 0, 1) := by decide +kernel
theorem dX8_pay_42 : decode cX8_pay 42 = .ok (.getfield 97, 3) := by decide +kernel
theorem dX8_pay_45 : decode cX8_pay 45 = .ok (.iload_n 1, 1) := by decide +kernel
theorem dX8_pay_46 : decode cX8_pay 46 = .ok (.dup2, 1) := by decide +kernel
theorem dX8_pay_47 : decode cX8_pay 47 = .ok (.iaload, 1) := by decide +kernel
theorem dX8_pay_48 : decode cX8_pay 48 = .ok (.iload_n 2, 1) := by decide +kernel
theorem dX8_pay_49 : decode cX8_pay 49 = .ok (.iadd, 1) := by decide +kernel
theorem dX8_pay_50 : decode cX8_pay 50 = .ok (.iastore, 1) := by decide +kernel
theorem dX8_pay_51 : decode cX8_pay 51 = .ok (.iload_n 2, 1) := by decide +kernel
theorem dX8_pay_52 : decode cX8_pay 52 = .ok (.ireturn, 1) := by decide +kernel
set_option maxRecDepth 20000 in
theorem ggX8_paid_X8_isLawyer : GoodIn wsX8_paid wsX8_isLawyer := goodIn_r _ [8, 9, 10, 11, 7, 12, 13, 14, 15, 16, 17, 18, 19, 20, 21, 22, 23, 24, 25, 26, 27, 28, 29, 30, 31, 32, 33, 34, 35, 36, 37, 38, 39, 40, 41, 42, 43, 44, 45, 46, 47, 48, 49, 50, 51, 52, 53, 54, 55, 56, 57] (by decide +kernel) (by decide +kernel)
set_option maxRecDepth 20000 in
theorem gX8_paid_X8_isLawyer : GoodIn wsX8_paid (wsV RX8 192 RX8 yX8_isLawyer wsX8_isLawyer) := goodIn_app (goodIn_of _ (by decide +kernel)) ggX8_paid_X8_isLawyer
theorem dX8_paid_0 : decode cX8_paid 0 = .ok (.aload_n 0, 1) := by decide +kernel
theorem dX8_paid_1 : decode cX8_paid 1 = .ok (.iload_n 1, 1) := by decide +kernel
theorem dX8_paid_2 : decode cX8_paid 2 = .ok (.invokevirtual 192, 3) := by decide +kernel
theorem dX8_paid_5 : decode cX8_paid 5 = .ok (.ifCond .ne 6, 3) := by decide +kernel
theorem dX8_paid_8 : decode cX8_paid 8 = .ok (.bipush (-2), 2) := by decide +kernel
theorem dX8_paid_10 : decode cX8_paid 10 = .ok (.ireturn, 1) := by decide +kernel
theorem dX8_paid_11 : decode cX8_paid 11 = .ok (.iconst 0, 1) := by decide +kernel
theorem dX8_paid_12 : decode cX8_paid 12 = .ok (.istore_n 2, 1) := by decide +kernel
theorem dX8_paid_13 : decode cX8_paid 13 = .ok (.iconst 0, 1) := by decide +kernel
theorem dX8_paid_14 : decode cX8_paid 14 = .ok (.istore_n 3, 1) := by decide +kernel
theorem dX8_paid_15 : decode cX8_paid 15 = .ok (.iload_n 3, 1) := by decide +kernel
theorem dX8_paid_16 : decode cX8_paid 16 = .ok (.aload_n 0, 1) := by decide +kernel
theorem dX8_paid_17 : decode cX8_paid 17 = .ok (.getfield 231, 3) := by decide +kernel
theorem dX8_paid_20 : decode cX8_paid 20 = .ok (.if_icmp .ge 32, 3) := by decide +kernel
theorem dX8_paid_23 : decode cX8_paid 23 = .ok (.iload_n 2, 1) := by decide +kernel
theorem dX8_paid_24 : decode cX8_paid 24 = .ok (.aload_n 0, 1) := by decide +kernel
theorem dX8_paid_25 : decode cX8_paid 25 = .ok (.getfield 85, 3) := by decide +kernel
theorem dX8_paid_28 : decode cX8_paid 28 = .ok (.iload_n 3, 1) := by decide +kernel
theorem dX8_paid_29 : decode cX8_paid 29 = .ok (.iaload, 1) := by decide +kernel
theorem dX8_paid_30 : decode cX8_paid 30 = .ok (.iload_n 1, 1) := by decide +kernel
theorem dX8_paid_31 : decode cX8_paid 31 = .ok (.if_icmp .ne 12, 3) := by decide +kernel
theorem dX8_paid_34 : decode cX8_paid 34 = .ok (.aload_n 0, 1) := by decide +kernel
theorem dX8_paid_35 : decode cX8_paid 35 = .ok (.getfield 97, 3) := by decide +kernel
theorem dX8_paid_38 : decode cX8_paid 38 = .ok (.iload_n 3, 1) := by decide +kernel
theorem dX8_paid_39 : decode cX8_paid 39 = .ok (.iaload, 1) := by decide +kernel
theorem dX8_paid_40 : decode cX8_paid 40 = .ok (.goto 4, 3) := by decide +kernel
theorem dX8_paid_43 : decode cX8_paid 43 = .ok (.iconst 0, 1) := by decide +kernel
theorem dX8_paid_44 : decode cX8_paid 44 = .ok (.iadd, 1) := by decide +kernel
theorem dX8_paid_45 : decode cX8_paid 45 = .ok (.istore_n 2, 1) := by decide +kernel
theorem dX8_paid_46 : decode cX8_paid 46 = .ok (.iinc 3 1, 3) := by decide +kernel
theorem dX8_paid_49 : decode cX8_paid 49 = .ok (.goto (-34), 3) := by decide +kernel
theorem dX8_paid_52 : decode cX8_paid 52 = .ok (.iload_n 2, 1) := by decide +kernel
theorem dX8_paid_53 : decode cX8_paid 53 = .ok (.ireturn, 1) := by decide +kernel
theorem dX8_count_0 : decode cX8_count 0 = .ok (.iconst 0, 1) := by decide +kernel
theorem dX8_count_1 : decode cX8_count 1 = .ok (.istore_n 2, 1) := by decide +kernel
theorem dX8_count_2 : decode cX8_count 2 = .ok (.iload_n 1, 1) := by decide +kernel
theorem dX8_count_3 : decode cX8_count 3 = .ok (.tableswitch 138 0 7 #[45, 50, 55, 60, 95, 100, 100, 100], 45) := by decide +kernel
theorem dX8_count_48 : decode cX8_count 48 = .ok (.aload_n 0, 1) := by decide +kernel
theorem dX8_count_49 : decode cX8_count 49 = .ok (.getfield 189, 3) := by decide +kernel
theorem dX8_count_52 : decode cX8_count 52 = .ok (.ireturn, 1) := by decide +kernel
theorem dX8_count_53 : decode cX8_count 53 = .ok (.aload_n 0, 1) := by decide +kernel
theorem dX8_count_54 : decode cX8_count 54 = .ok (.getfield 180, 3) := by decide +kernel
theorem dX8_count_57 : decode cX8_count 57 = .ok (.ireturn, 1) := by decide +kernel
theorem dX8_count_58 : decode cX8_count 58 = .ok (.aload_n 0, 1) := by decide +kernel
theorem dX8_count_59 : decode cX8_count 59 = .ok (.getfield 231, 3) := by decide +kernel
theorem dX8_count_62 : decode cX8_count 62 = .ok (.ireturn, 1) := by decide +kernel
theorem dX8_count_63 : decode cX8_count 63 = .ok (.iconst 0, 1) := by decide +kernel
theorem dX8_count_64 : decode cX8_count 64 = .ok (.istore_n 3, 1) := by decide +kernel
theorem dX8_count_65 : decode cX8_count 65 = .ok (.iload_n 3, 1) := by decide +kernel
theorem dX8_count_66 : decode cX8_count 66 = .ok (.sipush 6000, 3) := by decide +kernel
theorem dX8_count_69 : decode cX8_count 69 = .ok (.if_icmp .ge 27, 3) := by decide +kernel
theorem dX8_count_72 : decode cX8_count 72 = .ok (.iload_n 2, 1) := by decide +kernel
theorem dX8_count_73 : decode cX8_count 73 = .ok (.aload_n 0, 1) := by decide +kernel
theorem dX8_count_74 : decode cX8_count 74 = .ok (.getfield 46, 3) := by decide +kernel
theorem dX8_count_77 : decode cX8_count 77 = .ok (.iload_n 3, 1) := by decide +kernel
theorem dX8_count_78 : decode cX8_count 78 = .ok (.iaload, 1) := by decide +kernel
theorem dX8_count_79 : decode cX8_count 79 = .ok (.iconst (-1), 1) := by decide +kernel
theorem dX8_count_80 : decode cX8_count 80 = .ok (.if_icmp .eq 7, 3) := by decide +kernel
theorem dX8_count_83 : decode cX8_count 83 = .ok (.iconst 1, 1) := by decide +kernel
theorem dX8_count_84 : decode cX8_count 84 = .ok (.goto 4, 3) := by decide +kernel
theorem dX8_count_87 : decode cX8_count 87 = .ok (.iconst 0, 1) := by decide +kernel
theorem dX8_count_88 : decode cX8_count 88 = .ok (.iadd, 1) := by decide +kernel
theorem dX8_count_89 : decode cX8_count 89 = .ok (.istore_n 2, 1) := by decide +kernel
theorem dX8_count_90 : decode cX8_count 90 = .ok (.iinc 3 1, 3) := by decide +kernel
theorem dX8_count_93 : decode cX8_count 93 = .ok (.goto (-28), 3) := by decide +kernel
theorem dX8_count_96 : decode cX8_count 96 = .ok (.iload_n 2, 1) := by decide +kernel
theorem dX8_count_97 : decode cX8_count 97 = .ok (.ireturn, 1) := by decide +kernel
theorem dX8_count_98 : decode cX8_count 98 = .ok (.aload_n 0, 1) := by decide +kernel
theorem dX8_count_99 : decode cX8_count 99 = .ok (.getfield 109, 3) := by decide +kernel
theorem dX8_count_102 : decode cX8_count 102 = .ok (.ireturn, 1) := by decide +kernel
theorem dX8_count_103 : decode cX8_count 103 = .ok (.iconst 0, 1) := by decide +kernel
theorem dX8_count_104 : decode cX8_count 104 = .ok (.istore_n 3, 1) := by decide +kernel
theorem dX8_count_105 : decode cX8_count 105 = .ok (.iload_n 3, 1) := by decide +kernel
theorem dX8_count_106 : decode cX8_count 106 = .ok (.aload_n 0, 1) := by decide +kernel
theorem dX8_count_107 : decode cX8_count 107 = .ok (.getfield 231, 3) := by decide +kernel
theorem dX8_count_110 : decode cX8_count 110 = .ok (.if_icmp .ge 29, 3) := by decide +kernel
theorem dX8_count_113 : decode cX8_count 113 = .ok (.iload_n 2, 1) := by decide +kernel
theorem dX8_count_114 : decode cX8_count 114 = .ok (.aload_n 0, 1) := by decide +kernel
theorem dX8_count_115 : decode cX8_count 115 = .ok (.getfield 76, 3) := by decide +kernel
theorem dX8_count_118 : decode cX8_count 118 = .ok (.iload_n 3, 1) := by decide +kernel
theorem dX8_count_119 : decode cX8_count 119 = .ok (.iaload, 1) := by decide +kernel
theorem dX8_count_120 : decode cX8_count 120 = .ok (.iload_n 1, 1) := by decide +kernel
theorem dX8_count_121 : decode cX8_count 121 = .ok (.iconst 5, 1) := by decide +kernel
theorem dX8_count_122 : decode cX8_count 122 = .ok (.isub, 1) := by decide +kernel
theorem dX8_count_123 : decode cX8_count 123 = .ok (.if_icmp .ne 7, 3) := by decide +kernel
theorem dX8_count_126 : decode cX8_count 126 = .ok (.iconst 1, 1) := by decide +kernel
theorem dX8_count_127 : decode cX8_count 127 = .ok (.goto 4, 3) := by decide +kernel
theorem dX8_count_130 : decode cX8_count 130 = .ok (.iconst 0, 1) := by decide +kernel
theorem dX8_count_131 : decode cX8_count 131 = .ok (.iadd, 1) := by decide +kernel
theorem dX8_count_132 : decode cX8_count 132 = .ok (.istore_n 2, 1) := by decide +kernel
theorem dX8_count_133 : decode cX8_count 133 = .ok (.iinc 3 1, 3) := by decide +kernel
theorem dX8_count_136 : decode cX8_count 136 = .ok (.goto (-31), 3) := by decide +kernel
theorem dX8_count_139 : decode cX8_count 139 = .ok (.iload_n 2, 1) := by decide +kernel
theorem dX8_count_140 : decode cX8_count 140 = .ok (.ireturn, 1) := by decide +kernel
theorem dX8_count_141 : decode cX8_count 141 = .ok (.iconst (-1), 1) := by decide +kernel
theorem dX8_count_142 : decode cX8_count 142 = .ok (.ireturn, 1) := by decide +kernel
theorem dJ6_bitCount_0f7a4_0 : decode cJ6_bitCount_0f7a4 0 = .ok (.iload_n 0, 1) := by decide +kernel
theorem dJ6_bitCount_0f7a4_1 : decode cJ6_bitCount_0f7a4 1 = .ok (.iload_n 0, 1) := by decide +kernel
theorem dJ6_bitCount_0f7a4_2 : decode cJ6_bitCount_0f7a4 2 = .ok (.iconst 1, 1) := by decide +kernel
theorem dJ6_bitCount_0f7a4_3 : decode cJ6_bitCount_0f7a4 3 = .ok (.iushr, 1) := by decide +kernel
theorem dJ6_bitCount_0f7a4_4 : decode cJ6_bitCount_0f7a4 4 = .ok (.ldc_w 265, 3) := by decide +kernel
theorem dJ6_bitCount_0f7a4_7 : decode cJ6_bitCount_0f7a4 7 = .ok (.iand, 1) := by decide +kernel
theorem dJ6_bitCount_0f7a4_8 : decode cJ6_bitCount_0f7a4 8 = .ok (.isub, 1) := by decide +kernel
theorem dJ6_bitCount_0f7a4_9 : decode cJ6_bitCount_0f7a4 9 = .ok (.istore_n 0, 1) := by decide +kernel
theorem dJ6_bitCount_0f7a4_10 : decode cJ6_bitCount_0f7a4 10 = .ok (.iload_n 0, 1) := by decide +kernel
theorem dJ6_bitCount_0f7a4_11 : decode cJ6_bitCount_0f7a4 11 = .ok (.ldc_w 266, 3) := by decide +kernel
theorem dJ6_bitCount_0f7a4_14 : decode cJ6_bitCount_0f7a4 14 = .ok (.iand, 1) := by decide +kernel
theorem dJ6_bitCount_0f7a4_15 : decode cJ6_bitCount_0f7a4 15 = .ok (.iload_n 0, 1) := by decide +kernel
theorem dJ6_bitCount_0f7a4_16 : decode cJ6_bitCount_0f7a4 16 = .ok (.iconst 2, 1) := by decide +kernel
theorem dJ6_bitCount_0f7a4_17 : decode cJ6_bitCount_0f7a4 17 = .ok (.iushr, 1) := by decide +kernel
theorem dJ6_bitCount_0f7a4_18 : decode cJ6_bitCount_0f7a4 18 = .ok (.ldc_w 266, 3) := by decide +kernel
theorem dJ6_bitCount_0f7a4_21 : decode cJ6_bitCount_0f7a4 21 = .ok (.iand, 1) := by decide +kernel
theorem dJ6_bitCount_0f7a4_22 : decode cJ6_bitCount_0f7a4 22 = .ok (.iadd, 1) := by decide +kernel
theorem dJ6_bitCount_0f7a4_23 : decode cJ6_bitCount_0f7a4 23 = .ok (.istore_n 0, 1) := by decide +kernel
theorem dJ6_bitCount_0f7a4_24 : decode cJ6_bitCount_0f7a4 24 = .ok (.iload_n 0, 1) := by decide +kernel
theorem dJ6_bitCount_0f7a4_25 : decode cJ6_bitCount_0f7a4 25 = .ok (.iload_n 0, 1) := by decide +kernel
theorem dJ6_bitCount_0f7a4_26 : decode cJ6_bitCount_0f7a4 26 = .ok (.iconst 4, 1) := by decide +kernel
theorem dJ6_bitCount_0f7a4_27 : decode cJ6_bitCount_0f7a4 27 = .ok (.iushr, 1) := by decide +kernel
theorem dJ6_bitCount_0f7a4_28 : decode cJ6_bitCount_0f7a4 28 = .ok (.iadd, 1) := by decide +kernel
theorem dJ6_bitCount_0f7a4_29 : decode cJ6_bitCount_0f7a4 29 = .ok (.ldc_w 267, 3) := by decide +kernel
theorem dJ6_bitCount_0f7a4_32 : decode cJ6_bitCount_0f7a4 32 = .ok (.iand, 1) := by decide +kernel
theorem dJ6_bitCount_0f7a4_33 : decode cJ6_bitCount_0f7a4 33 = .ok (.istore_n 0, 1) := by decide +kernel
theorem dJ6_bitCount_0f7a4_34 : decode cJ6_bitCount_0f7a4 34 = .ok (.iload_n 0, 1) := by decide +kernel
theorem dJ6_bitCount_0f7a4_35 : decode cJ6_bitCount_0f7a4 35 = .ok (.iload_n 0, 1) := by decide +kernel
theorem dJ6_bitCount_0f7a4_36 : decode cJ6_bitCount_0f7a4 36 = .ok (.bipush 8, 2) := by decide +kernel
theorem dJ6_bitCount_0f7a4_38 : decode cJ6_bitCount_0f7a4 38 = .ok (.iushr, 1) := by decide +kernel
theorem dJ6_bitCount_0f7a4_39 : decode cJ6_bitCount_0f7a4 39 = .ok (.iadd, 1) := by decide +kernel
theorem dJ6_bitCount_0f7a4_40 : decode cJ6_bitCount_0f7a4 40 = .ok (.istore_n 0, 1) := by decide +kernel
theorem dJ6_bitCount_0f7a4_41 : decode cJ6_bitCount_0f7a4 41 = .ok (.iload_n 0, 1) := by decide +kernel
theorem dJ6_bitCount_0f7a4_42 : decode cJ6_bitCount_0f7a4 42 = .ok (.iload_n 0, 1) := by decide +kernel
theorem dJ6_bitCount_0f7a4_43 : decode cJ6_bitCount_0f7a4 43 = .ok (.bipush 16, 2) := by decide +kernel
theorem dJ6_bitCount_0f7a4_45 : decode cJ6_bitCount_0f7a4 45 = .ok (.iushr, 1) := by decide +kernel
theorem dJ6_bitCount_0f7a4_46 : decode cJ6_bitCount_0f7a4 46 = .ok (.iadd, 1) := by decide +kernel
theorem dJ6_bitCount_0f7a4_47 : decode cJ6_bitCount_0f7a4 47 = .ok (.istore_n 0, 1) := by decide +kernel
theorem dJ6_bitCount_0f7a4_48 : decode cJ6_bitCount_0f7a4 48 = .ok (.iload_n 0, 1) := by decide +kernel
theorem dJ6_bitCount_0f7a4_49 : decode cJ6_bitCount_0f7a4 49 = .ok (.bipush 63, 2) := by decide +kernel
theorem dJ6_bitCount_0f7a4_51 : decode cJ6_bitCount_0f7a4 51 = .ok (.iand, 1) := by decide +kernel
theorem dJ6_bitCount_0f7a4_52 : decode cJ6_bitCount_0f7a4 52 = .ok (.ireturn, 1) := by decide +kernel
theorem dJ9_max_7cf53_0 : decode cJ9_max_7cf53 0 = .ok (.iload_n 0, 1) := by decide +kernel
theorem dJ9_max_7cf53_1 : decode cJ9_max_7cf53 1 = .ok (.iload_n 1, 1) := by decide +kernel
theorem dJ9_max_7cf53_2 : decode cJ9_max_7cf53 2 = .ok (.if_icmp .lt 7, 3) := by decide +kernel
theorem dJ9_max_7cf53_5 : decode cJ9_max_7cf53 5 = .ok (.iload_n 0, 1) := by decide +kernel
theorem dJ9_max_7cf53_6 : decode cJ9_max_7cf53 6 = .ok (.goto 4, 3) := by decide +kernel
theorem dJ9_max_7cf53_9 : decode cJ9_max_7cf53 9 = .ok (.iload_n 1, 1) := by decide +kernel
theorem dJ9_max_7cf53_10 : decode cJ9_max_7cf53 10 = .ok (.ireturn, 1) := by decide +kernel
theorem dJ9_min_7cf53_0 : decode cJ9_min_7cf53 0 = .ok (.iload_n 0, 1) := by decide +kernel
theorem dJ9_min_7cf53_1 : decode cJ9_min_7cf53 1 = .ok (.iload_n 1, 1) := by decide +kernel
theorem dJ9_min_7cf53_2 : decode cJ9_min_7cf53 2 = .ok (.if_icmp .gt 7, 3) := by decide +kernel
theorem dJ9_min_7cf53_5 : decode cJ9_min_7cf53 5 = .ok (.iload_n 0, 1) := by decide +kernel
theorem dJ9_min_7cf53_6 : decode cJ9_min_7cf53 6 = .ok (.goto 4, 3) := by decide +kernel
theorem dJ9_min_7cf53_9 : decode cJ9_min_7cf53 9 = .ok (.iload_n 1, 1) := by decide +kernel
theorem dJ9_min_7cf53_10 : decode cJ9_min_7cf53 10 = .ok (.ireturn, 1) := by decide +kernel
theorem dJ9_min_f86c9_0 : decode cJ9_min_f86c9 0 = .ok (.lload_n 0, 1) := by decide +kernel
theorem dJ9_min_f86c9_1 : decode cJ9_min_f86c9 1 = .ok (.lload_n 2, 1) := by decide +kernel
theorem dJ9_min_f86c9_2 : decode cJ9_min_f86c9 2 = .ok (.lcmp, 1) := by decide +kernel
theorem dJ9_min_f86c9_3 : decode cJ9_min_f86c9 3 = .ok (.ifCond .gt 7, 3) := by decide +kernel
theorem dJ9_min_f86c9_6 : decode cJ9_min_f86c9 6 = .ok (.lload_n 0, 1) := by decide +kernel
theorem dJ9_min_f86c9_7 : decode cJ9_min_f86c9 7 = .ok (.goto 4, 3) := by decide +kernel
theorem dJ9_min_f86c9_10 : decode cJ9_min_f86c9 10 = .ok (.lload_n 2, 1) := by decide +kernel
theorem dJ9_min_f86c9_11 : decode cJ9_min_f86c9 11 = .ok (.lreturn, 1) := by decide +kernel
set_option maxRecDepth 20000 in
theorem ggJ0_length_8abf5_J0_coder_7d493 : GoodIn wsJ0_length_8abf5 wsJ0_coder_7d493 := goodIn_r _ [6, 7, 8] (by decide +kernel) (by decide +kernel)
set_option maxRecDepth 20000 in
theorem gJ0_length_8abf5_J0_coder_7d493 : GoodIn wsJ0_length_8abf5 (wsV RJ0 335 RJ0 yJ0_coder_7d493 wsJ0_coder_7d493) := goodIn_app (goodIn_of _ (by decide +kernel)) ggJ0_length_8abf5_J0_coder_7d493
theorem dJ0_length_8abf5_0 : decode cJ0_length_8abf5 0 = .ok (.aload_n 0, 1) := by decide +kernel
theorem dJ0_length_8abf5_1 : decode cJ0_length_8abf5 1 = .ok (.getfield 9, 3) := by decide +kernel
theorem dJ0_length_8abf5_4 : decode cJ0_length_8abf5 4 = .ok (.arraylength, 1) := by decide +kernel
theorem dJ0_length_8abf5_5 : decode cJ0_length_8abf5 5 = .ok (.aload_n 0, 1) := by decide +kernel
theorem dJ0_length_8abf5_6 : decode cJ0_length_8abf5 6 = .ok (.invokevirtual 335, 3) := by decide +kernel
theorem dJ0_length_8abf5_9 : decode cJ0_length_8abf5 9 = .ok (.ishr, 1) := by decide +kernel
theorem dJ0_length_8abf5_10 : decode cJ0_length_8abf5 10 = .ok (.ireturn, 1) := by decide +kernel
set_option maxRecDepth 20000 in
theorem ggJ0_charAt_5068e_J0_isLatin1_aae02 : GoodIn wsJ0_charAt_5068e wsJ0_isLatin1_aae02 := goodIn_r _ [6, 7, 8] (by decide +kernel) (by decide +kernel)
set_option maxRecDepth 20000 in
theorem gJ0_charAt_5068e_J0_isLatin1_aae02 : GoodIn wsJ0_charAt_5068e (wsV RJ0 492 RJ0 yJ0_isLatin1_aae02 wsJ0_isLatin1_aae02) := goodIn_app (goodIn_of _ (by decide +kernel)) ggJ0_charAt_5068e_J0_isLatin1_aae02
set_option maxRecDepth 20000 in
theorem ggJ0_charAt_5068e_J1_charAt_3b067 : GoodIn wsJ0_charAt_5068e wsJ1_charAt_3b067 := goodIn_r _ [12, 13, 14, 5, 15, 16, 17, 18, 19, 20] (by decide +kernel) (by decide +kernel)
set_option maxRecDepth 20000 in
theorem gJ0_charAt_5068e_J1_charAt_3b067 : GoodIn wsJ0_charAt_5068e (va_wsS RJ0 495 yJ1_charAt_3b067 wsJ1_charAt_3b067) := goodIn_app (goodIn_of _ (by decide +kernel)) ggJ0_charAt_5068e_J1_charAt_3b067
set_option maxRecDepth 20000 in
theorem ggJ0_charAt_5068e_J2_charAt_3b067 : GoodIn wsJ0_charAt_5068e wsJ2_charAt_3b067 := goodIn_r _ [24, 25, 26, 23, 27, 28, 29, 30, 31, 14, 5, 15, 16, 17, 18, 19, 20, 32, 33, 34, 35, 36, 37] (by decide +kernel) (by decide +kernel)
set_option maxRecDepth 20000 in
theorem gJ0_charAt_5068e_J2_charAt_3b067 : GoodIn wsJ0_charAt_5068e (va_wsS RJ0 498 yJ2_charAt_3b067 wsJ2_charAt_3b067) := goodIn_app (goodIn_of _ (by decide +kernel)) ggJ0_charAt_5068e_J2_charAt_3b067
theorem dJ0_charAt_5068e_0 : decode cJ0_charAt_5068e 0 = .ok (.aload_n 0, 1) := by decide +kernel
theorem dJ0_charAt_5068e_1 : decode cJ0_charAt_5068e 1 = .ok (.invokevirtual 492, 3) := by decide +kernel
theorem dJ0_charAt_5068e_4 : decode cJ0_charAt_5068e 4 = .ok (.ifCond .eq 12, 3) := by decide +kernel
theorem dJ0_charAt_5068e_7 : decode cJ0_charAt_5068e 7 = .ok (.aload_n 0, 1) := by decide +kernel
theorem dJ0_charAt_5068e_8 : decode cJ0_charAt_5068e 8 = .ok (.getfield 9, 3) := by decide +kernel
theorem dJ0_charAt_5068e_11 : decode cJ0_charAt_5068e 11 = .ok (.iload_n 1, 1) := by decide +kernel
theorem dJ0_charAt_5068e_12 : decode cJ0_charAt_5068e 12 = .ok (.invokestatic 495, 3) := by decide +kernel
theorem dJ0_charAt_5068e_15 : decode cJ0_charAt_5068e 15 = .ok (.ireturn, 1) := by decide +kernel
theorem dJ0_charAt_5068e_16 : decode cJ0_charAt_5068e 16 = .ok (.aload_n 0, 1) := by decide +kernel
theorem dJ0_charAt_5068e_17 : decode cJ0_charAt_5068e 17 = .ok (.getfield 9, 3) := by decide +kernel
theorem dJ0_charAt_5068e_20 : decode cJ0_charAt_5068e 20 = .ok (.iload_n 1, 1) := by decide +kernel
theorem dJ0_charAt_5068e_21 : decode cJ0_charAt_5068e 21 = .ok (.invokestatic 498, 3) := by decide +kernel
theorem dJ0_charAt_5068e_24 : decode cJ0_charAt_5068e 24 = .ok (.ireturn, 1) := by decide +kernel
theorem dJ0_coder_7d493_0 : decode cJ0_coder_7d493 0 = .ok (.getstatic 38, 3) := by decide +kernel
theorem dJ0_coder_7d493_3 : decode cJ0_coder_7d493 3 = .ok (.ifCond .eq 10, 3) := by decide +kernel
theorem dJ0_coder_7d493_6 : decode cJ0_coder_7d493 6 = .ok (.aload_n 0, 1) := by decide +kernel
theorem dJ0_coder_7d493_7 : decode cJ0_coder_7d493 7 = .ok (.getfield 15, 3) := by decide +kernel
theorem dJ0_coder_7d493_10 : decode cJ0_coder_7d493 10 = .ok (.goto 4, 3) := by decide +kernel
theorem dJ0_coder_7d493_13 : decode cJ0_coder_7d493 13 = .ok (.iconst 1, 1) := by decide +kernel
theorem dJ0_coder_7d493_14 : decode cJ0_coder_7d493 14 = .ok (.ireturn, 1) := by decide +kernel
theorem dJ0_isLatin1_aae02_0 : decode cJ0_isLatin1_aae02 0 = .ok (.getstatic 38, 3) := by decide +kernel
theorem dJ0_isLatin1_aae02_3 : decode cJ0_isLatin1_aae02 3 = .ok (.ifCond .eq 14, 3) := by decide +kernel
theorem dJ0_isLatin1_aae02_6 : decode cJ0_isLatin1_aae02 6 = .ok (.aload_n 0, 1) := by decide +kernel
theorem dJ0_isLatin1_aae02_7 : decode cJ0_isLatin1_aae02 7 = .ok (.getfield 15, 3) := by decide +kernel
theorem dJ0_isLatin1_aae02_10 : decode cJ0_isLatin1_aae02 10 = .ok (.ifCond .ne 7, 3) := by decide +kernel
theorem dJ0_isLatin1_aae02_13 : decode cJ0_isLatin1_aae02 13 = .ok (.iconst 1, 1) := by decide +kernel
theorem dJ0_isLatin1_aae02_14 : decode cJ0_isLatin1_aae02 14 = .ok (.goto 4, 3) := by decide +kernel
