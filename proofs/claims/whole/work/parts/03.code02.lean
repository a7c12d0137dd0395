theorem dX7_away_43 : decode cX7_away 43 = .ok (.iload_n 1, 1) := by decide +kernel
theorem dX7_away_44 : decode cX7_away 44 = .ok (.iload_n 2, 1) := by decide +kernel
theorem dX7_away_45 : decode cX7_away 45 = .ok (.invokevirtual 83, 3) := by decide +kernel
theorem dX7_away_48 : decode cX7_away 48 = .ok (.iconst 1, 1) := by decide +kernel
theorem dX7_away_49 : decode cX7_away 49 = .ok (.ireturn, 1) := by decide +kernel
set_option maxRecDepth 20000 in
theorem ggX7_strike_X3_has : GoodIn wsX7_strike wsX3_has := goodIn_r _ [6, 7, 8, 9, 10, 88, 89, 90, 91, 92, 93, 94, 95] (by decide +kernel) (by decide +kernel)
set_option maxRecDepth 20000 in
theorem gX7_strike_X3_has_n76 : GoodIn wsX7_strike (wsX3_has) := ggX7_strike_X3_has
set_option maxRecDepth 20000 in
theorem ggX7_strike_X7_isBelow : GoodIn wsX7_strike wsX7_isBelow := goodIn_r _ [10] (by decide +kernel) (by decide +kernel)
set_option maxRecDepth 20000 in
theorem gX7_strike_X7_isBelow : GoodIn wsX7_strike (va_wsS RX7 65 yX7_isBelow wsX7_isBelow) := goodIn_app (goodIn_of _ (by decide +kernel)) ggX7_strike_X7_isBelow
set_option maxRecDepth 20000 in
theorem ggX7_strike_X3_isStruck : GoodIn wsX7_strike wsX3_isStruck := goodIn_r _ [14, 15, 88, 89, 90, 91, 92, 93, 94, 95] (by decide +kernel) (by decide +kernel)
set_option maxRecDepth 20000 in
theorem gX7_strike_X3_isStruck_n87 : GoodIn wsX7_strike (wsX3_isStruck) := ggX7_strike_X3_isStruck
set_option maxRecDepth 20000 in
theorem ggX7_strike_X2_passOn : GoodIn wsX7_strike wsX2_passOn := goodIn_r _ [19, 20, 21, 22, 17, 23, 24, 25, 26, 27, 28, 29, 30, 31, 32, 33, 34, 35, 36, 37, 38, 39, 40, 41, 42, 43, 44, 45, 46, 47, 48, 49, 4, 50, 51, 52, 53, 9, 54, 55, 56, 57, 58, 59, 12, 13, 14, 15, 60, 61, 62, 63, 64, 65, 66, 67, 68, 69, 70, 71, 72, 73, 74, 75, 76, 77, 78, 79, 80, 81, 96, 97, 98, 99, 100, 101, 88, 89, 90, 91, 92, 93, 94, 95, 102, 103] (by decide +kernel) (by decide +kernel)
set_option maxRecDepth 20000 in
theorem gX7_strike_X2_passOn_n94 : GoodIn wsX7_strike (wsX2_passOn) := ggX7_strike_X2_passOn
theorem dX7_strike_0 : decode cX7_strike 0 = .ok (.aload_n 0, 1) := by decide +kernel
theorem dX7_strike_1 : decode cX7_strike 1 = .ok (.getfield 26, 3) := by decide +kernel
theorem dX7_strike_4 : decode cX7_strike 4 = .ok (.iload_n 1, 1) := by decide +kernel
theorem dX7_strike_5 : decode cX7_strike 5 = .ok (.invokevirtual 76, 3) := by decide +kernel
theorem dX7_strike_8 : decode cX7_strike 8 = .ok (.ifCond .eq 25, 3) := by decide +kernel
theorem dX7_strike_11 : decode cX7_strike 11 = .ok (.iload_n 2, 1) := by decide +kernel
theorem dX7_strike_12 : decode cX7_strike 12 = .ok (.sipush 1000, 3) := by decide +kernel
theorem dX7_strike_15 : decode cX7_strike 15 = .ok (.invokestatic 65, 3) := by decide +kernel
theorem dX7_strike_18 : decode cX7_strike 18 = .ok (.ifCond .eq 15, 3) := by decide +kernel
theorem dX7_strike_21 : decode cX7_strike 21 = .ok (.aload_n 0, 1) := by decide +kernel
theorem dX7_strike_22 : decode cX7_strike 22 = .ok (.getfield 26, 3) := by decide +kernel
theorem dX7_strike_25 : decode cX7_strike 25 = .ok (.iload_n 1, 1) := by decide +kernel
theorem dX7_strike_26 : decode cX7_strike 26 = .ok (.iload_n 2, 1) := by decide +kernel
theorem dX7_strike_27 : decode cX7_strike 27 = .ok (.invokevirtual 87, 3) := by decide +kernel
theorem dX7_strike_30 : decode cX7_strike 30 = .ok (.ifCond .eq 6, 3) := by decide +kernel
theorem dX7_strike_33 : decode cX7_strike 33 = .ok (.bipush (-2), 2) := by decide +kernel
theorem dX7_strike_35 : decode cX7_strike 35 = .ok (.ireturn, 1) := by decide +kernel
theorem dX7_strike_36 : decode cX7_strike 36 = .ok (.aload_n 0, 1) := by decide +kernel
theorem dX7_strike_37 : decode cX7_strike 37 = .ok (.getfield 26, 3) := by decide +kernel
theorem dX7_strike_40 : decode cX7_strike 40 = .ok (.getfield 90, 3) := by decide +kernel
theorem dX7_strike_43 : decode cX7_strike 43 = .ok (.iload_n 1, 1) := by decide +kernel
theorem dX7_strike_44 : decode cX7_strike 44 = .ok (.iload_n 2, 1) := by decide +kernel
theorem dX7_strike_45 : decode cX7_strike 45 = .ok (.iastore, 1) := by decide +kernel
theorem dX7_strike_46 : decode cX7_strike 46 = .ok (.aload_n 0, 1) := by decide +kernel
theorem dX7_strike_47 : decode cX7_strike 47 = .ok (.getfield 35, 3) := by decide +kernel
theorem dX7_strike_50 : decode cX7_strike 50 = .ok (.iload_n 1, 1) := by decide +kernel
theorem dX7_strike_51 : decode cX7_strike 51 = .ok (.iload_n 2, 1) := by decide +kernel
theorem dX7_strike_52 : decode cX7_strike 52 = .ok (.invokevirtual 94, 3) := by decide +kernel
theorem dX7_strike_55 : decode cX7_strike 55 = .ok (.ireturn, 1) := by decide +kernel
set_option maxRecDepth 20000 in
theorem ggX7_travel_X7_isBelow : GoodIn wsX7_travel wsX7_isBelow := goodIn_r _ [5] (by decide +kernel) (by decide +kernel)
set_option maxRecDepth 20000 in
theorem gX7_travel_X7_isBelow : GoodIn wsX7_travel (va_wsS RX7 65 yX7_isBelow wsX7_isBelow) := goodIn_app (goodIn_of _ (by decide +kernel)) ggX7_travel_X7_isBelow
set_option maxRecDepth 20000 in
theorem ggX7_travel_X3_minutesBetween : GoodIn wsX7_travel wsX3_minutesBetween := goodIn_r _ [9, 10, 20, 21, 22, 23, 24, 25, 26, 27] (by decide +kernel) (by decide +kernel)
set_option maxRecDepth 20000 in
theorem gX7_travel_X3_minutesBetween_n98 : GoodIn wsX7_travel (wsX3_minutesBetween) := ggX7_travel_X3_minutesBetween
set_option maxRecDepth 20000 in
theorem ggX7_travel_X3_setMinutes : GoodIn wsX7_travel wsX3_setMinutes := goodIn_r _ [13, 10, 20, 21, 22, 23, 24, 25, 26, 27] (by decide +kernel) (by decide +kernel)
set_option maxRecDepth 20000 in
theorem gX7_travel_X3_setMinutes_n101 : GoodIn wsX7_travel (wsX3_setMinutes) := ggX7_travel_X3_setMinutes
theorem dX7_travel_0 : decode cX7_travel 0 = .ok (.iload_n 1, 1) := by decide +kernel
theorem dX7_travel_1 : decode cX7_travel 1 = .ok (.bipush 10, 2) := by decide +kernel
theorem dX7_travel_3 : decode cX7_travel 3 = .ok (.invokestatic 65, 3) := by decide +kernel
theorem dX7_travel_6 : decode cX7_travel 6 = .ok (.ifCond .eq 29, 3) := by decide +kernel
theorem dX7_travel_9 : decode cX7_travel 9 = .ok (.iload_n 2, 1) := by decide +kernel
theorem dX7_travel_10 : decode cX7_travel 10 = .ok (.bipush 10, 2) := by decide +kernel
theorem dX7_travel_12 : decode cX7_travel 12 = .ok (.invokestatic 65, 3) := by decide +kernel
theorem dX7_travel_15 : decode cX7_travel 15 = .ok (.ifCond .eq 20, 3) := by decide +kernel
theorem dX7_travel_18 : decode cX7_travel 18 = .ok (.iload_n 1, 1) := by decide +kernel
theorem dX7_travel_19 : decode cX7_travel 19 = .ok (.iload_n 2, 1) := by decide +kernel
theorem dX7_travel_20 : decode cX7_travel 20 = .ok (.if_icmp .eq 15, 3) := by decide +kernel
theorem dX7_travel_23 : decode cX7_travel 23 = .ok (.iload_n 3, 1) := by decide +kernel
theorem dX7_travel_24 : decode cX7_travel 24 = .ok (.iconst (-1), 1) := by decide +kernel
theorem dX7_travel_25 : decode cX7_travel 25 = .ok (.if_icmp .lt 10, 3) := by decide +kernel
theorem dX7_travel_28 : decode cX7_travel 28 = .ok (.iload_n 3, 1) := by decide +kernel
theorem dX7_travel_29 : decode cX7_travel 29 = .ok (.sipush 600, 3) := by decide +kernel
theorem dX7_travel_32 : decode cX7_travel 32 = .ok (.if_icmp .le 6, 3) := by decide +kernel
theorem dX7_travel_35 : decode cX7_travel 35 = .ok (.bipush (-2), 2) := by decide +kernel
theorem dX7_travel_37 : decode cX7_travel 37 = .ok (.ireturn, 1) := by decide +kernel
theorem dX7_travel_38 : decode cX7_travel 38 = .ok (.aload_n 0, 1) := by decide +kernel
theorem dX7_travel_39 : decode cX7_travel 39 = .ok (.getfield 26, 3) := by decide +kernel
theorem dX7_travel_42 : decode cX7_travel 42 = .ok (.iload_n 1, 1) := by decide +kernel
theorem dX7_travel_43 : decode cX7_travel 43 = .ok (.iload_n 2, 1) := by decide +kernel
theorem dX7_travel_44 : decode cX7_travel 44 = .ok (.invokevirtual 98, 3) := by decide +kernel
theorem dX7_travel_47 : decode cX7_travel 47 = .ok (.istore 4, 2) := by decide +kernel
theorem dX7_travel_49 : decode cX7_travel 49 = .ok (.aload_n 0, 1) := by decide +kernel
theorem dX7_travel_50 : decode cX7_travel 50 = .ok (.getfield 26, 3) := by decide +kernel
theorem dX7_travel_53 : decode cX7_travel 53 = .ok (.iload_n 1, 1) := by decide +kernel
theorem dX7_travel_54 : decode cX7_travel 54 = .ok (.iload_n 2, 1) := by decide +kernel
theorem dX7_travel_55 : decode cX7_travel 55 = .ok (.iload_n 3, 1) := by decide +kernel
theorem dX7_travel_56 : decode cX7_travel 56 = .ok (.invokevirtual 101, 3) := by decide +kernel
theorem dX7_travel_59 : decode cX7_travel 59 = .ok (.iload 4, 2) := by decide +kernel
theorem dX7_travel_61 : decode cX7_travel 61 = .ok (.ireturn, 1) := by decide +kernel
set_option maxRecDepth 20000 in
theorem ggX7_lawyer_X3_has : GoodIn wsX7_lawyer wsX3_has := goodIn_r _ [6, 7, 8, 9, 10, 17, 18, 19, 20, 21, 22, 23, 24] (by decide +kernel) (by decide +kernel)
set_option maxRecDepth 20000 in
theorem gX7_lawyer_X3_has_n76 : GoodIn wsX7_lawyer (wsX3_has) := ggX7_lawyer_X3_has
theorem dX7_lawyer_0 : decode cX7_lawyer 0 = .ok (.aload_n 0, 1) := by decide +kernel
theorem dX7_lawyer_1 : decode cX7_lawyer 1 = .ok (.getfield 26, 3) := by decide +kernel
theorem dX7_lawyer_4 : decode cX7_lawyer 4 = .ok (.iload_n 1, 1) := by decide +kernel
theorem dX7_lawyer_5 : decode cX7_lawyer 5 = .ok (.invokevirtual 76, 3) := by decide +kernel
theorem dX7_lawyer_8 : decode cX7_lawyer 8 = .ok (.ifCond .ne 5, 3) := by decide +kernel
theorem dX7_lawyer_11 : decode cX7_lawyer 11 = .ok (.iconst (-1), 1) := by decide +kernel
theorem dX7_lawyer_12 : decode cX7_lawyer 12 = .ok (.ireturn, 1) := by decide +kernel
theorem dX7_lawyer_13 : decode cX7_lawyer 13 = .ok (.iload_n 2, 1) := by decide +kernel
theorem dX7_lawyer_14 : decode cX7_lawyer 14 = .ok (.tableswitch 98 0 5 #[38, 48, 58, 68, 78, 88], 38) := by decide +kernel
theorem dX7_lawyer_52 : decode cX7_lawyer 52 = .ok (.aload_n 0, 1) := by decide +kernel
theorem dX7_lawyer_53 : decode cX7_lawyer 53 = .ok (.getfield 26, 3) := by decide +kernel
theorem dX7_lawyer_56 : decode cX7_lawyer 56 = .ok (.getfield 105, 3) := by decide +kernel
theorem dX7_lawyer_59 : decode cX7_lawyer 59 = .ok (.iload_n 1, 1) := by decide +kernel
theorem dX7_lawyer_60 : decode cX7_lawyer 60 = .ok (.iaload, 1) := by decide +kernel
theorem dX7_lawyer_61 : decode cX7_lawyer 61 = .ok (.ireturn, 1) := by decide +kernel
theorem dX7_lawyer_62 : decode cX7_lawyer 62 = .ok (.aload_n 0, 1) := by decide +kernel
theorem dX7_lawyer_63 : decode cX7_lawyer 63 = .ok (.getfield 26, 3) := by decide +kernel
theorem dX7_lawyer_66 : decode cX7_lawyer 66 = .ok (.getfield 108, 3) := by decide +kernel
theorem dX7_lawyer_69 : decode cX7_lawyer 69 = .ok (.iload_n 1, 1) := by decide +kernel
theorem dX7_lawyer_70 : decode cX7_lawyer 70 = .ok (.iaload, 1) := by decide +kernel
theorem dX7_lawyer_71 : decode cX7_lawyer 71 = .ok (.ireturn, 1) := by decide +kernel
theorem dX7_lawyer_72 : decode cX7_lawyer 72 = .ok (.aload_n 0, 1) := by decide +kernel
theorem dX7_lawyer_73 : decode cX7_lawyer 73 = .ok (.getfield 26, 3) := by decide +kernel
theorem dX7_lawyer_76 : decode cX7_lawyer 76 = .ok (.getfield 111, 3) := by decide +kernel
theorem dX7_lawyer_79 : decode cX7_lawyer 79 = .ok (.iload_n 1, 1) := by decide +kernel
theorem dX7_lawyer_80 : decode cX7_lawyer 80 = .ok (.iaload, 1) := by decide +kernel
theorem dX7_lawyer_81 : decode cX7_lawyer 81 = .ok (.ireturn, 1) := by decide +kernel
theorem dX7_lawyer_82 : decode cX7_lawyer 82 = .ok (.aload_n 0, 1) := by decide +kernel
theorem dX7_lawyer_83 : decode cX7_lawyer 83 = .ok (.getfield 26, 3) := by decide +kernel
theorem dX7_lawyer_86 : decode cX7_lawyer 86 = .ok (.getfield 90, 3) := by decide +kernel
theorem dX7_lawyer_89 : decode cX7_lawyer 89 = .ok (.iload_n 1, 1) := by decide +kernel
theorem dX7_lawyer_90 : decode cX7_lawyer 90 = .ok (.iaload, 1) := by decide +kernel
theorem dX7_lawyer_91 : decode cX7_lawyer 91 = .ok (.ireturn, 1) := by decide +kernel
theorem dX7_lawyer_92 : decode cX7_lawyer 92 = .ok (.aload_n 0, 1) := by decide +kernel
theorem dX7_lawyer_93 : decode cX7_lawyer 93 = .ok (.getfield 35, 3) := by decide +kernel
theorem dX7_lawyer_96 : decode cX7_lawyer 96 = .ok (.getfield 114, 3) := by decide +kernel
theorem dX7_lawyer_99 : decode cX7_lawyer 99 = .ok (.iload_n 1, 1) := by decide +kernel
theorem dX7_lawyer_100 : decode cX7_lawyer 100 = .ok (.iaload, 1) := by decide +kernel
theorem dX7_lawyer_101 : decode cX7_lawyer 101 = .ok (.ireturn, 1) := by decide +kernel
theorem dX7_lawyer_102 : decode cX7_lawyer 102 = .ok (.aload_n 0, 1) := by decide +kernel
theorem dX7_lawyer_103 : decode cX7_lawyer 103 = .ok (.getfield 26, 3) := by decide +kernel
theorem dX7_lawyer_106 : decode cX7_lawyer 106 = .ok (.getfield 117, 3) := by decide +kernel
theorem dX7_lawyer_109 : decode cX7_lawyer 109 = .ok (.iload_n 1, 1) := by decide +kernel
theorem dX7_lawyer_110 : decode cX7_lawyer 110 = .ok (.iaload, 1) := by decide +kernel
theorem dX7_lawyer_111 : decode cX7_lawyer 111 = .ok (.ireturn, 1) := by decide +kernel
theorem dX7_lawyer_112 : decode cX7_lawyer 112 = .ok (.iconst (-1), 1) := by decide +kernel
theorem dX7_lawyer_113 : decode cX7_lawyer 113 = .ok (.ireturn, 1) := by decide +kernel
set_option maxRecDepth 20000 in
theorem ggX7_edition_X7_isBelow : GoodIn wsX7_edition wsX7_isBelow := goodIn_r _ [6] (by decide +kernel) (by decide +kernel)
set_option maxRecDepth 20000 in
theorem gX7_edition_X7_isBelow : GoodIn wsX7_edition (va_wsS RX7 65 yX7_isBelow wsX7_isBelow) := goodIn_app (goodIn_of _ (by decide +kernel)) ggX7_edition_X7_isBelow
set_option maxRecDepth 20000 in
theorem ggX7_edition_X5_readTape : GoodIn wsX7_edition wsX5_readTape := goodIn_r _ [10, 11, 12, 13, 14, 15, 16, 17, 18, 19, 20, 21, 22, 23, 24, 25, 8, 26, 27, 28, 29, 30, 31, 32, 33, 34, 35, 36, 37, 38, 39, 40, 41, 42, 43, 44, 45, 46, 47, 48, 49, 50, 51, 52, 53, 54, 55, 56, 57, 58, 59, 60, 61, 62, 63, 64, 65, 66, 67, 68, 69, 70, 71, 72, 73, 74, 75, 76, 77, 78, 79, 80, 81, 82, 83, 84, 85, 86, 87, 88, 89, 90, 91, 92, 93, 94, 95, 96, 97, 98, 99, 100, 101, 102, 103, 104, 105, 106, 107, 108, 109, 110, 111, 112, 113, 114, 115, 116, 117, 5, 118, 119, 120, 121, 122, 123, 124, 125, 126, 127, 128, 129, 130, 131, 132, 133, 134, 135, 136, 137, 138, 139, 140, 141, 142, 143, 144, 145, 146, 147, 148, 149, 150, 151, 152, 153, 154, 168, 169, 170, 171, 172, 173, 174, 175, 176, 177, 178, 179] (by decide +kernel) (by decide +kernel)
set_option maxRecDepth 20000 in
theorem gX7_edition_X5_readTape_n120 : GoodIn wsX7_edition (wsX5_readTape) := ggX7_edition_X5_readTape
set_option maxRecDepth 20000 in
theorem ggX7_edition_X6_add : GoodIn wsX7_edition wsX6_add := goodIn_r _ [158, 159, 160, 161, 13, 14, 15, 180, 181] (by decide +kernel) (by decide +kernel)
set_option maxRecDepth 20000 in
theorem gX7_edition_X6_add_n128 : GoodIn wsX7_edition (wsX6_add) := ggX7_edition_X6_add
theorem dX7_edition_0 : decode cX7_edition 0 = .ok (.iload_n 1, 1) := by decide +kernel
theorem dX7_edition_1 : decode cX7_edition 1 = .ok (.sipush 1000, 3) := by decide +kernel
theorem dX7_edition_4 : decode cX7_edition 4 = .ok (.invokestatic 65, 3) := by decide +kernel
theorem dX7_edition_7 : decode cX7_edition 7 = .ok (.ifCond .ne 14, 3) := by decide +kernel
theorem dX7_edition_10 : decode cX7_edition 10 = .ok (.aload_n 0, 1) := by decide +kernel
theorem dX7_edition_11 : decode cX7_edition 11 = .ok (.getfield 10, 3) := by decide +kernel
theorem dX7_edition_14 : decode cX7_edition 14 = .ok (.iconst 0, 1) := by decide +kernel
theorem dX7_edition_15 : decode cX7_edition 15 = .ok (.putfield 57, 3) := by decide +kernel
theorem dX7_edition_18 : decode cX7_edition 18 = .ok (.bipush (-2), 2) := by decide +kernel
theorem dX7_edition_20 : decode cX7_edition 20 = .ok (.ireturn, 1) := by decide +kernel
theorem dX7_edition_21 : decode cX7_edition 21 = .ok (.aload_n 0, 1) := by decide +kernel
theorem dX7_edition_22 : decode cX7_edition 22 = .ok (.getfield 10, 3) := by decide +kernel
theorem dX7_edition_25 : decode cX7_edition 25 = .ok (.invokevirtual 120, 3) := by decide +kernel
theorem dX7_edition_28 : decode cX7_edition 28 = .ok (.ifCond .ne 5, 3) := by decide +kernel
theorem dX7_edition_31 : decode cX7_edition 31 = .ok (.iconst (-1), 1) := by decide +kernel
theorem dX7_edition_32 : decode cX7_edition 32 = .ok (.ireturn, 1) := by decide +kernel
theorem dX7_edition_33 : decode cX7_edition 33 = .ok (.aload_n 0, 1) := by decide +kernel
theorem dX7_edition_34 : decode cX7_edition 34 = .ok (.getfield 19, 3) := by decide +kernel
theorem dX7_edition_37 : decode cX7_edition 37 = .ok (.getfield 124, 3) := by decide +kernel
theorem dX7_edition_40 : decode cX7_edition 40 = .ok (.bipush 20, 2) := by decide +kernel
theorem dX7_edition_42 : decode cX7_edition 42 = .ok (.if_icmp .ge 21, 3) := by decide +kernel
theorem dX7_edition_45 : decode cX7_edition 45 = .ok (.aload_n 0, 1) := by decide +kernel
theorem dX7_edition_46 : decode cX7_edition 46 = .ok (.getfield 19, 3) := by decide +kernel
theorem dX7_edition_49 : decode cX7_edition 49 = .ok (.aload_n 0, 1) := by decide +kernel
theorem dX7_edition_50 : decode cX7_edition 50 = .ok (.getfield 10, 3) := by decide +kernel
theorem dX7_edition_53 : decode cX7_edition 53 = .ok (.getfield 125, 3) := by decide +kernel
theorem dX7_edition_56 : decode cX7_edition 56 = .ok (.iload_n 1, 1) := by decide +kernel
theorem dX7_edition_57 : decode cX7_edition 57 = .ok (.invokevirtual 128, 3) := by decide +kernel
theorem dX7_edition_60 : decode cX7_edition 60 = .ok (.goto 5, 3) := by decide +kernel
theorem dX7_edition_63 : decode cX7_edition 63 = .ok (.bipush (-3), 2) := by decide +kernel
theorem dX7_edition_65 : decode cX7_edition 65 = .ok (.ireturn, 1) := by decide +kernel
theorem dX7_fault_0 : decode cX7_fault 0 = .ok (.iload_n 1, 1) := by decide +kernel
theorem dX7_fault_1 : decode cX7_fault 1 = .ok (.ifCond .ne 11, 3) := by decide +kernel
theorem dX7_fault_4 : decode cX7_fault 4 = .ok (.aload_n 0, 1) := by decide +kernel
theorem dX7_fault_5 : decode cX7_fault 5 = .ok (.getfield 10, 3) := by decide +kernel
theorem dX7_fault_8 : decode cX7_fault 8 = .ok (.getfield 131, 3) := by decide +kernel
theorem dX7_fault_11 : decode cX7_fault 11 = .ok (.ireturn, 1) := by decide +kernel
theorem dX7_fault_12 : decode cX7_fault 12 = .ok (.iload_n 1, 1) := by decide +kernel
theorem dX7_fault_13 : decode cX7_fault 13 = .ok (.iconst 1, 1) := by decide +kernel
theorem dX7_fault_14 : decode cX7_fault 14 = .ok (.if_icmp .ne 13, 3) := by decide +kernel
theorem dX7_fault_17 : decode cX7_fault 17 = .ok (.aload_n 0, 1) := by decide +kernel
theorem dX7_fault_18 : decode cX7_fault 18 = .ok (.getfield 10, 3) := by decide +kernel
theorem dX7_fault_21 : decode cX7_fault 21 = .ok (.getfield 134, 3) := by decide +kernel
theorem dX7_fault_24 : decode cX7_fault 24 = .ok (.goto 4, 3) := by decide +kernel
theorem dX7_fault_27 : decode cX7_fault 27 = .ok (.iconst (-1), 1) := by decide +kernel
theorem dX7_fault_28 : decode cX7_fault 28 = .ok (.ireturn, 1) := by decide +kernel
set_option maxRecDepth 20000 in
theorem ggX7_inForce_X7_isBelow : GoodIn wsX7_inForce wsX7_isBelow := goodIn_r _ [5] (by decide +kernel) (by decide +kernel)
set_option maxRecDepth 20000 in
theorem gX7_inForce_X7_isBelow : GoodIn wsX7_inForce (va_wsS RX7 65 yX7_isBelow wsX7_isBelow) := goodIn_app (goodIn_of _ (by decide +kernel)) ggX7_inForce_X7_isBelow
set_option maxRecDepth 20000 in
theorem ggX7_inForce_X6_canKnow : GoodIn wsX7_inForce wsX6_canKnow := goodIn_r _ [9, 10, 21, 22] (by decide +kernel) (by decide +kernel)
set_option maxRecDepth 20000 in
theorem gX7_inForce_X6_canKnow_n137 : GoodIn wsX7_inForce (wsX6_canKnow) := ggX7_inForce_X6_canKnow
set_option maxRecDepth 20000 in
theorem ggX7_inForce_X6_numberInForce : GoodIn wsX7_inForce wsX6_numberInForce := goodIn_r _ [13, 10, 14, 21, 22] (by decide +kernel) (by decide +kernel)
set_option maxRecDepth 20000 in
theorem gX7_inForce_X6_numberInForce_n140 : GoodIn wsX7_inForce (wsX6_numberInForce) := ggX7_inForce_X6_numberInForce
theorem dX7_inForce_0 : decode cX7_inForce 0 = .ok (.iload_n 1, 1) := by decide +kernel
theorem dX7_inForce_1 : decode cX7_inForce 1 = .ok (.sipush 1000, 3) := by decide +kernel
theorem dX7_inForce_4 : decode cX7_inForce 4 = .ok (.invokestatic 65, 3) := by decide +kernel
theorem dX7_inForce_7 : decode cX7_inForce 7 = .ok (.ifCond .eq 14, 3) := by decide +kernel
theorem dX7_inForce_10 : decode cX7_inForce 10 = .ok (.aload_n 0, 1) := by decide +kernel
theorem dX7_inForce_11 : decode cX7_inForce 11 = .ok (.getfield 19, 3) := by decide +kernel
theorem dX7_inForce_14 : decode cX7_inForce 14 = .ok (.iload_n 2, 1) := by decide +kernel
theorem dX7_inForce_15 : decode cX7_inForce 15 = .ok (.invokevirtual 137, 3) := by decide +kernel
theorem dX7_inForce_18 : decode cX7_inForce 18 = .ok (.ifCond .ne 6, 3) := by decide +kernel
theorem dX7_inForce_21 : decode cX7_inForce 21 = .ok (.bipush (-2), 2) := by decide +kernel
theorem dX7_inForce_23 : decode cX7_inForce 23 = .ok (.ireturn, 1) := by decide +kernel
theorem dX7_inForce_24 : decode cX7_inForce 24 = .ok (.aload_n 0, 1) := by decide +kernel
theorem dX7_inForce_25 : decode cX7_inForce 25 = .ok (.getfield 19, 3) := by decide +kernel
theorem dX7_inForce_28 : decode cX7_inForce 28 = .ok (.iload_n 1, 1) := by decide +kernel
theorem dX7_inForce_29 : decode cX7_inForce 29 = .ok (.iload_n 2, 1) := by decide +kernel
theorem dX7_inForce_30 : decode cX7_inForce 30 = .ok (.invokevirtual 140, 3) := by decide +kernel
theorem dX7_inForce_33 : decode cX7_inForce 33 = .ok (.ireturn, 1) := by decide +kernel
set_option maxRecDepth 20000 in
theorem ggX7_rule_X7_isBelow : GoodIn wsX7_rule wsX7_isBelow := goodIn_r _ [5] (by decide +kernel) (by decide +kernel)
set_option maxRecDepth 20000 in
theorem gX7_rule_X7_isBelow : GoodIn wsX7_rule (va_wsS RX7 65 yX7_isBelow wsX7_isBelow) := goodIn_app (goodIn_of _ (by decide +kernel)) ggX7_rule_X7_isBelow
set_option maxRecDepth 20000 in
theorem ggX7_rule_X6_text : GoodIn wsX7_rule wsX6_text := goodIn_r _ [9, 10, 11, 18, 19] (by decide +kernel) (by decide +kernel)
set_option maxRecDepth 20000 in
theorem gX7_rule_X6_text_n143 : GoodIn wsX7_rule (wsX6_text) := ggX7_rule_X6_text
theorem dX7_rule_0 : decode cX7_rule 0 = .ok (.iload_n 2, 1) := by decide +kernel
theorem dX7_rule_1 : decode cX7_rule 1 = .ok (.bipush 12, 2) := by decide +kernel
theorem dX7_rule_3 : decode cX7_rule 3 = .ok (.invokestatic 65, 3) := by decide +kernel
theorem dX7_rule_6 : decode cX7_rule 6 = .ok (.ifCond .eq 19, 3) := by decide +kernel
theorem dX7_rule_9 : decode cX7_rule 9 = .ok (.iload_n 1, 1) := by decide +kernel
theorem dX7_rule_10 : decode cX7_rule 10 = .ok (.iconst (-1), 1) := by decide +kernel
theorem dX7_rule_11 : decode cX7_rule 11 = .ok (.if_icmp .lt 14, 3) := by decide +kernel
theorem dX7_rule_14 : decode cX7_rule 14 = .ok (.iload_n 1, 1) := by decide +kernel
theorem dX7_rule_15 : decode cX7_rule 15 = .ok (.aload_n 0, 1) := by decide +kernel
theorem dX7_rule_16 : decode cX7_rule 16 = .ok (.getfield 19, 3) := by decide +kernel
theorem dX7_rule_19 : decode cX7_rule 19 = .ok (.getfield 124, 3) := by decide +kernel
theorem dX7_rule_22 : decode cX7_rule 22 = .ok (.if_icmp .lt 6, 3) := by decide +kernel
theorem dX7_rule_25 : decode cX7_rule 25 = .ok (.bipush (-9), 2) := by decide +kernel
theorem dX7_rule_27 : decode cX7_rule 27 = .ok (.ireturn, 1) := by decide +kernel
theorem dX7_rule_28 : decode cX7_rule 28 = .ok (.aload_n 0, 1) := by decide +kernel
theorem dX7_rule_29 : decode cX7_rule 29 = .ok (.getfield 19, 3) := by decide +kernel
theorem dX7_rule_32 : decode cX7_rule 32 = .ok (.iload_n 1, 1) := by decide +kernel
theorem dX7_rule_33 : decode cX7_rule 33 = .ok (.invokevirtual 143, 3) := by decide +kernel
theorem dX7_rule_36 : decode cX7_rule 36 = .ok (.iload_n 2, 1) := by decide +kernel
theorem dX7_rule_37 : decode cX7_rule 37 = .ok (.iaload, 1) := by decide +kernel
theorem dX7_rule_38 : decode cX7_rule 38 = .ok (.ireturn, 1) := by decide +kernel
set_option maxRecDepth 20000 in
theorem ggX7_duty_X7_isBelow : GoodIn wsX7_duty wsX7_isBelow := goodIn_r _ [6] (by decide +kernel) (by decide +kernel)
set_option maxRecDepth 20000 in
theorem gX7_duty_X7_isBelow : GoodIn wsX7_duty (va_wsS RX7 65 yX7_isBelow wsX7_isBelow) := goodIn_app (goodIn_of _ (by decide +kernel)) ggX7_duty_X7_isBelow
set_option maxRecDepth 20000 in
theorem ggX7_duty_X3_has : GoodIn wsX7_duty wsX3_has := goodIn_r _ [10, 11, 4, 5, 6, 75, 76, 77, 78, 79, 80, 81, 82] (by decide +kernel) (by decide +kernel)
set_option maxRecDepth 20000 in
theorem gX7_duty_X3_has_n76 : GoodIn wsX7_duty (wsX3_has) := ggX7_duty_X3_has
set_option maxRecDepth 20000 in
theorem ggX7_duty_X2_holder : GoodIn wsX7_duty wsX2_holder := goodIn_r _ [15, 16, 83, 84, 85, 86, 87, 88] (by decide +kernel) (by decide +kernel)
set_option maxRecDepth 20000 in
theorem gX7_duty_X2_holder_n146 : GoodIn wsX7_duty (wsX2_holder) := ggX7_duty_X2_holder
set_option maxRecDepth 20000 in
theorem ggX7_duty_X2_put : GoodIn wsX7_duty wsX2_put := goodIn_r _ [19, 20, 21, 16, 22, 12, 14, 13, 15, 83, 84, 85, 86, 87, 88] (by decide +kernel) (by decide +kernel)
set_option maxRecDepth 20000 in
theorem gX7_duty_X2_put_n149 : GoodIn wsX7_duty (wsX2_put) := ggX7_duty_X2_put
set_option maxRecDepth 20000 in
theorem ggX7_duty_X2_mayHave : GoodIn wsX7_duty wsX2_mayHave := goodIn_r _ [25, 26, 27, 28, 8, 29, 30, 31, 32, 5, 33, 34, 35, 36, 37, 38, 39, 40, 41, 42, 43, 44, 45, 46, 47, 48, 49, 50, 51, 52, 53, 54, 55, 56, 57, 58, 59, 13, 60, 61, 62, 63, 64, 20, 65, 66, 67, 68, 21, 83, 84, 85, 86, 87, 88, 75, 76, 77, 78, 79, 80, 81, 82, 89, 90] (by decide +kernel) (by decide +kernel)
set_option maxRecDepth 20000 in
theorem gX7_duty_X2_mayHave_n152 : GoodIn wsX7_duty (wsX2_mayHave) := ggX7_duty_X2_mayHave
theorem dX7_duty_0 : decode cX7_duty 0 = .ok (.iload_n 1, 1) := by decide +kernel
theorem dX7_duty_1 : decode cX7_duty 1 = .ok (.bipush 6, 2) := by decide +kernel
theorem dX7_duty_3 : decode cX7_duty 3 = .ok (.invokestatic 65, 3) := by decide +kernel
theorem dX7_duty_6 : decode cX7_duty 6 = .ok (.ifCond .eq 29, 3) := by decide +kernel
theorem dX7_duty_9 : decode cX7_duty 9 = .ok (.iload_n 2, 1) := by decide +kernel
theorem dX7_duty_10 : decode cX7_duty 10 = .ok (.sipush 1000, 3) := by decide +kernel
theorem dX7_duty_13 : decode cX7_duty 13 = .ok (.invokestatic 65, 3) := by decide +kernel
theorem dX7_duty_16 : decode cX7_duty 16 = .ok (.ifCond .eq 19, 3) := by decide +kernel
theorem dX7_duty_19 : decode cX7_duty 19 = .ok (.iload_n 3, 1) := by decide +kernel
theorem dX7_duty_20 : decode cX7_duty 20 = .ok (.iconst (-1), 1) := by decide +kernel
theorem dX7_duty_21 : decode cX7_duty 21 = .ok (.if_icmp .eq 17, 3) := by decide +kernel
theorem dX7_duty_24 : decode cX7_duty 24 = .ok (.aload_n 0, 1) := by decide +kernel
theorem dX7_duty_25 : decode cX7_duty 25 = .ok (.getfield 26, 3) := by decide +kernel
theorem dX7_duty_28 : decode cX7_duty 28 = .ok (.iload_n 3, 1) := by decide +kernel
theorem dX7_duty_29 : decode cX7_duty 29 = .ok (.invokevirtual 76, 3) := by decide +kernel
theorem dX7_duty_32 : decode cX7_duty 32 = .ok (.ifCond .ne 6, 3) := by decide +kernel
theorem dX7_duty_35 : decode cX7_duty 35 = .ok (.bipush (-2), 2) := by decide +kernel
theorem dX7_duty_37 : decode cX7_duty 37 = .ok (.ireturn, 1) := by decide +kernel
theorem dX7_duty_38 : decode cX7_duty 38 = .ok (.aload_n 0, 1) := by decide +kernel
theorem dX7_duty_39 : decode cX7_duty 39 = .ok (.getfield 35, 3) := by decide +kernel
theorem dX7_duty_42 : decode cX7_duty 42 = .ok (.iload_n 1, 1) := by decide +kernel
theorem dX7_duty_43 : decode cX7_duty 43 = .ok (.iload_n 2, 1) := by decide +kernel
theorem dX7_duty_44 : decode cX7_duty 44 = .ok (.invokevirtual 146, 3) := by decide +kernel
theorem dX7_duty_47 : decode cX7_duty 47 = .ok (.istore 4, 2) := by decide +kernel
theorem dX7_duty_49 : decode cX7_duty 49 = .ok (.aload_n 0, 1) := by decide +kernel
theorem dX7_duty_50 : decode cX7_duty 50 = .ok (.getfield 35, 3) := by decide +kernel
theorem dX7_duty_53 : decode cX7_duty 53 = .ok (.iload_n 1, 1) := by decide +kernel
theorem dX7_duty_54 : decode cX7_duty 54 = .ok (.iload_n 2, 1) := by decide +kernel
theorem dX7_duty_55 : decode cX7_duty 55 = .ok (.iconst (-1), 1) := by decide +kernel
theorem dX7_duty_56 : decode cX7_duty 56 = .ok (.invokevirtual 149, 3) := by decide +kernel
theorem dX7_duty_59 : decode cX7_duty 59 = .ok (.iload_n 3, 1) := by decide +kernel
theorem dX7_duty_60 : decode cX7_duty 60 = .ok (.iconst (-1), 1) := by decide +kernel
theorem dX7_duty_61 : decode cX7_duty 61 = .ok (.if_icmp .eq 30, 3) := by decide +kernel
theorem dX7_duty_64 : decode cX7_duty 64 = .ok (.aload_n 0, 1) := by decide +kernel
theorem dX7_duty_65 : decode cX7_duty 65 = .ok (.getfield 35, 3) := by decide +kernel
theorem dX7_duty_68 : decode cX7_duty 68 = .ok (.iload_n 3, 1) := by decide +kernel
theorem dX7_duty_69 : decode cX7_duty 69 = .ok (.iload_n 1, 1) := by decide +kernel
theorem dX7_duty_70 : decode cX7_duty 70 = .ok (.iload_n 2, 1) := by decide +kernel
theorem dX7_duty_71 : decode cX7_duty 71 = .ok (.invokevirtual 152, 3) := by decide +kernel
theorem dX7_duty_74 : decode cX7_duty 74 = .ok (.ifCond .ne 17, 3) := by decide +kernel
theorem dX7_duty_77 : decode cX7_duty 77 = .ok (.aload_n 0, 1) := by decide +kernel
theorem dX7_duty_78 : decode cX7_duty 78 = .ok (.getfield 35, 3) := by decide +kernel
theorem dX7_duty_81 : decode cX7_duty 81 = .ok (.iload_n 1, 1) := by decide +kernel
theorem dX7_duty_82 : decode cX7_duty 82 = .ok (.iload_n 2, 1) := by decide +kernel
theorem dX7_duty_83 : decode cX7_duty 83 = .ok (.iload 4, 2) := by decide +kernel
theorem dX7_duty_85 : decode cX7_duty 85 = .ok (.invokevirtual 149, 3) := by decide +kernel
theorem dX7_duty_88 : decode cX7_duty 88 = .ok (.bipush (-4), 2) := by decide +kernel
theorem dX7_duty_90 : decode cX7_duty 90 = .ok (.ireturn, 1) := by decide +kernel
theorem dX7_duty_91 : decode cX7_duty 91 = .ok (.aload_n 0, 1) := by decide +kernel
theorem dX7_duty_92 : decode cX7_duty 92 = .ok (.getfield 35, 3) := by decide +kernel
theorem dX7_duty_95 : decode cX7_duty 95 = .ok (.iload_n 1, 1) := by decide +kernel
theorem dX7_duty_96 : decode cX7_duty 96 = .ok (.iload_n 2, 1) := by decide +kernel
theorem dX7_duty_97 : decode cX7_duty 97 = .ok (.iload_n 3, 1) := by decide +kernel
theorem dX7_duty_98 : decode cX7_duty 98 = .ok (.invokevirtual 149, 3) := by decide +kernel
theorem dX7_duty_101 : decode cX7_duty 101 = .ok (.iload 4, 2) := by decide +kernel
theorem dX7_duty_103 : decode cX7_duty 103 = .ok (.ireturn, 1) := by decide +kernel
set_option maxRecDepth 20000 in
theorem ggX7_onDuty_X7_isBelow : GoodIn wsX7_onDuty wsX7_isBelow := goodIn_r _ [5] (by decide +kernel) (by decide +kernel)
set_option maxRecDepth 20000 in
theorem gX7_onDuty_X7_isBelow : GoodIn wsX7_onDuty (va_wsS RX7 65 yX7_isBelow wsX7_isBelow) := goodIn_app (goodIn_of _ (by decide +kernel)) ggX7_onDuty_X7_isBelow
set_option maxRecDepth 20000 in
theorem ggX7_onDuty_X2_holder : GoodIn wsX7_onDuty wsX2_holder := goodIn_r _ [9, 10, 17, 18, 19, 20, 21, 22] (by decide +kernel) (by decide +kernel)
set_option maxRecDepth 20000 in
theorem gX7_onDuty_X2_holder_n146 : GoodIn wsX7_onDuty (wsX2_holder) := ggX7_onDuty_X2_holder
theorem dX7_onDuty_0 : decode cX7_onDuty 0 = .ok (.iload_n 1, 1) := by decide +kernel
theorem dX7_onDuty_1 : decode cX7_onDuty 1 = .ok (.bipush 6, 2) := by decide +kernel
theorem dX7_onDuty_3 : decode cX7_onDuty 3 = .ok (.invokestatic 65, 3) := by decide +kernel
theorem dX7_onDuty_6 : decode cX7_onDuty 6 = .ok (.ifCond .eq 13, 3) := by decide +kernel
theorem dX7_onDuty_9 : decode cX7_onDuty 9 = .ok (.iload_n 2, 1) := by decide +kernel
theorem dX7_onDuty_10 : decode cX7_onDuty 10 = .ok (.sipush 1000, 3) := by decide +kernel
theorem dX7_onDuty_13 : decode cX7_onDuty 13 = .ok (.invokestatic 65, 3) := by decide +kernel
theorem dX7_onDuty_16 : decode cX7_onDuty 16 = .ok (.ifCond .ne 6, 3) := by decide +kernel
theorem dX7_onDuty_19 : decode cX7_onDuty 19 = .ok (.bipush (-2), 2) := by decide +kernel
theorem dX7_onDuty_21 : decode cX7_onDuty 21 = .ok (.ireturn, 1) := by decide +kernel
theorem dX7_onDuty_22 : decode cX7_onDuty 22 = .ok (.aload_n 0, 1) := by decide +kernel
theorem dX7_onDuty_23 : decode cX7_onDuty 23 = .ok (.getfield 35, 3) := by decide +kernel
theorem dX7_onDuty_26 : decode cX7_onDuty 26 = .ok (.iload_n 1, 1) := by decide +kernel
theorem dX7_onDuty_27 : decode cX7_onDuty 27 = .ok (.iload_n 2, 1) := by decide +kernel
theorem dX7_onDuty_28 : decode cX7_onDuty 28 = .ok (.invokevirtual 146, 3) := by decide +kernel
theorem dX7_onDuty_31 : decode cX7_onDuty 31 = .ok (.ireturn, 1) := by decide +kernel
set_option maxRecDepth 20000 in
theorem ggX7_plan_X7_isBelow : GoodIn wsX7_plan wsX7_isBelow := goodIn_r _ [5] (by decide +kernel) (by decide +kernel)
set_option maxRecDepth 20000 in
theorem gX7_plan_X7_isBelow : GoodIn wsX7_plan (va_wsS RX7 65 yX7_isBelow wsX7_isBelow) := goodIn_app (goodIn_of _ (by decide +kernel)) ggX7_plan_X7_isBelow
set_option maxRecDepth 20000 in
theorem ggX7_plan_X4_makePlan : GoodIn wsX7_plan wsX4_makePlan := goodIn_r _ [9, 10, 11, 12, 13, 14, 7, 15, 16, 17, 18, 19, 20, 21, 4, 22, 23, 24, 25, 26, 27, 28, 29, 30, 31, 32, 33, 34, 35, 36, 37, 38, 39, 40, 41, 42, 43, 44, 45, 46, 47, 48, 49, 50, 51, 52, 53, 54, 55, 56, 57, 58, 59, 60, 61, 62, 63, 64, 65, 66, 67, 68, 69, 70, 71, 72, 73, 74, 75, 76, 77, 78, 79, 80, 81, 82, 83, 84, 85, 86, 87, 88, 89, 90, 91, 92, 93, 94, 95, 96, 97, 98, 99, 100, 101, 102, 103, 104, 105, 106, 107, 108, 109, 110, 111, 112, 113, 114, 115, 116, 117, 118, 119, 120, 121, 122, 123, 124, 125, 126, 127, 128, 3, 5, 135, 136, 137, 138, 139, 140, 141, 142, 143, 144, 145, 146, 147, 148, 149, 150, 151, 152, 153] (by decide +kernel) (by decide +kernel)
set_option maxRecDepth 20000 in
theorem gX7_plan_X4_makePlan_n156 : GoodIn wsX7_plan (wsX4_makePlan) := ggX7_plan_X4_makePlan
theorem dX7_plan_0 : decode cX7_plan 0 = .ok (.iload_n 1, 1) := by decide +kernel
theorem dX7_plan_1 : decode cX7_plan 1 = .ok (.bipush 6, 2) := by decide +kernel
theorem dX7_plan_3 : decode cX7_plan 3 = .ok (.invokestatic 65, 3) := by decide +kernel
theorem dX7_plan_6 : decode cX7_plan 6 = .ok (.ifCond .eq 32, 3) := by decide +kernel
theorem dX7_plan_9 : decode cX7_plan 9 = .ok (.iload_n 2, 1) := by decide +kernel
theorem dX7_plan_10 : decode cX7_plan 10 = .ok (.sipush 1000, 3) := by decide +kernel
theorem dX7_plan_13 : decode cX7_plan 13 = .ok (.invokestatic 65, 3) := by decide +kernel
theorem dX7_plan_16 : decode cX7_plan 16 = .ok (.ifCond .eq 22, 3) := by decide +kernel
theorem dX7_plan_19 : decode cX7_plan 19 = .ok (.iload_n 3, 1) := by decide +kernel
theorem dX7_plan_20 : decode cX7_plan 20 = .ok (.iconst 1, 1) := by decide +kernel
theorem dX7_plan_21 : decode cX7_plan 21 = .ok (.if_icmp .lt 17, 3) := by decide +kernel
theorem dX7_plan_24 : decode cX7_plan 24 = .ok (.iload_n 3, 1) := by decide +kernel
theorem dX7_plan_25 : decode cX7_plan 25 = .ok (.iconst 4, 1) := by decide +kernel
theorem dX7_plan_26 : decode cX7_plan 26 = .ok (.if_icmp .gt 12, 3) := by decide +kernel
theorem dX7_plan_29 : decode cX7_plan 29 = .ok (.iload_n 2, 1) := by decide +kernel
theorem dX7_plan_30 : decode cX7_plan 30 = .ok (.iload_n 3, 1) := by decide +kernel
theorem dX7_plan_31 : decode cX7_plan 31 = .ok (.iadd, 1) := by decide +kernel
theorem dX7_plan_32 : decode cX7_plan 32 = .ok (.sipush 1000, 3) := by decide +kernel
theorem dX7_plan_35 : decode cX7_plan 35 = .ok (.if_icmp .le 6, 3) := by decide +kernel
theorem dX7_plan_38 : decode cX7_plan 38 = .ok (.bipush (-2), 2) := by decide +kernel
theorem dX7_plan_40 : decode cX7_plan 40 = .ok (.ireturn, 1) := by decide +kernel
theorem dX7_plan_41 : decode cX7_plan 41 = .ok (.aload_n 0, 1) := by decide +kernel
theorem dX7_plan_42 : decode cX7_plan 42 = .ok (.getfield 44, 3) := by decide +kernel
theorem dX7_plan_45 : decode cX7_plan 45 = .ok (.iload_n 1, 1) := by decide +kernel
theorem dX7_plan_46 : decode cX7_plan 46 = .ok (.iload_n 2, 1) := by decide +kernel
theorem dX7_plan_47 : decode cX7_plan 47 = .ok (.iload_n 3, 1) := by decide +kernel
theorem dX7_plan_48 : decode cX7_plan 48 = .ok (.invokevirtual 156, 3) := by decide +kernel
theorem dX7_plan_51 : decode cX7_plan 51 = .ok (.ireturn, 1) := by decide +kernel
theorem dX7_uneven_0 : decode cX7_uneven 0 = .ok (.iconst 0, 1) := by decide +kernel
theorem dX7_uneven_1 : decode cX7_uneven 1 = .ok (.istore_n 1, 1) := by decide +kernel
theorem dX7_uneven_2 : decode cX7_uneven 2 = .ok (.iconst 0, 1) := by decide +kernel
theorem dX7_uneven_3 : decode cX7_uneven 3 = .ok (.istore_n 2, 1) := by decide +kernel
theorem dX7_uneven_4 : decode cX7_uneven 4 = .ok (.iload_n 2, 1) := by decide +kernel
theorem dX7_uneven_5 : decode cX7_uneven 5 = .ok (.aload_n 0, 1) := by decide +kernel
theorem dX7_uneven_6 : decode cX7_uneven 6 = .ok (.getfield 26, 3) := by decide +kernel
theorem dX7_uneven_9 : decode cX7_uneven 9 = .ok (.getfield 69, 3) := by decide +kernel
theorem dX7_uneven_12 : decode cX7_uneven 12 = .ok (.if_icmp .ge 31, 3) := by decide +kernel
theorem dX7_uneven_15 : decode cX7_uneven 15 = .ok (.iload_n 1, 1) := by decide +kernel
theorem dX7_uneven_16 : decode cX7_uneven 16 = .ok (.aload_n 0, 1) := by decide +kernel
theorem dX7_uneven_17 : decode cX7_uneven 17 = .ok (.getfield 35, 3) := by decide +kernel
theorem dX7_uneven_20 : decode cX7_uneven 20 = .ok (.getfield 114, 3) := by decide +kernel
theorem dX7_uneven_23 : decode cX7_uneven 23 = .ok (.iload_n 2, 1) := by decide +kernel
theorem dX7_uneven_24 : decode cX7_uneven 24 = .ok (.iaload, 1) := by decide +kernel
theorem dX7_uneven_25 : decode cX7_uneven 25 = .ok (.aload_n 0, 1) := by decide +kernel
theorem dX7_uneven_26 : decode cX7_uneven 26 = .ok (.getfield 35, 3) := by decide +kernel
theorem dX7_uneven_29 : decode cX7_uneven 29 = .ok (.getfield 114, 3) := by decide +kernel
theorem dX7_uneven_32 : decode cX7_uneven 32 = .ok (.iload_n 2, 1) := by decide +kernel
theorem dX7_uneven_33 : decode cX7_uneven 33 = .ok (.iaload, 1) := by decide +kernel
theorem dX7_uneven_34 : decode cX7_uneven 34 = .ok (.imul, 1) := by decide +kernel
theorem dX7_uneven_35 : decode cX7_uneven 35 = .ok (.iadd, 1) := by decide +kernel
theorem dX7_uneven_36 : decode cX7_uneven 36 = .ok (.istore_n 1, 1) := by decide +kernel
theorem dX7_uneven_37 : decode cX7_uneven 37 = .ok (.iinc 2 1, 3) := by decide +kernel
theorem dX7_uneven_40 : decode cX7_uneven 40 = .ok (.goto (-36), 3) := by decide +kernel
theorem dX7_uneven_43 : decode cX7_uneven 43 = .ok (.iload_n 1, 1) := by decide +kernel
theorem dX7_uneven_44 : decode cX7_uneven 44 = .ok (.ireturn, 1) := by decide +kernel
set_option maxRecDepth 20000 in
theorem ggX7_against_X3_has : GoodIn wsX7_against wsX3_has := goodIn_r _ [6, 7, 8, 9, 10, 25, 26, 27, 28, 29, 30, 31, 32] (by decide +kernel) (by decide +kernel)
set_option maxRecDepth 20000 in
theorem gX7_against_X3_has_n76 : GoodIn wsX7_against (wsX3_has) := ggX7_against_X3_has
set_option maxRecDepth 20000 in
theorem ggX7_against_X7_isBelow : GoodIn wsX7_against wsX7_isBelow := goodIn_r _ [10] (by decide +kernel) (by decide +kernel)
set_option maxRecDepth 20000 in
theorem gX7_against_X7_isBelow : GoodIn wsX7_against (va_wsS RX7 65 yX7_isBelow wsX7_isBelow) := goodIn_app (goodIn_of _ (by decide +kernel)) ggX7_against_X7_isBelow
theorem dX7_against_0 : decode cX7_against 0 = .ok (.aload_n 0, 1) := by decide +kernel
theorem dX7_against_1 : decode cX7_against 1 = .ok (.getfield 26, 3) := by decide +kernel
theorem dX7_against_4 : decode cX7_against 4 = .ok (.iload_n 1, 1) := by decide +kernel
theorem dX7_against_5 : decode cX7_against 5 = .ok (.invokevirtual 76, 3) := by decide +kernel
theorem dX7_against_8 : decode cX7_against 8 = .ok (.ifCond .eq 12, 3) := by decide +kernel
theorem dX7_against_11 : decode cX7_against 11 = .ok (.iload_n 2, 1) := by decide +kernel
theorem dX7_against_12 : decode cX7_against 12 = .ok (.bipush 100, 2) := by decide +kernel
theorem dX7_against_14 : decode cX7_against 14 = .ok (.invokestatic 65, 3) := by decide +kernel
theorem dX7_against_17 : decode cX7_against 17 = .ok (.ifCond .ne 6, 3) := by decide +kernel
theorem dX7_against_20 : decode cX7_against 20 = .ok (.bipush (-2), 2) := by decide +kernel
theorem dX7_against_22 : decode cX7_against 22 = .ok (.ireturn, 1) := by decide +kernel
theorem dX7_against_23 : decode cX7_against 23 = .ok (.aload_n 0, 1) := by decide +kernel
theorem dX7_against_24 : decode cX7_against 24 = .ok (.getfield 53, 3) := by decide +kernel
theorem dX7_against_27 : decode cX7_against 27 = .ok (.getfield 159, 3) := by decide +kernel
theorem dX7_against_30 : decode cX7_against 30 = .ok (.iload_n 2, 1) := by decide +kernel
theorem dX7_against_31 : decode cX7_against 31 = .ok (.iaload, 1) := by decide +kernel
theorem dX7_against_32 : decode cX7_against 32 = .ok (.istore_n 3, 1) := by decide +kernel
theorem dX7_against_33 : decode cX7_against 33 = .ok (.aload_n 0, 1) := by decide +kernel
theorem dX7_against_34 : decode cX7_against 34 = .ok (.getfield 53, 3) := by decide +kernel
theorem dX7_against_37 : decode cX7_against 37 = .ok (.getfield 159, 3) := by decide +kernel
theorem dX7_against_40 : decode cX7_against 40 = .ok (.iload_n 2, 1) := by decide +kernel
theorem dX7_against_41 : decode cX7_against 41 = .ok (.iload_n 3, 1) := by decide +kernel
theorem dX7_against_42 : decode cX7_against 42 = .ok (.iconst 1, 1) := by decide +kernel
theorem dX7_against_43 : decode cX7_against 43 = .ok (.iload_n 1, 1) := by decide +kernel
theorem dX7_against_44 : decode cX7_against 44 = .ok (.ishl, 1) := by decide +kernel
theorem dX7_against_45 : decode cX7_against 45 = .ok (.ior, 1) := by decide +kernel
theorem dX7_against_46 : decode cX7_against 46 = .ok (.iastore, 1) := by decide +kernel
theorem dX7_against_47 : decode cX7_against 47 = .ok (.aload_n 0, 1) := by decide +kernel
theorem dX7_against_48 : decode cX7_against 48 = .ok (.getfield 53, 3) := by decide +kernel
theorem dX7_against_51 : decode cX7_against 51 = .ok (.getfield 159, 3) := by decide +kernel
theorem dX7_against_54 : decode cX7_against 54 = .ok (.iload_n 2, 1) := by decide +kernel
theorem dX7_against_55 : decode cX7_against 55 = .ok (.iaload, 1) := by decide +kernel
theorem dX7_against_56 : decode cX7_against 56 = .ok (.iload_n 3, 1) := by decide +kernel
theorem dX7_against_57 : decode cX7_against 57 = .ok (.if_icmp .ne 7, 3) := by decide +kernel
theorem dX7_against_60 : decode cX7_against 60 = .ok (.iconst 0, 1) := by decide +kernel
theorem dX7_against_61 : decode cX7_against 61 = .ok (.goto 4, 3) := by decide +kernel
theorem dX7_against_64 : decode cX7_against 64 = .ok (.iconst 1, 1) := by decide +kernel
theorem dX7_against_65 : decode cX7_against 65 = .ok (.ireturn, 1) := by decide +kernel
set_option maxRecDepth 20000 in
theorem ggX7_waive_X7_isBelow : GoodIn wsX7_waive wsX7_isBelow := goodIn_r _ [5] (by decide +kernel) (by decide +kernel)
set_option maxRecDepth 20000 in
theorem gX7_waive_X7_isBelow : GoodIn wsX7_waive (va_wsS RX7 65 yX7_isBelow wsX7_isBelow) := goodIn_app (goodIn_of _ (by decide +kernel)) ggX7_waive_X7_isBelow
theorem dX7_waive_0 : decode cX7_waive 0 = .ok (.iload_n 1, 1) := by decide +kernel
theorem dX7_waive_1 : decode cX7_waive 1 = .ok (.bipush 100, 2) := by decide +kernel
theorem dX7_waive_3 : decode cX7_waive 3 = .ok (.invokestatic 65, 3) := by decide +kernel
theorem dX7_waive_6 : decode cX7_waive 6 = .ok (.ifCond .eq 12, 3) := by decide +kernel
theorem dX7_waive_9 : decode cX7_waive 9 = .ok (.iload_n 2, 1) := by decide +kernel
theorem dX7_waive_10 : decode cX7_waive 10 = .ok (.bipush 10, 2) := by decide +kernel
theorem dX7_waive_12 : decode cX7_waive 12 = .ok (.invokestatic 65, 3) := by decide +kernel
theorem dX7_waive_15 : decode cX7_waive 15 = .ok (.ifCond .ne 6, 3) := by decide +kernel
theorem dX7_waive_18 : decode cX7_waive 18 = .ok (.bipush (-2), 2) := by decide +kernel
theorem dX7_waive_20 : decode cX7_waive 20 = .ok (.ireturn, 1) := by decide +kernel
theorem dX7_waive_21 : decode cX7_waive 21 = .ok (.aload_n 0, 1) := by decide +kernel
theorem dX7_waive_22 : decode cX7_waive 22 = .ok (.getfield 53, 3) := by decide +kernel
theorem dX7_waive_25 : decode cX7_waive 25 = .ok (.getfield 162, 3) := by decide +kernel
theorem dX7_waive_28 : decode cX7_waive 28 = .ok (.iload_n 1, 1) := by decide +kernel
theorem dX7_waive_29 : decode cX7_waive 29 = .ok (.iaload, 1) := by decide +kernel
theorem dX7_waive_30 : decode cX7_waive 30 = .ok (.istore_n 3, 1) := by decide +kernel
theorem dX7_waive_31 : decode cX7_waive 31 = .ok (.aload_n 0, 1) := by decide +kernel
theorem dX7_waive_32 : decode cX7_waive 32 = .ok (.getfield 53, 3) := by decide +kernel
theorem dX7_waive_35 : decode cX7_waive 35 = .ok (.getfield 162, 3) := by decide +kernel
theorem dX7_waive_38 : decode cX7_waive 38 = .ok (.iload_n 1, 1) := by decide +kernel
theorem dX7_waive_39 : decode cX7_waive 39 = .ok (.iload_n 3, 1) := by decide +kernel
theorem dX7_waive_40 : decode cX7_waive 40 = .ok (.iconst 1, 1) := by decide +kernel
theorem dX7_waive_41 : decode cX7_waive 41 = .ok (.iload_n 2, 1) := by decide +kernel
theorem dX7_waive_42 : decode cX7_waive 42 = .ok (.ishl, 1) := by decide +kernel
theorem dX7_waive_43 : decode cX7_waive 43 = .ok (.ior, 1) := by decide +kernel
theorem dX7_waive_44 : decode cX7_waive 44 = .ok (.iastore, 1) := by decide +kernel
theorem dX7_waive_45 : decode cX7_waive 45 = .ok (.aload_n 0, 1) := by decide +kernel
theorem dX7_waive_46 : decode cX7_waive 46 = .ok (.getfield 53, 3) := by decide +kernel
theorem dX7_waive_49 : decode cX7_waive 49 = .ok (.getfield 162, 3) := by decide +kernel
theorem dX7_waive_52 : decode cX7_waive 52 = .ok (.iload_n 1, 1) := by decide +kernel
theorem dX7_waive_53 : decode cX7_waive 53 = .ok (.iaload, 1) := by decide +kernel
theorem dX7_waive_54 : decode cX7_waive 54 = .ok (.iload_n 3, 1) := by decide +kernel
theorem dX7_waive_55 : decode cX7_waive 55 = .ok (.if_icmp .ne 7, 3) := by decide +kernel
theorem dX7_waive_58 : decode cX7_waive 58 = .ok (.iconst 0, 1) := by decide +kernel
theorem dX7_waive_59 : decode cX7_waive 59 = .ok (.goto 4, 3) := by decide +kernel
theorem dX7_waive_62 : decode cX7_waive 62 = .ok (.iconst 1, 1) := by decide +kernel
theorem dX7_waive_63 : decode cX7_waive 63 = .ok (.ireturn, 1) := by decide +kernel
set_option maxRecDepth 20000 in
theorem ggX7_call_X7_isBelow : GoodIn wsX7_call wsX7_isBelow := goodIn_r _ [8] (by decide +kernel) (by decide +kernel)
set_option maxRecDepth 20000 in
theorem gX7_call_X7_isBelow : GoodIn wsX7_call (va_wsS RX7 65 yX7_isBelow wsX7_isBelow) := goodIn_app (goodIn_of _ (by decide +kernel)) ggX7_call_X7_isBelow
set_option maxRecDepth 20000 in
theorem ggX7_call_X1_latestDay : GoodIn wsX7_call wsX1_latestDay := goodIn_r _ [12, 13, 14, 141, 142, 143, 144, 145, 146, 147, 148, 149, 150, 151, 152, 153, 154, 155, 156, 157, 158, 159, 160, 161, 162] (by decide +kernel) (by decide +kernel)
set_option maxRecDepth 20000 in
theorem gX7_call_X1_latestDay_n165 : GoodIn wsX7_call (wsX1_latestDay) := ggX7_call_X1_latestDay
set_option maxRecDepth 20000 in
theorem ggX7_call_X0_init : GoodIn wsX7_call wsX0_init := goodIn_r _ [16, 17, 18, 19, 20, 21, 22, 23, 24, 25, 26, 27, 28, 148, 149, 150, 151, 152, 153, 154, 155, 156, 157, 158, 159, 160, 161, 162] (by decide +kernel) (by decide +kernel)
set_option maxRecDepth 20000 in
theorem gX7_call_X0_init_n172 : GoodIn wsX7_call (wsX0_init) := ggX7_call_X0_init
set_option maxRecDepth 20000 in
theorem ggX7_call_X1_add : GoodIn wsX7_call wsX1_add := goodIn_r _ [31, 14, 13, 141, 142, 143, 144, 145, 146, 147] (by decide +kernel) (by decide +kernel)
set_option maxRecDepth 20000 in
theorem gX7_call_X1_add_n175 : GoodIn wsX7_call (wsX1_add) := ggX7_call_X1_add
set_option maxRecDepth 20000 in
theorem ggX7_call_X1_askNext : GoodIn wsX7_call wsX1_askNext := goodIn_r _ [34, 14, 35, 36, 37, 10, 38, 39, 40, 41, 42, 43, 44, 45, 46, 47, 48, 49, 50, 51, 52, 53, 54, 55, 56, 57, 58, 59, 60, 7, 61, 62, 63, 64, 65, 66, 67, 68, 69, 70, 71, 72, 73, 74, 75, 76, 77, 78, 79, 80, 81, 82, 83, 84, 85, 86, 87, 88, 89, 90, 91, 92, 93, 94, 95, 96, 97, 98, 99, 100, 101, 13, 102, 4, 103, 104, 27, 28, 105, 106, 107, 108, 109, 110, 111, 112, 113, 114, 115, 116, 117, 118, 119, 120, 121, 122, 123, 124, 125, 126, 127, 128, 129, 130, 131, 132, 133, 134, 141, 142, 143, 144, 145, 146, 147, 148, 149, 150, 151, 152, 153, 154, 155, 156, 157, 158, 159, 160, 161, 162, 163, 164, 165, 166, 167, 168, 169, 170, 171, 172, 173, 174, 175, 176, 177, 178] (by decide +kernel) (by decide +kernel)
set_option maxRecDepth 20000 in
theorem gX7_call_X1_askNext_n178 : GoodIn wsX7_call (wsX1_askNext) := ggX7_call_X1_askNext
theorem dX7_call_0 : decode cX7_call 0 = .ok (.iload_n 1, 1) := by decide +kernel
theorem dX7_call_1 : decode cX7_call 1 = .ok (.sipush 1000, 3) := by decide +kernel
theorem dX7_call_4 : decode cX7_call 4 = .ok (.invokestatic 65, 3) := by decide +kernel
theorem dX7_call_7 : decode cX7_call 7 = .ok (.ifCond .eq 24, 3) := by decide +kernel
theorem dX7_call_10 : decode cX7_call 10 = .ok (.iload_n 2, 1) := by decide +kernel
theorem dX7_call_11 : decode cX7_call 11 = .ok (.sipush 1440, 3) := by decide +kernel
theorem dX7_call_14 : decode cX7_call 14 = .ok (.invokestatic 65, 3) := by decide +kernel
theorem dX7_call_17 : decode cX7_call 17 = .ok (.ifCond .eq 14, 3) := by decide +kernel
theorem dX7_call_20 : decode cX7_call 20 = .ok (.iload_n 1, 1) := by decide +kernel
theorem dX7_call_21 : decode cX7_call 21 = .ok (.aload_n 0, 1) := by decide +kernel
theorem dX7_call_22 : decode cX7_call 22 = .ok (.getfield 53, 3) := by decide +kernel
theorem dX7_call_25 : decode cX7_call 25 = .ok (.invokevirtual 165, 3) := by decide +kernel
theorem dX7_call_28 : decode cX7_call 28 = .ok (.if_icmp .ge 6, 3) := by decide +kernel
theorem dX7_call_31 : decode cX7_call 31 = .ok (.bipush (-2), 2) := by decide +kernel
theorem dX7_call_33 : decode cX7_call 33 = .ok (.ireturn, 1) := by decide +kernel
theorem dX7_call_34 : decode cX7_call 34 = .ok (.iload_n 3, 1) := by decide +kernel
theorem dX7_call_35 : decode cX7_call 35 = .ok (.bipush 6, 2) := by decide +kernel
theorem dX7_call_37 : decode cX7_call 37 = .ok (.invokestatic 65, 3) := by decide +kernel
theorem dX7_call_40 : decode cX7_call 40 = .ok (.ifCond .eq 29, 3) := by decide +kernel
theorem dX7_call_43 : decode cX7_call 43 = .ok (.iload 4, 2) := by decide +kernel
theorem dX7_call_45 : decode cX7_call 45 = .ok (.bipush 10, 2) := by decide +kernel
theorem dX7_call_47 : decode cX7_call 47 = .ok (.invokestatic 65, 3) := by decide +kernel
theorem dX7_call_50 : decode cX7_call 50 = .ok (.ifCond .eq 19, 3) := by decide +kernel
theorem dX7_call_53 : decode cX7_call 53 = .ok (.iload 5, 2) := by decide +kernel
theorem dX7_call_55 : decode cX7_call 55 = .ok (.iconst (-1), 1) := by decide +kernel
theorem dX7_call_56 : decode cX7_call 56 = .ok (.if_icmp .eq 16, 3) := by decide +kernel
theorem dX7_call_59 : decode cX7_call 59 = .ok (.iload 5, 2) := by decide +kernel
theorem dX7_call_61 : decode cX7_call 61 = .ok (.bipush 8, 2) := by decide +kernel
theorem dX7_call_63 : decode cX7_call 63 = .ok (.invokestatic 65, 3) := by decide +kernel
theorem dX7_call_66 : decode cX7_call 66 = .ok (.ifCond .ne 6, 3) := by decide +kernel
theorem dX7_call_69 : decode cX7_call 69 = .ok (.bipush (-2), 2) := by decide +kernel
theorem dX7_call_71 : decode cX7_call 71 = .ok (.ireturn, 1) := by decide +kernel
theorem dX7_call_72 : decode cX7_call 72 = .ok (.iload 6, 2) := by decide +kernel
theorem dX7_call_74 : decode cX7_call 74 = .ok (.bipush 100, 2) := by decide +kernel
theorem dX7_call_76 : decode cX7_call 76 = .ok (.invokestatic 65, 3) := by decide +kernel
theorem dX7_call_79 : decode cX7_call 79 = .ok (.ifCond .eq 13, 3) := by decide +kernel
theorem dX7_call_82 : decode cX7_call 82 = .ok (.iload 7, 2) := by decide +kernel
theorem dX7_call_84 : decode cX7_call 84 = .ok (.bipush 10, 2) := by decide +kernel
theorem dX7_call_86 : decode cX7_call 86 = .ok (.invokestatic 65, 3) := by decide +kernel
theorem dX7_call_89 : decode cX7_call 89 = .ok (.ifCond .ne 6, 3) := by decide +kernel
theorem dX7_call_92 : decode cX7_call 92 = .ok (.bipush (-2), 2) := by decide +kernel
theorem dX7_call_94 : decode cX7_call 94 = .ok (.ireturn, 1) := by decide +kernel
theorem dX7_call_95 : decode cX7_call 95 = .ok (.aload_n 0, 1) := by decide +kernel
theorem dX7_call_96 : decode cX7_call 96 = .ok (.getfield 53, 3) := by decide +kernel
theorem dX7_call_99 : decode cX7_call 99 = .ok (.getfield 169, 3) := by decide +kernel
theorem dX7_call_102 : decode cX7_call 102 = .ok (.sipush 150, 3) := by decide +kernel
theorem dX7_call_105 : decode cX7_call 105 = .ok (.if_icmp .lt 6, 3) := by decide +kernel
theorem dX7_call_108 : decode cX7_call 108 = .ok (.bipush (-3), 2) := by decide +kernel
theorem dX7_call_110 : decode cX7_call 110 = .ok (.ireturn, 1) := by decide +kernel
theorem dX7_call_111 : decode cX7_call 111 = .ok (.aload_n 0, 1) := by decide +kernel
theorem dX7_call_112 : decode cX7_call 112 = .ok (.getfield 53, 3) := by decide +kernel
theorem dX7_call_115 : decode cX7_call 115 = .ok (.new 170, 3) := by decide +kernel
theorem dX7_call_118 : decode cX7_call 118 = .ok (.dup, 1) := by decide +kernel
theorem dX7_call_119 : decode cX7_call 119 = .ok (.iload_n 1, 1) := by decide +kernel
theorem dX7_call_120 : decode cX7_call 120 = .ok (.iload_n 3, 1) := by decide +kernel
theorem dX7_call_121 : decode cX7_call 121 = .ok (.iload 4, 2) := by decide +kernel
theorem dX7_call_123 : decode cX7_call 123 = .ok (.iload 5, 2) := by decide +kernel
theorem dX7_call_125 : decode cX7_call 125 = .ok (.iload 6, 2) := by decide +kernel
theorem dX7_call_127 : decode cX7_call 127 = .ok (.iload 7, 2) := by decide +kernel
theorem dX7_call_129 : decode cX7_call 129 = .ok (.invokespecial 172, 3) := by decide +kernel
theorem dX7_call_132 : decode cX7_call 132 = .ok (.invokevirtual 175, 3) := by decide +kernel
theorem dX7_call_135 : decode cX7_call 135 = .ok (.istore 8, 2) := by decide +kernel
theorem dX7_call_137 : decode cX7_call 137 = .ok (.aload_n 0, 1) := by decide +kernel
theorem dX7_call_138 : decode cX7_call 138 = .ok (.getfield 53, 3) := by decide +kernel
theorem dX7_call_141 : decode cX7_call 141 = .ok (.iload 8, 2) := by decide +kernel
theorem dX7_call_143 : decode cX7_call 143 = .ok (.invokevirtual 178, 3) := by decide +kernel
theorem dX7_call_146 : decode cX7_call 146 = .ok (.pop, 1) := by decide +kernel
theorem dX7_call_147 : decode cX7_call 147 = .ok (.iload 8, 2) := by decide +kernel
theorem dX7_call_149 : decode cX7_call 149 = .ok (.ireturn, 1) := by decide +kernel
set_option maxRecDepth 20000 in
theorem ggX7_asked_X1_has : GoodIn wsX7_asked wsX1_has := goodIn_r _ [5, 6, 7, 8, 9, 35, 36, 37, 38, 39, 40, 41] (by decide +kernel) (by decide +kernel)
set_option maxRecDepth 20000 in
theorem gX7_asked_X1_has_n182 : GoodIn wsX7_asked (wsX1_has) := ggX7_asked_X1_has
set_option maxRecDepth 20000 in
theorem ggX7_asked_X1_get : GoodIn wsX7_asked wsX1_get := goodIn_r _ [12, 13, 35, 36, 37, 38, 39, 40, 41] (by decide +kernel) (by decide +kernel)
set_option maxRecDepth 20000 in
theorem gX7_asked_X1_get_n183 : GoodIn wsX7_asked (wsX1_get) := ggX7_asked_X1_get
theorem dX7_asked_0 : decode cX7_asked 0 = .ok (.aload_n 0, 1) := by decide +kernel
theorem dX7_asked_1 : decode cX7_asked 1 = .ok (.getfield 53, 3) := by decide +kernel
theorem dX7_asked_4 : decode cX7_asked 4 = .ok (.iload_n 1, 1) := by decide +kernel
theorem dX7_asked_5 : decode cX7_asked 5 = .ok (.invokevirtual 182, 3) := by decide +kernel
theorem dX7_asked_8 : decode cX7_asked 8 = .ok (.ifCond .eq 17, 3) := by decide +kernel
theorem dX7_asked_11 : decode cX7_asked 11 = .ok (.aload_n 0, 1) := by decide +kernel
theorem dX7_asked_12 : decode cX7_asked 12 = .ok (.getfield 53, 3) := by decide +kernel
theorem dX7_asked_15 : decode cX7_asked 15 = .ok (.iload_n 1, 1) := by decide +kernel
theorem dX7_asked_16 : decode cX7_asked 16 = .ok (.invokevirtual 183, 3) := by decide +kernel
theorem dX7_asked_19 : decode cX7_asked 19 = .ok (.getfield 187, 3) := by decide +kernel
theorem dX7_asked_22 : decode cX7_asked 22 = .ok (.goto 5, 3) := by decide +kernel
theorem dX7_asked_25 : decode cX7_asked 25 = .ok (.bipush (-2), 2) := by decide +kernel
theorem dX7_asked_27 : decode cX7_asked 27 = .ok (.ireturn, 1) := by decide +kernel
set_option maxRecDepth 20000 in
theorem ggX7_answer_X1_has : GoodIn wsX7_answer wsX1_has := goodIn_r _ [5, 6, 7, 8, 9, 148, 149, 150, 151, 152, 153, 154] (by decide +kernel) (by decide +kernel)
set_option maxRecDepth 20000 in
theorem gX7_answer_X1_has_n182 : GoodIn wsX7_answer (wsX1_has) := ggX7_answer_X1_has
set_option maxRecDepth 20000 in
theorem ggX7_answer_X1_get : GoodIn wsX7_answer wsX1_get := goodIn_r _ [12, 13, 148, 149, 150, 151, 152, 153, 154] (by decide +kernel) (by decide +kernel)
set_option maxRecDepth 20000 in
theorem gX7_answer_X1_get_n183 : GoodIn wsX7_answer (wsX1_get) := ggX7_answer_X1_get
set_option maxRecDepth 20000 in
theorem ggX7_answer_X1_take : GoodIn wsX7_answer wsX1_take := goodIn_r _ [16, 13, 17, 18, 19, 20, 21, 22, 23, 24, 25, 26, 3, 27, 28, 29, 30, 31, 32, 33, 34, 35, 36, 37, 38, 39, 40, 41, 42, 43, 44, 45, 46, 47, 48, 49, 50, 51, 148, 149, 150, 151, 152, 153, 154, 133, 134, 135, 136, 137, 138, 139, 140, 141, 142, 143, 144, 145, 146, 147, 155, 156, 157, 158, 159, 160, 161, 162, 163, 164, 165, 166, 167, 168, 169, 170] (by decide +kernel) (by decide +kernel)
set_option maxRecDepth 20000 in
theorem gX7_answer_X1_take_n193 : GoodIn wsX7_answer (wsX1_take) := ggX7_answer_X1_take
set_option maxRecDepth 20000 in
theorem ggX7_answer_X1_askNext : GoodIn wsX7_answer wsX1_askNext := goodIn_r _ [54, 13, 55, 56, 57, 3, 58, 21, 22, 33, 34, 35, 36, 37, 38, 39, 40, 41, 42, 43, 44, 45, 46, 59, 60, 61, 62, 23, 63, 8, 64, 65, 66, 67, 68, 69, 29, 70, 71, 72, 73, 74, 75, 76, 77, 78, 79, 80, 81, 82, 83, 84, 85, 24, 25, 26, 27, 28, 30, 31, 32, 86, 87, 88, 89, 90, 91, 92, 93, 94, 95, 6, 96, 97, 98, 99, 100, 101, 102, 103, 104, 105, 106, 107, 108, 47, 48, 49, 50, 51, 109, 110, 111, 112, 113, 114, 115, 116, 117, 118, 119, 120, 121, 122, 123, 124, 125, 126, 148, 149, 150, 151, 152, 153, 154, 133, 134, 135, 136, 137, 138, 139, 140, 141, 142, 143, 144, 145, 146, 147, 163, 164, 155, 156, 157, 158, 159, 160, 161, 162, 165, 166, 167, 168, 169, 170] (by decide +kernel) (by decide +kernel)
set_option maxRecDepth 20000 in
theorem gX7_answer_X1_askNext_n178 : GoodIn wsX7_answer (wsX1_askNext) := ggX7_answer_X1_askNext
theorem dX7_answer_0 : decode cX7_answer 0 = .ok (.aload_n 0, 1) := by decide +kernel
theorem dX7_answer_1 : decode cX7_answer 1 = .ok (.getfield 53, 3) := by decide +kernel
theorem dX7_answer_4 : decode cX7_answer 4 = .ok (.iload_n 1, 1) := by decide +kernel
theorem dX7_answer_5 : decode cX7_answer 5 = .ok (.invokevirtual 182, 3) := by decide +kernel
theorem dX7_answer_8 : decode cX7_answer 8 = .ok (.ifCond .ne 6, 3) := by decide +kernel
theorem dX7_answer_11 : decode cX7_answer 11 = .ok (.bipush (-2), 2) := by decide +kernel
theorem dX7_answer_13 : decode cX7_answer 13 = .ok (.ireturn, 1) := by decide +kernel
theorem dX7_answer_14 : decode cX7_answer 14 = .ok (.aload_n 0, 1) := by decide +kernel
theorem dX7_answer_15 : decode cX7_answer 15 = .ok (.getfield 53, 3) := by decide +kernel
theorem dX7_answer_18 : decode cX7_answer 18 = .ok (.iload_n 1, 1) := by decide +kernel
theorem dX7_answer_19 : decode cX7_answer 19 = .ok (.invokevirtual 183, 3) := by decide +kernel
theorem dX7_answer_22 : decode cX7_answer 22 = .ok (.getfield 190, 3) := by decide +kernel
theorem dX7_answer_25 : decode cX7_answer 25 = .ok (.ifCond .eq 6, 3) := by decide +kernel
theorem dX7_answer_28 : decode cX7_answer 28 = .ok (.bipush (-4), 2) := by decide +kernel
theorem dX7_answer_30 : decode cX7_answer 30 = .ok (.ireturn, 1) := by decide +kernel
theorem dX7_answer_31 : decode cX7_answer 31 = .ok (.iload_n 2, 1) := by decide +kernel
theorem dX7_answer_32 : decode cX7_answer 32 = .ok (.ifCond .eq 13, 3) := by decide +kernel
theorem dX7_answer_35 : decode cX7_answer 35 = .ok (.aload_n 0, 1) := by decide +kernel
theorem dX7_answer_36 : decode cX7_answer 36 = .ok (.getfield 53, 3) := by decide +kernel
theorem dX7_answer_39 : decode cX7_answer 39 = .ok (.iload_n 1, 1) := by decide +kernel
theorem dX7_answer_40 : decode cX7_answer 40 = .ok (.invokevirtual 193, 3) := by decide +kernel
theorem dX7_answer_43 : decode cX7_answer 43 = .ok (.iconst (-1), 1) := by decide +kernel
theorem dX7_answer_44 : decode cX7_answer 44 = .ok (.ireturn, 1) := by decide +kernel
theorem dX7_answer_45 : decode cX7_answer 45 = .ok (.aload_n 0, 1) := by decide +kernel
theorem dX7_answer_46 : decode cX7_answer 46 = .ok (.getfield 53, 3) := by decide +kernel
theorem dX7_answer_49 : decode cX7_answer 49 = .ok (.iload_n 1, 1) := by decide +kernel
theorem dX7_answer_50 : decode cX7_answer 50 = .ok (.invokevirtual 183, 3) := by decide +kernel
theorem dX7_answer_53 : decode cX7_answer 53 = .ok (.dup, 1) := by decide +kernel
theorem dX7_answer_54 : decode cX7_answer 54 = .ok (.getfield 196, 3) := by decide +kernel
theorem dX7_answer_57 : decode cX7_answer 57 = .ok (.iconst 1, 1) := by decide +kernel
theorem dX7_answer_58 : decode cX7_answer 58 = .ok (.iadd, 1) := by decide +kernel
theorem dX7_answer_59 : decode cX7_answer 59 = .ok (.putfield 196, 3) := by decide +kernel
theorem dX7_answer_62 : decode cX7_answer 62 = .ok (.aload_n 0, 1) := by decide +kernel
theorem dX7_answer_63 : decode cX7_answer 63 = .ok (.getfield 53, 3) := by decide +kernel
theorem dX7_answer_66 : decode cX7_answer 66 = .ok (.iload_n 1, 1) := by decide +kernel
theorem dX7_answer_67 : decode cX7_answer 67 = .ok (.invokevirtual 178, 3) := by decide +kernel
theorem dX7_answer_70 : decode cX7_answer 70 = .ok (.ireturn, 1) := by decide +kernel
set_option maxRecDepth 20000 in
theorem ggX7_told_X1_has : GoodIn wsX7_told wsX1_has := goodIn_r _ [6, 7, 8, 9, 10, 56, 57, 58, 59, 60, 61, 62] (by decide +kernel) (by decide +kernel)
set_option maxRecDepth 20000 in
theorem gX7_told_X1_has_n182 : GoodIn wsX7_told (wsX1_has) := ggX7_told_X1_has
set_option maxRecDepth 20000 in
theorem ggX7_told_X7_isBelow : GoodIn wsX7_told wsX7_isBelow := goodIn_r _ [10] (by decide +kernel) (by decide +kernel)
set_option maxRecDepth 20000 in
theorem gX7_told_X7_isBelow : GoodIn wsX7_told (va_wsS RX7 65 yX7_isBelow wsX7_isBelow) := goodIn_app (goodIn_of _ (by decide +kernel)) ggX7_told_X7_isBelow
set_option maxRecDepth 20000 in
theorem ggX7_told_X1_get : GoodIn wsX7_told wsX1_get := goodIn_r _ [14, 15, 56, 57, 58, 59, 60, 61, 62] (by decide +kernel) (by decide +kernel)
set_option maxRecDepth 20000 in
theorem gX7_told_X1_get_n183 : GoodIn wsX7_told (wsX1_get) := ggX7_told_X1_get
set_option maxRecDepth 20000 in
theorem ggX7_told_X6_textNow : GoodIn wsX7_told wsX6_textNow := goodIn_r _ [19, 20, 21, 22, 23, 17, 24, 25, 26, 27, 28, 29, 63, 64] (by decide +kernel) (by decide +kernel)
set_option maxRecDepth 20000 in
theorem gX7_told_X6_textNow_n208 : GoodIn wsX7_told (wsX6_textNow) := ggX7_told_X6_textNow
set_option maxRecDepth 20000 in
theorem ggX7_told_X0_isLate : GoodIn wsX7_told wsX0_isLate := goodIn_r _ [33, 34, 41, 42, 43, 44, 45, 46, 47, 48, 49, 50, 51, 52, 53, 54, 55] (by decide +kernel) (by decide +kernel)
set_option maxRecDepth 20000 in
theorem gX7_told_X0_isLate_n211 : GoodIn wsX7_told (wsX0_isLate) := ggX7_told_X0_isLate
theorem dX7_told_0 : decode cX7_told 0 = .ok (.aload_n 0, 1) := by decide +kernel
theorem dX7_told_1 : decode cX7_told 1 = .ok (.getfield 53, 3) := by decide +kernel
theorem dX7_told_4 : decode cX7_told 4 = .ok (.iload_n 1, 1) := by decide +kernel
theorem dX7_told_5 : decode cX7_told 5 = .ok (.invokevirtual 182, 3) := by decide +kernel
theorem dX7_told_8 : decode cX7_told 8 = .ok (.ifCond .eq 12, 3) := by decide +kernel
theorem dX7_told_11 : decode cX7_told 11 = .ok (.iload_n 2, 1) := by decide +kernel
theorem dX7_told_12 : decode cX7_told 12 = .ok (.bipush 6, 2) := by decide +kernel
theorem dX7_told_14 : decode cX7_told 14 = .ok (.invokestatic 65, 3) := by decide +kernel
theorem dX7_told_17 : decode cX7_told 17 = .ok (.ifCond .ne 6, 3) := by decide +kernel
theorem dX7_told_20 : decode cX7_told 20 = .ok (.bipush (-9), 2) := by decide +kernel
theorem dX7_told_22 : decode cX7_told 22 = .ok (.ireturn, 1) := by decide +kernel
theorem dX7_told_23 : decode cX7_told 23 = .ok (.aload_n 0, 1) := by decide +kernel
theorem dX7_told_24 : decode cX7_told 24 = .ok (.getfield 53, 3) := by decide +kernel
theorem dX7_told_27 : decode cX7_told 27 = .ok (.iload_n 1, 1) := by decide +kernel
theorem dX7_told_28 : decode cX7_told 28 = .ok (.invokevirtual 183, 3) := by decide +kernel
theorem dX7_told_31 : decode cX7_told 31 = .ok (.astore_n 3, 1) := by decide +kernel
theorem dX7_told_32 : decode cX7_told 32 = .ok (.iload_n 2, 1) := by decide +kernel
theorem dX7_told_33 : decode cX7_told 33 = .ok (.ifCond .ne 8, 3) := by decide +kernel
theorem dX7_told_36 : decode cX7_told 36 = .ok (.aload_n 3, 1) := by decide +kernel
theorem dX7_told_37 : decode cX7_told 37 = .ok (.getfield 190, 3) := by decide +kernel
theorem dX7_told_40 : decode cX7_told 40 = .ok (.ireturn, 1) := by decide +kernel
theorem dX7_told_41 : decode cX7_told 41 = .ok (.iload_n 2, 1) := by decide +kernel
theorem dX7_told_42 : decode cX7_told 42 = .ok (.iconst 1, 1) := by decide +kernel
theorem dX7_told_43 : decode cX7_told 43 = .ok (.if_icmp .ne 8, 3) := by decide +kernel
theorem dX7_told_46 : decode cX7_told 46 = .ok (.aload_n 3, 1) := by decide +kernel
theorem dX7_told_47 : decode cX7_told 47 = .ok (.getfield 196, 3) := by decide +kernel
theorem dX7_told_50 : decode cX7_told 50 = .ok (.ireturn, 1) := by decide +kernel
theorem dX7_told_51 : decode cX7_told 51 = .ok (.aload_n 3, 1) := by decide +kernel
theorem dX7_told_52 : decode cX7_told 52 = .ok (.getfield 190, 3) := by decide +kernel
theorem dX7_told_55 : decode cX7_told 55 = .ok (.iconst 1, 1) := by decide +kernel
theorem dX7_told_56 : decode cX7_told 56 = .ok (.if_icmp .eq 5, 3) := by decide +kernel
theorem dX7_told_59 : decode cX7_told 59 = .ok (.iconst (-1), 1) := by decide +kernel
theorem dX7_told_60 : decode cX7_told 60 = .ok (.ireturn, 1) := by decide +kernel
theorem dX7_told_61 : decode cX7_told 61 = .ok (.iload_n 2, 1) := by decide +kernel
theorem dX7_told_62 : decode cX7_told 62 = .ok (.tableswitch 60 2 4 #[26, 31, 36], 26) := by decide +kernel
theorem dX7_told_88 : decode cX7_told 88 = .ok (.aload_n 3, 1) := by decide +kernel
theorem dX7_told_89 : decode cX7_told 89 = .ok (.getfield 199, 3) := by decide +kernel
theorem dX7_told_92 : decode cX7_told 92 = .ok (.ireturn, 1) := by decide +kernel
theorem dX7_told_93 : decode cX7_told 93 = .ok (.aload_n 3, 1) := by decide +kernel
theorem dX7_told_94 : decode cX7_told 94 = .ok (.getfield 202, 3) := by decide +kernel
theorem dX7_told_97 : decode cX7_told 97 = .ok (.ireturn, 1) := by decide +kernel
theorem dX7_told_98 : decode cX7_told 98 = .ok (.aload_n 3, 1) := by decide +kernel
theorem dX7_told_99 : decode cX7_told 99 = .ok (.aload_n 0, 1) := by decide +kernel
theorem dX7_told_100 : decode cX7_told 100 = .ok (.getfield 19, 3) := by decide +kernel
theorem dX7_told_103 : decode cX7_told 103 = .ok (.aload_n 3, 1) := by decide +kernel
theorem dX7_told_104 : decode cX7_told 104 = .ok (.getfield 205, 3) := by decide +kernel
theorem dX7_told_107 : decode cX7_told 107 = .ok (.invokevirtual 208, 3) := by decide +kernel
theorem dX7_told_110 : decode cX7_told 110 = .ok (.invokevirtual 211, 3) := by decide +kernel
theorem dX7_told_113 : decode cX7_told 113 = .ok (.ifCond .eq 7, 3) := by decide +kernel
theorem dX7_told_116 : decode cX7_told 116 = .ok (.iconst 1, 1) := by decide +kernel
theorem dX7_told_117 : decode cX7_told 117 = .ok (.goto 4, 3) := by decide +kernel
theorem dX7_told_120 : decode cX7_told 120 = .ok (.iconst 0, 1) := by decide +kernel
theorem dX7_told_121 : decode cX7_told 121 = .ok (.ireturn, 1) := by decide +kernel
theorem dX7_told_122 : decode cX7_told 122 = .ok (.aload_n 3, 1) := by decide +kernel
theorem dX7_told_123 : decode cX7_told 123 = .ok (.getfield 215, 3) := by decide +kernel
theorem dX7_told_126 : decode cX7_told 126 = .ok (.ifCond .eq 7, 3) := by decide +kernel
theorem dX7_told_129 : decode cX7_told 129 = .ok (.iconst 1, 1) := by decide +kernel
theorem dX7_told_130 : decode cX7_told 130 = .ok (.goto 4, 3) := by decide +kernel
theorem dX7_told_133 : decode cX7_told 133 = .ok (.iconst 0, 1) := by decide +kernel
theorem dX7_told_134 : decode cX7_told 134 = .ok (.ireturn, 1) := by decide +kernel
set_option maxRecDepth 20000 in
theorem ggX7_barred_X1_has : GoodIn wsX7_barred wsX1_has := goodIn_r _ [7, 8, 9, 10, 11, 103, 104, 105, 106, 107, 108, 109] (by decide +kernel) (by decide +kernel)
set_option maxRecDepth 20000 in
theorem gX7_barred_X1_has_n182 : GoodIn wsX7_barred (wsX1_has) := ggX7_barred_X1_has
set_option maxRecDepth 20000 in
theorem ggX7_barred_X3_has : GoodIn wsX7_barred wsX3_has := goodIn_r _ [15, 16, 9, 10, 11, 110, 111, 112, 113, 114, 115, 116, 117] (by decide +kernel) (by decide +kernel)
set_option maxRecDepth 20000 in
theorem gX7_barred_X3_has_n76 : GoodIn wsX7_barred (wsX3_has) := ggX7_barred_X3_has
set_option maxRecDepth 20000 in
theorem ggX7_barred_X1_get : GoodIn wsX7_barred wsX1_get := goodIn_r _ [19, 20, 103, 104, 105, 106, 107, 108, 109] (by decide +kernel) (by decide +kernel)
set_option maxRecDepth 20000 in
theorem gX7_barred_X1_get_n183 : GoodIn wsX7_barred (wsX1_get) := ggX7_barred_X1_get
set_option maxRecDepth 20000 in
theorem ggX7_barred_X6_textNow : GoodIn wsX7_barred wsX6_textNow := goodIn_r _ [24, 25, 26, 27, 28, 22, 29, 30, 31, 32, 33, 34, 118, 119] (by decide +kernel) (by decide +kernel)
set_option maxRecDepth 20000 in
theorem gX7_barred_X6_textNow_n208 : GoodIn wsX7_barred (wsX6_textNow) := ggX7_barred_X6_textNow
set_option maxRecDepth 20000 in
theorem ggX7_barred_X1_reasonsAgainst : GoodIn wsX7_barred wsX1_reasonsAgainst := goodIn_r _ [37, 38, 39, 13, 40, 41, 42, 43, 10, 44, 45, 46, 47, 48, 49, 50, 51, 52, 53, 54, 55, 56, 57, 58, 59, 60, 5, 61, 62, 63, 64, 65, 66, 67, 68, 69, 70, 71, 72, 73, 74, 75, 8, 20, 76, 77, 78, 79, 80, 81, 103, 104, 105, 106, 107, 108, 109, 88, 89, 90, 91, 92, 93, 94, 95, 96, 97, 98, 99, 100, 101, 102, 110, 111, 112, 113, 114, 115, 116, 117] (by decide +kernel) (by decide +kernel)
set_option maxRecDepth 20000 in
theorem gX7_barred_X1_reasonsAgainst_n219 : GoodIn wsX7_barred (wsX1_reasonsAgainst) := ggX7_barred_X1_reasonsAgainst
theorem dX7_barred_0 : decode cX7_barred 0 = .ok (.aload_n 0, 1) := by decide +kernel
theorem dX7_barred_1 : decode cX7_barred 1 = .ok (.getfield 53, 3) := by decide +kernel
theorem dX7_barred_4 : decode cX7_barred 4 = .ok (.iload_n 1, 1) := by decide +kernel
theorem dX7_barred_5 : decode cX7_barred 5 = .ok (.invokevirtual 182, 3) := by decide +kernel
theorem dX7_barred_8 : decode cX7_barred 8 = .ok (.ifCond .eq 14, 3) := by decide +kernel
theorem dX7_barred_11 : decode cX7_barred 11 = .ok (.aload_n 0, 1) := by decide +kernel
theorem dX7_barred_12 : decode cX7_barred 12 = .ok (.getfield 26, 3) := by decide +kernel
theorem dX7_barred_15 : decode cX7_barred 15 = .ok (.iload_n 2, 1) := by decide +kernel
theorem dX7_barred_16 : decode cX7_barred 16 = .ok (.invokevirtual 76, 3) := by decide +kernel
theorem dX7_barred_19 : decode cX7_barred 19 = .ok (.ifCond .ne 6, 3) := by decide +kernel
theorem dX7_barred_22 : decode cX7_barred 22 = .ok (.bipush (-2), 2) := by decide +kernel
theorem dX7_barred_24 : decode cX7_barred 24 = .ok (.ireturn, 1) := by decide +kernel
theorem dX7_barred_25 : decode cX7_barred 25 = .ok (.aload_n 0, 1) := by decide +kernel
theorem dX7_barred_26 : decode cX7_barred 26 = .ok (.getfield 53, 3) := by decide +kernel
theorem dX7_barred_29 : decode cX7_barred 29 = .ok (.iload_n 1, 1) := by decide +kernel
theorem dX7_barred_30 : decode cX7_barred 30 = .ok (.invokevirtual 183, 3) := by decide +kernel
theorem dX7_barred_33 : decode cX7_barred 33 = .ok (.astore_n 3, 1) := by decide +kernel
theorem dX7_barred_34 : decode cX7_barred 34 = .ok (.aload_n 0, 1) := by decide +kernel
theorem dX7_barred_35 : decode cX7_barred 35 = .ok (.getfield 53, 3) := by decide +kernel
theorem dX7_barred_38 : decode cX7_barred 38 = .ok (.aload_n 3, 1) := by decide +kernel
theorem dX7_barred_39 : decode cX7_barred 39 = .ok (.iload_n 2, 1) := by decide +kernel
theorem dX7_barred_40 : decode cX7_barred 40 = .ok (.aload_n 0, 1) := by decide +kernel
theorem dX7_barred_41 : decode cX7_barred 41 = .ok (.getfield 19, 3) := by decide +kernel
theorem dX7_barred_44 : decode cX7_barred 44 = .ok (.aload_n 3, 1) := by decide +kernel
theorem dX7_barred_45 : decode cX7_barred 45 = .ok (.getfield 205, 3) := by decide +kernel
theorem dX7_barred_48 : decode cX7_barred 48 = .ok (.invokevirtual 208, 3) := by decide +kernel
theorem dX7_barred_51 : decode cX7_barred 51 = .ok (.bipush 10, 2) := by decide +kernel
theorem dX7_barred_53 : decode cX7_barred 53 = .ok (.iaload, 1) := by decide +kernel
theorem dX7_barred_54 : decode cX7_barred 54 = .ok (.invokevirtual 219, 3) := by decide +kernel
theorem dX7_barred_57 : decode cX7_barred 57 = .ok (.ireturn, 1) := by decide +kernel
set_option maxRecDepth 20000 in
theorem ggX7_claim_X1_has : GoodIn wsX7_claim wsX1_has := goodIn_r _ [6, 7, 8, 9, 10, 79, 80, 81, 82, 83, 84, 85] (by decide +kernel) (by decide +kernel)
set_option maxRecDepth 20000 in
theorem gX7_claim_X1_has_n182 : GoodIn wsX7_claim (wsX1_has) := ggX7_claim_X1_has
set_option maxRecDepth 20000 in
theorem ggX7_claim_X6_canKnow : GoodIn wsX7_claim wsX6_canKnow := goodIn_r _ [14, 15, 86, 87] (by decide +kernel) (by decide +kernel)
set_option maxRecDepth 20000 in
theorem gX7_claim_X6_canKnow_n137 : GoodIn wsX7_claim (wsX6_canKnow) := ggX7_claim_X6_canKnow
set_option maxRecDepth 20000 in
theorem ggX7_claim_X1_get : GoodIn wsX7_claim wsX1_get := goodIn_r _ [18, 19, 79, 80, 81, 82, 83, 84, 85] (by decide +kernel) (by decide +kernel)
set_option maxRecDepth 20000 in
theorem gX7_claim_X1_get_n183 : GoodIn wsX7_claim (wsX1_get) := ggX7_claim_X1_get
set_option maxRecDepth 20000 in
theorem ggX7_claim_X6_textKnown : GoodIn wsX7_claim wsX6_textKnown := goodIn_r _ [22, 23, 24, 25, 12, 26, 15, 27, 28, 29, 30, 31, 86, 87] (by decide +kernel) (by decide +kernel)
set_option maxRecDepth 20000 in
theorem gX7_claim_X6_textKnown_n223 : GoodIn wsX7_claim (wsX6_textKnown) := ggX7_claim_X6_textKnown
set_option maxRecDepth 20000 in
theorem ggX7_claim_X0_sumDue : GoodIn wsX7_claim wsX0_sumDue := goodIn_r _ [35, 36, 37, 38, 39, 40, 41, 42, 43, 44, 45, 33, 46, 47, 48, 49, 50, 51, 52, 53, 54, 55, 56, 57, 64, 65, 66, 67, 68, 69, 70, 71, 72, 73, 74, 75, 76, 77, 78] (by decide +kernel) (by decide +kernel)
set_option maxRecDepth 20000 in
theorem gX7_claim_X0_sumDue_n227 : GoodIn wsX7_claim (wsX0_sumDue) := ggX7_claim_X0_sumDue
theorem dX7_claim_0 : decode cX7_claim 0 = .ok (.aload_n 0, 1) := by decide +kernel
theorem dX7_claim_1 : decode cX7_claim 1 = .ok (.getfield 53, 3) := by decide +kernel
theorem dX7_claim_4 : decode cX7_claim 4 = .ok (.iload_n 1, 1) := by decide +kernel
theorem dX7_claim_5 : decode cX7_claim 5 = .ok (.invokevirtual 182, 3) := by decide +kernel
theorem dX7_claim_8 : decode cX7_claim 8 = .ok (.ifCond .eq 14, 3) := by decide +kernel
theorem dX7_claim_11 : decode cX7_claim 11 = .ok (.aload_n 0, 1) := by decide +kernel
theorem dX7_claim_12 : decode cX7_claim 12 = .ok (.getfield 19, 3) := by decide +kernel
theorem dX7_claim_15 : decode cX7_claim 15 = .ok (.iload_n 2, 1) := by decide +kernel
theorem dX7_claim_16 : decode cX7_claim 16 = .ok (.invokevirtual 137, 3) := by decide +kernel
theorem dX7_claim_19 : decode cX7_claim 19 = .ok (.ifCond .ne 6, 3) := by decide +kernel
theorem dX7_claim_22 : decode cX7_claim 22 = .ok (.bipush (-2), 2) := by decide +kernel
theorem dX7_claim_24 : decode cX7_claim 24 = .ok (.ireturn, 1) := by decide +kernel
theorem dX7_claim_25 : decode cX7_claim 25 = .ok (.aload_n 0, 1) := by decide +kernel
theorem dX7_claim_26 : decode cX7_claim 26 = .ok (.getfield 53, 3) := by decide +kernel
theorem dX7_claim_29 : decode cX7_claim 29 = .ok (.iload_n 1, 1) := by decide +kernel
theorem dX7_claim_30 : decode cX7_claim 30 = .ok (.invokevirtual 183, 3) := by decide +kernel
theorem dX7_claim_33 : decode cX7_claim 33 = .ok (.astore_n 3, 1) := by decide +kernel
theorem dX7_claim_34 : decode cX7_claim 34 = .ok (.aload_n 3, 1) := by decide +kernel
theorem dX7_claim_35 : decode cX7_claim 35 = .ok (.getfield 190, 3) := by decide +kernel
theorem dX7_claim_38 : decode cX7_claim 38 = .ok (.iconst 1, 1) := by decide +kernel
theorem dX7_claim_39 : decode cX7_claim 39 = .ok (.if_icmp .ne 22, 3) := by decide +kernel
theorem dX7_claim_42 : decode cX7_claim 42 = .ok (.aload_n 3, 1) := by decide +kernel
theorem dX7_claim_43 : decode cX7_claim 43 = .ok (.aload_n 0, 1) := by decide +kernel
theorem dX7_claim_44 : decode cX7_claim 44 = .ok (.getfield 19, 3) := by decide +kernel
theorem dX7_claim_47 : decode cX7_claim 47 = .ok (.aload_n 3, 1) := by decide +kernel
theorem dX7_claim_48 : decode cX7_claim 48 = .ok (.getfield 205, 3) := by decide +kernel
theorem dX7_claim_51 : decode cX7_claim 51 = .ok (.iload_n 2, 1) := by decide +kernel
theorem dX7_claim_52 : decode cX7_claim 52 = .ok (.invokevirtual 223, 3) := by decide +kernel
theorem dX7_claim_55 : decode cX7_claim 55 = .ok (.invokevirtual 227, 3) := by decide +kernel
theorem dX7_claim_58 : decode cX7_claim 58 = .ok (.goto 4, 3) := by decide +kernel
theorem dX7_claim_61 : decode cX7_claim 61 = .ok (.iconst (-1), 1) := by decide +kernel
theorem dX7_claim_62 : decode cX7_claim 62 = .ok (.ireturn, 1) := by decide +kernel
set_option maxRecDepth 20000 in
theorem ggX7_line_X1_has : GoodIn wsX7_line wsX1_has := goodIn_r _ [6, 7, 8, 9, 10, 77, 78, 79, 80, 81, 82, 83] (by decide +kernel) (by decide +kernel)
set_option maxRecDepth 20000 in
theorem gX7_line_X1_has_n182 : GoodIn wsX7_line (wsX1_has) := ggX7_line_X1_has
set_option maxRecDepth 20000 in
theorem ggX7_line_X6_canKnow : GoodIn wsX7_line wsX6_canKnow := goodIn_r _ [14, 15, 84, 85] (by decide +kernel) (by decide +kernel)
set_option maxRecDepth 20000 in
theorem gX7_line_X6_canKnow_n137 : GoodIn wsX7_line (wsX6_canKnow) := ggX7_line_X6_canKnow
set_option maxRecDepth 20000 in
theorem ggX7_line_X1_get : GoodIn wsX7_line wsX1_get := goodIn_r _ [18, 19, 77, 78, 79, 80, 81, 82, 83] (by decide +kernel) (by decide +kernel)
set_option maxRecDepth 20000 in
theorem gX7_line_X1_get_n183 : GoodIn wsX7_line (wsX1_get) := ggX7_line_X1_get
set_option maxRecDepth 20000 in
theorem ggX7_line_X7_isBelow : GoodIn wsX7_line wsX7_isBelow := goodIn_r _ [10] (by decide +kernel) (by decide +kernel)
set_option maxRecDepth 20000 in
theorem gX7_line_X7_isBelow : GoodIn wsX7_line (va_wsS RX7 65 yX7_isBelow wsX7_isBelow) := goodIn_app (goodIn_of _ (by decide +kernel)) ggX7_line_X7_isBelow
set_option maxRecDepth 20000 in
theorem ggX7_line_X6_textKnown : GoodIn wsX7_line wsX6_textKnown := goodIn_r _ [23, 24, 25, 26, 12, 27, 15, 28, 29, 30, 31, 32, 84, 85] (by decide +kernel) (by decide +kernel)
set_option maxRecDepth 20000 in
theorem gX7_line_X6_textKnown_n223 : GoodIn wsX7_line (wsX6_textKnown) := ggX7_line_X6_textKnown
set_option maxRecDepth 20000 in
theorem ggX7_line_X0_lineDue : GoodIn wsX7_line wsX0_lineDue := goodIn_r _ [36, 37, 38, 39, 40, 41, 42, 43, 34, 44, 45, 46, 47, 48, 49, 50, 51, 52, 53, 54, 55, 62, 63, 64, 65, 66, 67, 68, 69, 70, 71, 72, 73, 74, 75, 76] (by decide +kernel) (by decide +kernel)
set_option maxRecDepth 20000 in
theorem gX7_line_X0_lineDue_n231 : GoodIn wsX7_line (wsX0_lineDue) := ggX7_line_X0_lineDue
theorem dX7_line_0 : decode cX7_line 0 = .ok (.aload_n 0, 1) := by decide +kernel
theorem dX7_line_1 : decode cX7_line 1 = .ok (.getfield 53, 3) := by decide +kernel
theorem dX7_line_4 : decode cX7_line 4 = .ok (.iload_n 1, 1) := by decide +kernel
theorem dX7_line_5 : decode cX7_line 5 = .ok (.invokevirtual 182, 3) := by decide +kernel
theorem dX7_line_8 : decode cX7_line 8 = .ok (.ifCond .eq 14, 3) := by decide +kernel
theorem dX7_line_11 : decode cX7_line 11 = .ok (.aload_n 0, 1) := by decide +kernel
theorem dX7_line_12 : decode cX7_line 12 = .ok (.getfield 19, 3) := by decide +kernel
theorem dX7_line_15 : decode cX7_line 15 = .ok (.iload_n 2, 1) := by decide +kernel
theorem dX7_line_16 : decode cX7_line 16 = .ok (.invokevirtual 137, 3) := by decide +kernel
theorem dX7_line_19 : decode cX7_line 19 = .ok (.ifCond .ne 6, 3) := by decide +kernel
theorem dX7_line_22 : decode cX7_line 22 = .ok (.bipush (-2), 2) := by decide +kernel
theorem dX7_line_24 : decode cX7_line 24 = .ok (.ireturn, 1) := by decide +kernel
theorem dX7_line_25 : decode cX7_line 25 = .ok (.aload_n 0, 1) := by decide +kernel
theorem dX7_line_26 : decode cX7_line 26 = .ok (.getfield 53, 3) := by decide +kernel
theorem dX7_line_29 : decode cX7_line 29 = .ok (.iload_n 1, 1) := by decide +kernel
theorem dX7_line_30 : decode cX7_line 30 = .ok (.invokevirtual 183, 3) := by decide +kernel
theorem dX7_line_33 : decode cX7_line 33 = .ok (.astore 4, 2) := by decide +kernel
theorem dX7_line_35 : decode cX7_line 35 = .ok (.aload 4, 2) := by decide +kernel
theorem dX7_line_37 : decode cX7_line 37 = .ok (.getfield 190, 3) := by decide +kernel
theorem dX7_line_40 : decode cX7_line 40 = .ok (.iconst 1, 1) := by decide +kernel
theorem dX7_line_41 : decode cX7_line 41 = .ok (.if_icmp .ne 11, 3) := by decide +kernel
theorem dX7_line_44 : decode cX7_line 44 = .ok (.iload_n 3, 1) := by decide +kernel
theorem dX7_line_45 : decode cX7_line 45 = .ok (.iconst 5, 1) := by decide +kernel
theorem dX7_line_46 : decode cX7_line 46 = .ok (.invokestatic 65, 3) := by decide +kernel
theorem dX7_line_49 : decode cX7_line 49 = .ok (.ifCond .ne 5, 3) := by decide +kernel
theorem dX7_line_52 : decode cX7_line 52 = .ok (.iconst (-1), 1) := by decide +kernel
theorem dX7_line_53 : decode cX7_line 53 = .ok (.ireturn, 1) := by decide +kernel
theorem dX7_line_54 : decode cX7_line 54 = .ok (.aload 4, 2) := by decide +kernel
theorem dX7_line_56 : decode cX7_line 56 = .ok (.aload_n 0, 1) := by decide +kernel
theorem dX7_line_57 : decode cX7_line 57 = .ok (.getfield 19, 3) := by decide +kernel
theorem dX7_line_60 : decode cX7_line 60 = .ok (.aload 4, 2) := by decide +kernel
theorem dX7_line_62 : decode cX7_line 62 = .ok (.getfield 205, 3) := by decide +kernel
theorem dX7_line_65 : decode cX7_line 65 = .ok (.iload_n 2, 1) := by decide +kernel
theorem dX7_line_66 : decode cX7_line 66 = .ok (.invokevirtual 223, 3) := by decide +kernel
theorem dX7_line_69 : decode cX7_line 69 = .ok (.iload_n 3, 1) := by decide +kernel
theorem dX7_line_70 : decode cX7_line 70 = .ok (.invokevirtual 231, 3) := by decide +kernel
theorem dX7_line_73 : decode cX7_line 73 = .ok (.ireturn, 1) := by decide +kernel
set_option maxRecDepth 20000 in
theorem ggX7_pay_X1_has : GoodIn wsX7_pay wsX1_has := goodIn_r _ [6, 7, 8, 9, 10, 76, 77, 78, 79, 80, 81, 82] (by decide +kernel) (by decide +kernel)
set_option maxRecDepth 20000 in
theorem gX7_pay_X1_has_n182 : GoodIn wsX7_pay (wsX1_has) := ggX7_pay_X1_has
set_option maxRecDepth 20000 in
theorem ggX7_pay_X1_get : GoodIn wsX7_pay wsX1_get := goodIn_r _ [13, 14, 76, 77, 78, 79, 80, 81, 82] (by decide +kernel) (by decide +kernel)
set_option maxRecDepth 20000 in
theorem gX7_pay_X1_get_n183 : GoodIn wsX7_pay (wsX1_get) := ggX7_pay_X1_get
set_option maxRecDepth 20000 in
theorem ggX7_pay_X6_textNow : GoodIn wsX7_pay wsX6_textNow := goodIn_r _ [18, 19, 20, 21, 22, 16, 23, 24, 25, 26, 27, 28, 83, 84] (by decide +kernel) (by decide +kernel)
set_option maxRecDepth 20000 in
theorem gX7_pay_X6_textNow_n208 : GoodIn wsX7_pay (wsX6_textNow) := ggX7_pay_X6_textNow
set_option maxRecDepth 20000 in
theorem ggX7_pay_X0_sumDue : GoodIn wsX7_pay wsX0_sumDue := goodIn_r _ [32, 33, 34, 35, 36, 37, 38, 39, 40, 41, 42, 30, 43, 44, 45, 46, 47, 48, 49, 50, 51, 52, 53, 54, 61, 62, 63, 64, 65, 66, 67, 68, 69, 70, 71, 72, 73, 74, 75] (by decide +kernel) (by decide +kernel)
set_option maxRecDepth 20000 in
theorem gX7_pay_X0_sumDue_n227 : GoodIn wsX7_pay (wsX0_sumDue) := ggX7_pay_X0_sumDue
theorem dX7_pay_0 : decode cX7_pay 0 = .ok (.aload_n 0, 1) := by decide +kernel
theorem dX7_pay_1 : decode cX7_pay 1 = .ok (.getfield 53, 3) := by decide +kernel
theorem dX7_pay_4 : decode cX7_pay 4 = .ok (.iload_n 1, 1) := by decide +kernel
theorem dX7_pay_5 : decode cX7_pay 5 = .ok (.invokevirtual 182, 3) := by decide +kernel
theorem dX7_pay_8 : decode cX7_pay 8 = .ok (.ifCond .ne 6, 3) := by decide +kernel
theorem dX7_pay_11 : decode cX7_pay 11 = .ok (.bipush (-2), 2) := by decide +kernel
theorem dX7_pay_13 : decode cX7_pay 13 = .ok (.ireturn, 1) := by decide +kernel
theorem dX7_pay_14 : decode cX7_pay 14 = .ok (.aload_n 0, 1) := by decide +kernel
theorem dX7_pay_15 : decode cX7_pay 15 = .ok (.getfield 53, 3) := by decide +kernel
theorem dX7_pay_18 : decode cX7_pay 18 = .ok (.iload_n 1, 1) := by decide +kernel
theorem dX7_pay_19 : decode cX7_pay 19 = .ok (.invokevirtual 183, 3) := by decide +kernel
theorem dX7_pay_22 : decode cX7_pay 22 = .ok (.astore_n 2, 1) := by decide +kernel
theorem dX7_pay_23 : decode cX7_pay 23 = .ok (.aload_n 2, 1) := by decide +kernel
theorem dX7_pay_24 : decode cX7_pay 24 = .ok (.getfield 190, 3) := by decide +kernel
theorem dX7_pay_27 : decode cX7_pay 27 = .ok (.iconst 1, 1) := by decide +kernel
theorem dX7_pay_28 : decode cX7_pay 28 = .ok (.if_icmp .eq 6, 3) := by decide +kernel
theorem dX7_pay_31 : decode cX7_pay 31 = .ok (.bipush (-4), 2) := by decide +kernel
theorem dX7_pay_33 : decode cX7_pay 33 = .ok (.ireturn, 1) := by decide +kernel
theorem dX7_pay_34 : decode cX7_pay 34 = .ok (.aload_n 2, 1) := by decide +kernel
theorem dX7_pay_35 : decode cX7_pay 35 = .ok (.getfield 234, 3) := by decide +kernel
theorem dX7_pay_38 : decode cX7_pay 38 = .ok (.istore_n 3, 1) := by decide +kernel
theorem dX7_pay_39 : decode cX7_pay 39 = .ok (.aload_n 2, 1) := by decide +kernel
theorem dX7_pay_40 : decode cX7_pay 40 = .ok (.aload_n 2, 1) := by decide +kernel
theorem dX7_pay_41 : decode cX7_pay 41 = .ok (.aload_n 0, 1) := by decide +kernel
theorem dX7_pay_42 : decode cX7_pay 42 = .ok (.getfield 19, 3) := by decide +kernel
theorem dX7_pay_45 : decode cX7_pay 45 = .ok (.aload_n 2, 1) := by decide +kernel
theorem dX7_pay_46 : decode cX7_pay 46 = .ok (.getfield 205, 3) := by decide +kernel
theorem dX7_pay_49 : decode cX7_pay 49 = .ok (.invokevirtual 208, 3) := by decide +kernel
theorem dX7_pay_52 : decode cX7_pay 52 = .ok (.invokevirtual 227, 3) := by decide +kernel
theorem dX7_pay_55 : decode cX7_pay 55 = .ok (.putfield 234, 3) := by decide +kernel
theorem dX7_pay_58 : decode cX7_pay 58 = .ok (.aload_n 2, 1) := by decide +kernel
theorem dX7_pay_59 : decode cX7_pay 59 = .ok (.getfield 234, 3) := by decide +kernel
theorem dX7_pay_62 : decode cX7_pay 62 = .ok (.iload_n 3, 1) := by decide +kernel
theorem dX7_pay_63 : decode cX7_pay 63 = .ok (.isub, 1) := by decide +kernel
theorem dX7_pay_64 : decode cX7_pay 64 = .ok (.ireturn, 1) := by decide +kernel
set_option maxRecDepth 20000 in
theorem ggX7_paid_X3_has : GoodIn wsX7_paid wsX3_has := goodIn_r _ [6, 7, 8, 9, 10, 23, 24, 25, 26, 27, 28, 29, 30] (by decide +kernel) (by decide +kernel)
set_option maxRecDepth 20000 in
theorem gX7_paid_X3_has_n76 : GoodIn wsX7_paid (wsX3_has) := ggX7_paid_X3_has
set_option maxRecDepth 20000 in
theorem ggX7_paid_X1_settledFor : GoodIn wsX7_paid wsX1_settledFor := goodIn_r _ [14, 15, 16, 31, 32, 33, 34, 35, 36, 37, 38, 39, 40, 41, 42, 43, 44, 45, 46, 47, 48, 49, 50, 51, 52] (by decide +kernel) (by decide +kernel)
set_option maxRecDepth 20000 in
theorem gX7_paid_X1_settledFor_n237 : GoodIn wsX7_paid (wsX1_settledFor) := ggX7_paid_X1_settledFor
theorem dX7_paid_0 : decode cX7_paid 0 = .ok (.aload_n 0, 1) := by decide +kernel
theorem dX7_paid_1 : decode cX7_paid 1 = .ok (.getfield 26, 3) := by decide +kernel
theorem dX7_paid_4 : decode cX7_paid 4 = .ok (.iload_n 1, 1) := by decide +kernel
theorem dX7_paid_5 : decode cX7_paid 5 = .ok (.invokevirtual 76, 3) := by decide +kernel
theorem dX7_paid_8 : decode cX7_paid 8 = .ok (.ifCond .eq 14, 3) := by decide +kernel
theorem dX7_paid_11 : decode cX7_paid 11 = .ok (.aload_n 0, 1) := by decide +kernel
theorem dX7_paid_12 : decode cX7_paid 12 = .ok (.getfield 53, 3) := by decide +kernel
theorem dX7_paid_15 : decode cX7_paid 15 = .ok (.iload_n 1, 1) := by decide +kernel
theorem dX7_paid_16 : decode cX7_paid 16 = .ok (.invokevirtual 237, 3) := by decide +kernel
theorem dX7_paid_19 : decode cX7_paid 19 = .ok (.goto 5, 3) := by decide +kernel
theorem dX7_paid_22 : decode cX7_paid 22 = .ok (.bipush (-2), 2) := by decide +kernel
theorem dX7_paid_24 : decode cX7_paid 24 = .ok (.ireturn, 1) := by decide +kernel
set_option maxRecDepth 20000 in
theorem ggX7_count_X2_allDuties : GoodIn wsX7_count wsX2_allDuties := goodIn_r _ [9, 10, 11, 53, 54, 55, 56, 57, 58, 24, 25, 26, 27, 28, 29, 30, 31] (by decide +kernel) (by decide +kernel)
set_option maxRecDepth 20000 in
theorem gX7_count_X2_allDuties_n240 : GoodIn wsX7_count (wsX2_allDuties) := ggX7_count_X2_allDuties
set_option maxRecDepth 20000 in
theorem ggX7_count_X1_inState : GoodIn wsX7_count wsX1_inState := goodIn_r _ [15, 16, 17, 34, 35, 36, 37, 38, 39, 40, 59, 60, 61, 62, 63, 64, 65, 66, 67, 68, 69, 70, 71, 72, 73] (by decide +kernel) (by decide +kernel)
set_option maxRecDepth 20000 in
theorem gX7_count_X1_inState_n243 : GoodIn wsX7_count (wsX1_inState) := ggX7_count_X1_inState
theorem dX7_count_0 : decode cX7_count 0 = .ok (.iload_n 1, 1) := by decide +kernel
theorem dX7_count_1 : decode cX7_count 1 = .ok (.tableswitch 114 0 7 #[47, 55, 63, 71, 79, 87, 96, 105], 47) := by decide +kernel
theorem dX7_count_48 : decode cX7_count 48 = .ok (.aload_n 0, 1) := by decide +kernel
theorem dX7_count_49 : decode cX7_count 49 = .ok (.getfield 26, 3) := by decide +kernel
theorem dX7_count_52 : decode cX7_count 52 = .ok (.getfield 69, 3) := by decide +kernel
theorem dX7_count_55 : decode cX7_count 55 = .ok (.ireturn, 1) := by decide +kernel
theorem dX7_count_56 : decode cX7_count 56 = .ok (.aload_n 0, 1) := by decide +kernel
theorem dX7_count_57 : decode cX7_count 57 = .ok (.getfield 19, 3) := by decide +kernel
theorem dX7_count_60 : decode cX7_count 60 = .ok (.getfield 124, 3) := by decide +kernel
theorem dX7_count_63 : decode cX7_count 63 = .ok (.ireturn, 1) := by decide +kernel
theorem dX7_count_64 : decode cX7_count 64 = .ok (.aload_n 0, 1) := by decide +kernel
theorem dX7_count_65 : decode cX7_count 65 = .ok (.getfield 53, 3) := by decide +kernel
theorem dX7_count_68 : decode cX7_count 68 = .ok (.getfield 169, 3) := by decide +kernel
theorem dX7_count_71 : decode cX7_count 71 = .ok (.ireturn, 1) := by decide +kernel
theorem dX7_count_72 : decode cX7_count 72 = .ok (.aload_n 0, 1) := by decide +kernel
theorem dX7_count_73 : decode cX7_count 73 = .ok (.getfield 35, 3) := by decide +kernel
theorem dX7_count_76 : decode cX7_count 76 = .ok (.invokevirtual 240, 3) := by decide +kernel
theorem dX7_count_79 : decode cX7_count 79 = .ok (.ireturn, 1) := by decide +kernel
theorem dX7_count_80 : decode cX7_count 80 = .ok (.aload_n 0, 1) := by decide +kernel
theorem dX7_count_81 : decode cX7_count 81 = .ok (.getfield 10, 3) := by decide +kernel
theorem dX7_count_84 : decode cX7_count 84 = .ok (.getfield 57, 3) := by decide +kernel
theorem dX7_count_87 : decode cX7_count 87 = .ok (.ireturn, 1) := by decide +kernel
theorem dX7_count_88 : decode cX7_count 88 = .ok (.aload_n 0, 1) := by decide +kernel
theorem dX7_count_89 : decode cX7_count 89 = .ok (.getfield 53, 3) := by decide +kernel
theorem dX7_count_92 : decode cX7_count 92 = .ok (.iconst 0, 1) := by decide +kernel
theorem dX7_count_93 : decode cX7_count 93 = .ok (.invokevirtual 243, 3) := by decide +kernel
theorem dX7_count_96 : decode cX7_count 96 = .ok (.ireturn, 1) := by decide +kernel
theorem dX7_count_97 : decode cX7_count 97 = .ok (.aload_n 0, 1) := by decide +kernel
theorem dX7_count_98 : decode cX7_count 98 = .ok (.getfield 53, 3) := by decide +kernel
theorem dX7_count_101 : decode cX7_count 101 = .ok (.iconst 1, 1) := by decide +kernel
theorem dX7_count_102 : decode cX7_count 102 = .ok (.invokevirtual 243, 3) := by decide +kernel
theorem dX7_count_105 : decode cX7_count 105 = .ok (.ireturn, 1) := by decide +kernel
theorem dX7_count_106 : decode cX7_count 106 = .ok (.aload_n 0, 1) := by decide +kernel
theorem dX7_count_107 : decode cX7_count 107 = .ok (.getfield 53, 3) := by decide +kernel
theorem dX7_count_110 : decode cX7_count 110 = .ok (.iconst 2, 1) := by decide +kernel
theorem dX7_count_111 : decode cX7_count 111 = .ok (.invokevirtual 243, 3) := by decide +kernel
theorem dX7_count_114 : decode cX7_count 114 = .ok (.ireturn, 1) := by decide +kernel
theorem dX7_count_115 : decode cX7_count 115 = .ok (.iconst (-1), 1) := by decide +kernel
theorem dX7_count_116 : decode cX7_count 116 = .ok (.ireturn, 1) := by decide +kernel
theorem dX7_isBelow_0 : decode cX7_isBelow 0 = .ok (.iload_n 0, 1) := by decide +kernel
theorem dX7_isBelow_1 : decode cX7_isBelow 1 = .ok (.ifCond .lt 12, 3) := by decide +kernel
theorem dX7_isBelow_4 : decode cX7_isBelow 4 = .ok (.iload_n 0, 1) := by decide +kernel
theorem dX7_isBelow_5 : decode cX7_isBelow 5 = .ok (.iload_n 1, 1) := by decide +kernel
theorem dX7_isBelow_6 : decode cX7_isBelow 6 = .ok (.if_icmp .ge 7, 3) := by decide +kernel
theorem dX7_isBelow_9 : decode cX7_isBelow 9 = .ok (.iconst 1, 1) := by decide +kernel
theorem dX7_isBelow_10 : decode cX7_isBelow 10 = .ok (.goto 4, 3) := by decide +kernel
theorem dX7_isBelow_13 : decode cX7_isBelow 13 = .ok (.iconst 0, 1) := by decide +kernel
theorem dX7_isBelow_14 : decode cX7_isBelow 14 = .ok (.ireturn, 1) := by decide +kernel
theorem dX7_hasBit_0 : decode cX7_hasBit 0 = .ok (.iload_n 0, 1) := by decide +kernel
theorem dX7_hasBit_1 : decode cX7_hasBit 1 = .ok (.iload_n 1, 1) := by decide +kernel
theorem dX7_hasBit_2 : decode cX7_hasBit 2 = .ok (.ishr, 1) := by decide +kernel
theorem dX7_hasBit_3 : decode cX7_hasBit 3 = .ok (.iconst 1, 1) := by decide +kernel
theorem dX7_hasBit_4 : decode cX7_hasBit 4 = .ok (.iand, 1) := by decide +kernel
theorem dX7_hasBit_5 : decode cX7_hasBit 5 = .ok (.iconst 1, 1) := by decide +kernel
theorem dX7_hasBit_6 : decode cX7_hasBit 6 = .ok (.if_icmp .ne 7, 3) := by decide +kernel
theorem dX7_hasBit_9 : decode cX7_hasBit 9 = .ok (.iconst 1, 1) := by decide +kernel
theorem dX7_hasBit_10 : decode cX7_hasBit 10 = .ok (.goto 4, 3) := by decide +kernel
theorem dX7_hasBit_13 : decode cX7_hasBit 13 = .ok (.iconst 0, 1) := by decide +kernel
theorem dX7_hasBit_14 : decode cX7_hasBit 14 = .ok (.ireturn, 1) := by decide +kernel
theorem dX8_init_0 : decode cX8_init 0 = .ok (.aload_n 0, 1) := by decide +kernel
theorem dX8_init_1 : decode cX8_init 1 = .ok (.invokespecial 1, 3) := by decide +kernel
theorem dX8_init_4 : decode cX8_init 4 = .ok (.aload_n 0, 1) := by decide +kernel
theorem dX8_init_5 : decode cX8_init 5 = .ok (.sipush 1000, 3) := by decide +kernel
theorem dX8_init_8 : decode cX8_init 8 = .ok (.newarray .byte, 2) := by decide +kernel
theorem dX8_init_10 : decode cX8_init 10 = .ok (.putfield 7, 3) := by decide +kernel
theorem dX8_init_13 : decode cX8_init 13 = .ok (.aload_n 0, 1) := by decide +kernel
theorem dX8_init_14 : decode cX8_init 14 = .ok (.iconst (-1), 1) := by decide +kernel
theorem dX8_init_15 : decode cX8_init 15 = .ok (.putfield 13, 3) := by decide +kernel
theorem dX8_init_18 : decode cX8_init 18 = .ok (.aload_n 0, 1) := by decide +kernel
theorem dX8_init_19 : decode cX8_init 19 = .ok (.sipush 242, 3) := by decide +kernel
theorem dX8_init_22 : decode cX8_init 22 = .ok (.newarray .int, 2) := by decide +kernel
theorem dX8_init_24 : decode cX8_init 24 = .ok (.putfield 17, 3) := by decide +kernel
theorem dX8_init_27 : decode cX8_init 27 = .ok (.aload_n 0, 1) := by decide +kernel
theorem dX8_init_28 : decode cX8_init 28 = .ok (.bipush 21, 2) := by decide +kernel
theorem dX8_init_30 : decode cX8_init 30 = .ok (.newarray .int, 2) := by decide +kernel
theorem dX8_init_32 : decode cX8_init 32 = .ok (.putfield 21, 3) := by decide +kernel
theorem dX8_init_35 : decode cX8_init 35 = .ok (.aload_n 0, 1) := by decide +kernel
theorem dX8_init_36 : decode cX8_init 36 = .ok (.bipush 11, 2) := by decide +kernel
theorem dX8_init_38 : decode cX8_init 38 = .ok (.newarray .boolean, 2) := by decide +kernel
theorem dX8_init_40 : decode cX8_init 40 = .ok (.putfield 24, 3) := by decide +kernel
theorem dX8_init_43 : decode cX8_init 43 = .ok (.aload_n 0, 1) := by decide +kernel
theorem dX8_init_44 : decode cX8_init 44 = .ok (.bipush 24, 2) := by decide +kernel
theorem dX8_init_46 : decode cX8_init 46 = .ok (.newarray .int, 2) := by decide +kernel
theorem dX8_init_48 : decode cX8_init 48 = .ok (.putfield 28, 3) := by decide +kernel
theorem dX8_init_51 : decode cX8_init 51 = .ok (.aload_n 0, 1) := by decide +kernel
theorem dX8_init_52 : decode cX8_init 52 = .ok (.bipush 24, 2) := by decide +kernel
theorem dX8_init_54 : decode cX8_init 54 = .ok (.newarray .int, 2) := by decide +kernel
theorem dX8_init_56 : decode cX8_init 56 = .ok (.putfield 31, 3) := by decide +kernel
theorem dX8_init_59 : decode cX8_init 59 = .ok (.aload_n 0, 1) := by decide +kernel
theorem dX8_init_60 : decode cX8_init 60 = .ok (.bipush 24, 2) := by decide +kernel
theorem dX8_init_62 : decode cX8_init 62 = .ok (.newarray .int, 2) := by decide +kernel
theorem dX8_init_64 : decode cX8_init 64 = .ok (.putfield 34, 3) := by decide +kernel
theorem dX8_init_67 : decode cX8_init 67 = .ok (.aload_n 0, 1) := by decide +kernel
theorem dX8_init_68 : decode cX8_init 68 = .ok (.bipush 24, 2) := by decide +kernel
theorem dX8_init_70 : decode cX8_init 70 = .ok (.newarray .int, 2) := by decide +kernel
theorem dX8_init_72 : decode cX8_init 72 = .ok (.putfield 37, 3) := by decide +kernel
theorem dX8_init_75 : decode cX8_init 75 = .ok (.aload_n 0, 1) := by decide +kernel
theorem dX8_init_76 : decode cX8_init 76 = .ok (.sipush 24000, 3) := by decide +kernel
theorem dX8_init_79 : decode cX8_init 79 = .ok (.newarray .boolean, 2) := by decide +kernel
theorem dX8_init_81 : decode cX8_init 81 = .ok (.putfield 40, 3) := by decide +kernel
theorem dX8_init_84 : decode cX8_init 84 = .ok (.aload_n 0, 1) := by decide +kernel
theorem dX8_init_85 : decode cX8_init 85 = .ok (.bipush 100, 2) := by decide +kernel
theorem dX8_init_87 : decode cX8_init 87 = .ok (.newarray .int, 2) := by decide +kernel
theorem dX8_init_89 : decode cX8_init 89 = .ok (.putfield 43, 3) := by decide +kernel
theorem dX8_init_92 : decode cX8_init 92 = .ok (.aload_n 0, 1) := by decide +kernel
theorem dX8_init_93 : decode cX8_init 93 = .ok (.sipush 6000, 3) := by decide +kernel
theorem dX8_init_96 : decode cX8_init 96 = .ok (.newarray .int, 2) := by decide +kernel
theorem dX8_init_98 : decode cX8_init 98 = .ok (.putfield 46, 3) := by decide +kernel
theorem dX8_init_101 : decode cX8_init 101 = .ok (.aload_n 0, 1) := by decide +kernel
theorem dX8_init_102 : decode cX8_init 102 = .ok (.bipush 6, 2) := by decide +kernel
theorem dX8_init_104 : decode cX8_init 104 = .ok (.newarray .int, 2) := by decide +kernel
theorem dX8_init_106 : decode cX8_init 106 = .ok (.putfield 49, 3) := by decide +kernel
theorem dX8_init_109 : decode cX8_init 109 = .ok (.aload_n 0, 1) := by decide +kernel
theorem dX8_init_110 : decode cX8_init 110 = .ok (.bipush 6, 2) := by decide +kernel
theorem dX8_init_112 : decode cX8_init 112 = .ok (.newarray .int, 2) := by decide +kernel
theorem dX8_init_114 : decode cX8_init 114 = .ok (.putfield 52, 3) := by decide +kernel
theorem dX8_init_117 : decode cX8_init 117 = .ok (.aload_n 0, 1) := by decide +kernel
theorem dX8_init_118 : decode cX8_init 118 = .ok (.bipush 24, 2) := by decide +kernel
theorem dX8_init_120 : decode cX8_init 120 = .ok (.newarray .int, 2) := by decide +kernel
theorem dX8_init_122 : decode cX8_init 122 = .ok (.putfield 55, 3) := by decide +kernel
theorem dX8_init_125 : decode cX8_init 125 = .ok (.aload_n 0, 1) := by decide +kernel
theorem dX8_init_126 : decode cX8_init 126 = .ok (.sipush 150, 3) := by decide +kernel
theorem dX8_init_129 : decode cX8_init 129 = .ok (.newarray .int, 2) := by decide +kernel
theorem dX8_init_131 : decode cX8_init 131 = .ok (.putfield 58, 3) := by decide +kernel
theorem dX8_init_134 : decode cX8_init 134 = .ok (.aload_n 0, 1) := by decide +kernel
theorem dX8_init_135 : decode cX8_init 135 = .ok (.sipush 150, 3) := by decide +kernel
theorem dX8_init_138 : decode cX8_init 138 = .ok (.newarray .int, 2) := by decide +kernel
theorem dX8_init_140 : decode cX8_init 140 = .ok (.putfield 61, 3) := by decide +kernel
theorem dX8_init_143 : decode cX8_init 143 = .ok (.aload_n 0, 1) := by decide +kernel
theorem dX8_init_144 : decode cX8_init 144 = .ok (.sipush 150, 3) := by decide +kernel
theorem dX8_init_147 : decode cX8_init 147 = .ok (.newarray .int, 2) := by decide +kernel
theorem dX8_init_149 : decode cX8_init 149 = .ok (.putfield 64, 3) := by decide +kernel
theorem dX8_init_152 : decode cX8_init 152 = .ok (.aload_n 0, 1) := by decide +kernel
theorem dX8_init_153 : decode cX8_init 153 = .ok (.sipush 150, 3) := by decide +kernel
theorem dX8_init_156 : decode cX8_init 156 = .ok (.newarray .int, 2) := by decide +kernel
theorem dX8_init_158 : decode cX8_init 158 = .ok (.putfield 67, 3) := by decide +kernel
theorem dX8_init_161 : decode cX8_init 161 = .ok (.aload_n 0, 1) := by decide +kernel
theorem dX8_init_162 : decode cX8_init 162 = .ok (.sipush 150, 3) := by decide +kernel
theorem dX8_init_165 : decode cX8_init 165 = .ok (.newarray .int, 2) := by decide +kernel
theorem dX8_init_167 : decode cX8_init 167 = .ok (.putfield 70, 3) := by decide +kernel
theorem dX8_init_170 : decode cX8_init 170 = .ok (.aload_n 0, 1) := by decide +kernel
theorem dX8_init_171 : decode cX8_init 171 = .ok (.sipush 150, 3) := by decide +kernel
theorem dX8_init_174 : decode cX8_init 174 = .ok (.newarray .int, 2) := by decide +kernel
theorem dX8_init_176 : decode cX8_init 176 = .ok (.putfield 73, 3) := by decide +kernel
theorem dX8_init_179 : decode cX8_init 179 = .ok (.aload_n 0, 1) := by decide +kernel
theorem dX8_init_180 : decode cX8_init 180 = .ok (.sipush 150, 3) := by decide +kernel
theorem dX8_init_183 : decode cX8_init 183 = .ok (.newarray .int, 2) := by decide +kernel
theorem dX8_init_185 : decode cX8_init 185 = .ok (.putfield 76, 3) := by decide +kernel
theorem dX8_init_188 : decode cX8_init 188 = .ok (.aload_n 0, 1) := by decide +kernel
theorem dX8_init_189 : decode cX8_init 189 = .ok (.sipush 150, 3) := by decide +kernel
theorem dX8_init_192 : decode cX8_init 192 = .ok (.newarray .int, 2) := by decide +kernel
theorem dX8_init_194 : decode cX8_init 194 = .ok (.putfield 79, 3) := by decide +kernel
theorem dX8_init_197 : decode cX8_init 197 = .ok (.aload_n 0, 1) := by decide +kernel
theorem dX8_init_198 : decode cX8_init 198 = .ok (.sipush 150, 3) := by decide +kernel
theorem dX8_init_201 : decode cX8_init 201 = .ok (.newarray .int, 2) := by decide +kernel
theorem dX8_init_203 : decode cX8_init 203 = .ok (.putfield 82, 3) := by decide +kernel
theorem dX8_init_206 : decode cX8_init 206 = .ok (.aload_n 0, 1) := by decide +kernel
theorem dX8_init_207 : decode cX8_init 207 = .ok (.sipush 150, 3) := by decide +kernel
theorem dX8_init_210 : decode cX8_init 210 = .ok (.newarray .int, 2) := by decide +kernel
theorem dX8_init_212 : decode cX8_init 212 = .ok (.putfield 85, 3) := by decide +kernel
theorem dX8_init_215 : decode cX8_init 215 = .ok (.aload_n 0, 1) := by decide +kernel
theorem dX8_init_216 : decode cX8_init 216 = .ok (.sipush 150, 3) := by decide +kernel
theorem dX8_init_219 : decode cX8_init 219 = .ok (.newarray .int, 2) := by decide +kernel
theorem dX8_init_221 : decode cX8_init 221 = .ok (.putfield 88, 3) := by decide +kernel
theorem dX8_init_224 : decode cX8_init 224 = .ok (.aload_n 0, 1) := by decide +kernel
theorem dX8_init_225 : decode cX8_init 225 = .ok (.sipush 150, 3) := by decide +kernel
theorem dX8_init_228 : decode cX8_init 228 = .ok (.newarray .int, 2) := by decide +kernel
theorem dX8_init_230 : decode cX8_init 230 = .ok (.putfield 91, 3) := by decide +kernel
theorem dX8_init_233 : decode cX8_init 233 = .ok (.aload_n 0, 1) := by decide +kernel
theorem dX8_init_234 : decode cX8_init 234 = .ok (.sipush 150, 3) := by decide +kernel
theorem dX8_init_237 : decode cX8_init 237 = .ok (.newarray .boolean, 2) := by decide +kernel
theorem dX8_init_239 : decode cX8_init 239 = .ok (.putfield 94, 3) := by decide +kernel
theorem dX8_init_242 : decode cX8_init 242 = .ok (.aload_n 0, 1) := by decide +kernel
theorem dX8_init_243 : decode cX8_init 243 = .ok (.sipush 150, 3) := by decide +kernel
theorem dX8_init_246 : decode cX8_init 246 = .ok (.newarray .int, 2) := by decide +kernel
theorem dX8_init_248 : decode cX8_init 248 = .ok (.putfield 97, 3) := by decide +kernel
theorem dX8_init_251 : decode cX8_init 251 = .ok (.aload_n 0, 1) := by decide +kernel
theorem dX8_init_252 : decode cX8_init 252 = .ok (.sipush 3600, 3) := by decide +kernel
theorem dX8_init_255 : decode cX8_init 255 = .ok (.newarray .boolean, 2) := by decide +kernel
theorem dX8_init_257 : decode cX8_init 257 = .ok (.putfield 100, 3) := by decide +kernel
theorem dX8_init_260 : decode cX8_init 260 = .ok (.aload_n 0, 1) := by decide +kernel
theorem dX8_init_261 : decode cX8_init 261 = .ok (.sipush 2400, 3) := by decide +kernel
theorem dX8_init_264 : decode cX8_init 264 = .ok (.newarray .boolean, 2) := by decide +kernel
theorem dX8_init_266 : decode cX8_init 266 = .ok (.putfield 103, 3) := by decide +kernel
theorem dX8_init_269 : decode cX8_init 269 = .ok (.aload_n 0, 1) := by decide +kernel
theorem dX8_init_270 : decode cX8_init 270 = .ok (.sipush 1000, 3) := by decide +kernel
theorem dX8_init_273 : decode cX8_init 273 = .ok (.newarray .boolean, 2) := by decide +kernel
theorem dX8_init_275 : decode cX8_init 275 = .ok (.putfield 106, 3) := by decide +kernel
theorem dX8_init_278 : decode cX8_init 278 = .ok (.iconst 0, 1) := by decide +kernel
theorem dX8_init_279 : decode cX8_init 279 = .ok (.istore_n 1, 1) := by decide +kernel
theorem dX8_init_280 : decode cX8_init 280 = .ok (.iload_n 1, 1) := by decide +kernel
theorem dX8_init_281 : decode cX8_init 281 = .ok (.sipush 6000, 3) := by decide +kernel
theorem dX8_init_284 : decode cX8_init 284 = .ok (.if_icmp .ge 16, 3) := by decide +kernel
theorem dX8_init_287 : decode cX8_init 287 = .ok (.aload_n 0, 1) := by decide +kernel
theorem dX8_init_288 : decode cX8_init 288 = .ok (.getfield 46, 3) := by decide +kernel
theorem dX8_init_291 : decode cX8_init 291 = .ok (.iload_n 1, 1) := by decide +kernel
theorem dX8_init_292 : decode cX8_init 292 = .ok (.iconst (-1), 1) := by decide +kernel
theorem dX8_init_293 : decode cX8_init 293 = .ok (.iastore, 1) := by decide +kernel
theorem dX8_init_294 : decode cX8_init 294 = .ok (.iinc 1 1, 3) := by decide +kernel
theorem dX8_init_297 : decode cX8_init 297 = .ok (.goto (-17), 3) := by decide +kernel
theorem dX8_init_300 : decode cX8_init 300 = .ok (.iconst 0, 1) := by decide +kernel
theorem dX8_init_301 : decode cX8_init 301 = .ok (.istore_n 1, 1) := by decide +kernel
theorem dX8_init_302 : decode cX8_init 302 = .ok (.iload_n 1, 1) := by decide +kernel
theorem dX8_init_303 : decode cX8_init 303 = .ok (.bipush 100, 2) := by decide +kernel
theorem dX8_init_305 : decode cX8_init 305 = .ok (.if_icmp .ge 28, 3) := by decide +kernel
theorem dX8_init_308 : decode cX8_init 308 = .ok (.aload_n 0, 1) := by decide +kernel
theorem dX8_init_309 : decode cX8_init 309 = .ok (.getfield 43, 3) := by decide +kernel
theorem dX8_init_312 : decode cX8_init 312 = .ok (.iload_n 1, 1) := by decide +kernel
theorem dX8_init_313 : decode cX8_init 313 = .ok (.iload_n 1, 1) := by decide +kernel
theorem dX8_init_314 : decode cX8_init 314 = .ok (.bipush 11, 2) := by decide +kernel
theorem dX8_init_316 : decode cX8_init 316 = .ok (.irem, 1) := by decide +kernel
theorem dX8_init_317 : decode cX8_init 317 = .ok (.ifCond .ne 8, 3) := by decide +kernel
theorem dX8_init_320 : decode cX8_init 320 = .ok (.bipush 10, 2) := by decide +kernel
theorem dX8_init_322 : decode cX8_init 322 = .ok (.goto 4, 3) := by decide +kernel
theorem dX8_init_325 : decode cX8_init 325 = .ok (.iconst (-1), 1) := by decide +kernel
theorem dX8_init_326 : decode cX8_init 326 = .ok (.iastore, 1) := by decide +kernel
theorem dX8_init_327 : decode cX8_init 327 = .ok (.iinc 1 1, 3) := by decide +kernel
theorem dX8_init_330 : decode cX8_init 330 = .ok (.goto (-28), 3) := by decide +kernel
theorem dX8_init_333 : decode cX8_init 333 = .ok (.return_, 1) := by decide +kernel
theorem dX8_in_0 : decode cX8_in 0 = .ok (.iload_n 0, 1) := by decide +kernel
theorem dX8_in_1 : decode cX8_in 1 = .ok (.iload_n 1, 1) := by decide +kernel
theorem dX8_in_2 : decode cX8_in 2 = .ok (.if_icmp .lt 12, 3) := by decide +kernel
theorem dX8_in_5 : decode cX8_in 5 = .ok (.iload_n 0, 1) := by decide +kernel
theorem dX8_in_6 : decode cX8_in 6 = .ok (.iload_n 2, 1) := by decide +kernel
theorem dX8_in_7 : decode cX8_in 7 = .ok (.if_icmp .gt 7, 3) := by decide +kernel
theorem dX8_in_10 : decode cX8_in 10 = .ok (.iconst 1, 1) := by decide +kernel
theorem dX8_in_11 : decode cX8_in 11 = .ok (.goto 4, 3) := by decide +kernel
theorem dX8_in_14 : decode cX8_in 14 = .ok (.iconst 0, 1) := by decide +kernel
theorem dX8_in_15 : decode cX8_in 15 = .ok (.ireturn, 1) := by decide +kernel
theorem dX8_feed_0 : decode cX8_feed 0 = .ok (.aload_n 0, 1) := by decide +kernel
theorem dX8_feed_1 : decode cX8_feed 1 = .ok (.getfield 109, 3) := by decide +kernel
theorem dX8_feed_4 : decode cX8_feed 4 = .ok (.bipush 20, 2) := by decide +kernel
theorem dX8_feed_6 : decode cX8_feed 6 = .ok (.iadd, 1) := by decide +kernel
theorem dX8_feed_7 : decode cX8_feed 7 = .ok (.sipush 1000, 3) := by decide +kernel
theorem dX8_feed_10 : decode cX8_feed 10 = .ok (.if_icmp .le 6, 3) := by decide +kernel
theorem dX8_feed_13 : decode cX8_feed 13 = .ok (.bipush (-3), 2) := by decide +kernel
theorem dX8_feed_15 : decode cX8_feed 15 = .ok (.ireturn, 1) := by decide +kernel
theorem dX8_feed_16 : decode cX8_feed 16 = .ok (.iconst 0, 1) := by decide +kernel
theorem dX8_feed_17 : decode cX8_feed 17 = .ok (.istore 6, 2) := by decide +kernel
theorem dX8_feed_19 : decode cX8_feed 19 = .ok (.iload 6, 2) := by decide +kernel
theorem dX8_feed_21 : decode cX8_feed 21 = .ok (.iconst 5, 1) := by decide +kernel
theorem dX8_feed_22 : decode cX8_feed 22 = .ok (.if_icmp .ge 93, 3) := by decide +kernel
theorem dX8_feed_25 : decode cX8_feed 25 = .ok (.iload 6, 2) := by decide +kernel
theorem dX8_feed_27 : decode cX8_feed 27 = .ok (.ifCond .ne 7, 3) := by decide +kernel
theorem dX8_feed_30 : decode cX8_feed 30 = .ok (.iload_n 1, 1) := by decide +kernel
theorem dX8_feed_31 : decode cX8_feed 31 = .ok (.goto 36, 3) := by decide +kernel
theorem dX8_feed_34 : decode cX8_feed 34 = .ok (.iload 6, 2) := by decide +kernel
theorem dX8_feed_36 : decode cX8_feed 36 = .ok (.iconst 1, 1) := by decide +kernel
theorem dX8_feed_37 : decode cX8_feed 37 = .ok (.if_icmp .ne 7, 3) := by decide +kernel
theorem dX8_feed_40 : decode cX8_feed 40 = .ok (.iload_n 2, 1) := by decide +kernel
theorem dX8_feed_41 : decode cX8_feed 41 = .ok (.goto 26, 3) := by decide +kernel
theorem dX8_feed_44 : decode cX8_feed 44 = .ok (.iload 6, 2) := by decide +kernel
theorem dX8_feed_46 : decode cX8_feed 46 = .ok (.iconst 2, 1) := by decide +kernel
theorem dX8_feed_47 : decode cX8_feed 47 = .ok (.if_icmp .ne 7, 3) := by decide +kernel
theorem dX8_feed_50 : decode cX8_feed 50 = .ok (.iload_n 3, 1) := by decide +kernel
theorem dX8_feed_51 : decode cX8_feed 51 = .ok (.goto 16, 3) := by decide +kernel
theorem dX8_feed_54 : decode cX8_feed 54 = .ok (.iload 6, 2) := by decide +kernel
theorem dX8_feed_56 : decode cX8_feed 56 = .ok (.iconst 3, 1) := by decide +kernel
theorem dX8_feed_57 : decode cX8_feed 57 = .ok (.if_icmp .ne 8, 3) := by decide +kernel
theorem dX8_feed_60 : decode cX8_feed 60 = .ok (.iload 4, 2) := by decide +kernel
theorem dX8_feed_62 : decode cX8_feed 62 = .ok (.goto 5, 3) := by decide +kernel
theorem dX8_feed_65 : decode cX8_feed 65 = .ok (.iload 5, 2) := by decide +kernel
theorem dX8_feed_67 : decode cX8_feed 67 = .ok (.istore 7, 2) := by decide +kernel
theorem dX8_feed_69 : decode cX8_feed 69 = .ok (.bipush 24, 2) := by decide +kernel
theorem dX8_feed_71 : decode cX8_feed 71 = .ok (.istore 8, 2) := by decide +kernel
theorem dX8_feed_73 : decode cX8_feed 73 = .ok (.iload 8, 2) := by decide +kernel
theorem dX8_feed_75 : decode cX8_feed 75 = .ok (.ifCond .lt 34, 3) := by decide +kernel
theorem dX8_feed_78 : decode cX8_feed 78 = .ok (.aload_n 0, 1) := by decide +kernel
theorem dX8_feed_79 : decode cX8_feed 79 = .ok (.getfield 7, 3) := by decide +kernel
theorem dX8_feed_82 : decode cX8_feed 82 = .ok (.aload_n 0, 1) := by decide +kernel
theorem dX8_feed_83 : decode cX8_feed 83 = .ok (.getfield 109, 3) := by decide +kernel
theorem dX8_feed_86 : decode cX8_feed 86 = .ok (.iload 7, 2) := by decide +kernel
theorem dX8_feed_88 : decode cX8_feed 88 = .ok (.iload 8, 2) := by decide +kernel
theorem dX8_feed_90 : decode cX8_feed 90 = .ok (.ishr, 1) := by decide +kernel
theorem dX8_feed_91 : decode cX8_feed 91 = .ok (.i2b, 1) := by decide +kernel
theorem dX8_feed_92 : decode cX8_feed 92 = .ok (.bastore, 1) := by decide +kernel
theorem dX8_feed_93 : decode cX8_feed 93 = .ok (.aload_n 0, 1) := by decide +kernel
theorem dX8_feed_94 : decode cX8_feed 94 = .ok (.dup, 1) := by decide +kernel
theorem dX8_feed_95 : decode cX8_feed 95 = .ok (.getfield 109, 3) := by decide +kernel
theorem dX8_feed_98 : decode cX8_feed 98 = .ok (.iconst 1, 1) := by decide +kernel
theorem dX8_feed_99 : decode cX8_feed 99 = .ok (.iadd, 1) := by decide +kernel
theorem dX8_feed_100 : decode cX8_feed 100 = .ok (.putfield 109, 3) := by decide +kernel
theorem dX8_feed_103 : decode cX8_feed 103 = .ok (.iinc 8 (-8), 3) := by decide +kernel
theorem dX8_feed_106 : decode cX8_feed 106 = .ok (.goto (-33), 3) := by decide +kernel
theorem dX8_feed_109 : decode cX8_feed 109 = .ok (.iinc 6 1, 3) := by decide +kernel
theorem dX8_feed_112 : decode cX8_feed 112 = .ok (.goto (-93), 3) := by decide +kernel
theorem dX8_feed_115 : decode cX8_feed 115 = .ok (.aload_n 0, 1) := by decide +kernel
theorem dX8_feed_116 : decode cX8_feed 116 = .ok (.getfield 109, 3) := by decide +kernel
theorem dX8_feed_119 : decode cX8_feed 119 = .ok (.ireturn, 1) := by decide +kernel
theorem dX8_end_0 : decode cX8_end 0 = .ok (.iload_n 1, 1) := by decide +kernel
theorem dX8_end_1 : decode cX8_end 1 = .ok (.ifCond .lt 11, 3) := by decide +kernel
theorem dX8_end_4 : decode cX8_end 4 = .ok (.iload_n 1, 1) := by decide +kernel
theorem dX8_end_5 : decode cX8_end 5 = .ok (.aload_n 0, 1) := by decide +kernel
theorem dX8_end_6 : decode cX8_end 6 = .ok (.getfield 109, 3) := by decide +kernel
theorem dX8_end_9 : decode cX8_end 9 = .ok (.if_icmp .le 5, 3) := by decide +kernel
theorem dX8_end_12 : decode cX8_end 12 = .ok (.iconst (-1), 1) := by decide +kernel
theorem dX8_end_13 : decode cX8_end 13 = .ok (.ireturn, 1) := by decide +kernel
theorem dX8_end_14 : decode cX8_end 14 = .ok (.aload_n 0, 1) := by decide +kernel
theorem dX8_end_15 : decode cX8_end 15 = .ok (.iload_n 1, 1) := by decide +kernel
theorem dX8_end_16 : decode cX8_end 16 = .ok (.putfield 109, 3) := by decide +kernel
theorem dX8_end_19 : decode cX8_end 19 = .ok (.iload_n 1, 1) := by decide +kernel
theorem dX8_end_20 : decode cX8_end 20 = .ok (.ireturn, 1) := by decide +kernel
theorem dX8_see_0 : decode cX8_see 0 = .ok (.iload_n 1, 1) := by decide +kernel
theorem dX8_see_1 : decode cX8_see 1 = .ok (.aload_n 0, 1) := by decide +kernel
theorem dX8_see_2 : decode cX8_see 2 = .ok (.getfield 112, 3) := by decide +kernel
theorem dX8_see_5 : decode cX8_see 5 = .ok (.if_icmp .ge 16, 3) := by decide +kernel
theorem dX8_see_8 : decode cX8_see 8 = .ok (.aload_n 0, 1) := by decide +kernel
theorem dX8_see_9 : decode cX8_see 9 = .ok (.getfield 7, 3) := by decide +kernel
theorem dX8_see_12 : decode cX8_see 12 = .ok (.iload_n 1, 1) := by decide +kernel
theorem dX8_see_13 : decode cX8_see 13 = .ok (.baload, 1) := by decide +kernel
theorem dX8_see_14 : decode cX8_see 14 = .ok (.sipush 255, 3) := by decide +kernel
theorem dX8_see_17 : decode cX8_see 17 = .ok (.iand, 1) := by decide +kernel
theorem dX8_see_18 : decode cX8_see 18 = .ok (.goto 4, 3) := by decide +kernel
theorem dX8_see_21 : decode cX8_see 21 = .ok (.iconst (-1), 1) := by decide +kernel
theorem dX8_see_22 : decode cX8_see 22 = .ok (.ireturn, 1) := by decide +kernel
theorem dX8_isSmall_0 : decode cX8_isSmall 0 = .ok (.iload_n 0, 1) := by decide +kernel
theorem dX8_isSmall_1 : decode cX8_isSmall 1 = .ok (.bipush 97, 2) := by decide +kernel
theorem dX8_isSmall_3 : decode cX8_isSmall 3 = .ok (.if_icmp .lt 13, 3) := by decide +kernel
theorem dX8_isSmall_6 : decode cX8_isSmall 6 = .ok (.iload_n 0, 1) := by decide +kernel
theorem dX8_isSmall_7 : decode cX8_isSmall 7 = .ok (.bipush 122, 2) := by decide +kernel
theorem dX8_isSmall_9 : decode cX8_isSmall 9 = .ok (.if_icmp .gt 7, 3) := by decide +kernel
theorem dX8_isSmall_12 : decode cX8_isSmall 12 = .ok (.iconst 1, 1) := by decide +kernel
theorem dX8_isSmall_13 : decode cX8_isSmall 13 = .ok (.goto 4, 3) := by decide +kernel
theorem dX8_isSmall_16 : decode cX8_isSmall 16 = .ok (.iconst 0, 1) := by decide +kernel
theorem dX8_isSmall_17 : decode cX8_isSmall 17 = .ok (.ireturn, 1) := by decide +kernel
theorem dX8_isDigit_0 : decode cX8_isDigit 0 = .ok (.iload_n 0, 1) := by decide +kernel
theorem dX8_isDigit_1 : decode cX8_isDigit 1 = .ok (.bipush 48, 2) := by decide +kernel
theorem dX8_isDigit_3 : decode cX8_isDigit 3 = .ok (.if_icmp .lt 13, 3) := by decide +kernel
theorem dX8_isDigit_6 : decode cX8_isDigit 6 = .ok (.iload_n 0, 1) := by decide +kernel
theorem dX8_isDigit_7 : decode cX8_isDigit 7 = .ok (.bipush 57, 2) := by decide +kernel
theorem dX8_isDigit_9 : decode cX8_isDigit 9 = .ok (.if_icmp .gt 7, 3) := by decide +kernel
theorem dX8_isDigit_12 : decode cX8_isDigit 12 = .ok (.iconst 1, 1) := by decide +kernel
theorem dX8_isDigit_13 : decode cX8_isDigit 13 = .ok (.goto 4, 3) := by decide +kernel
theorem dX8_isDigit_16 : decode cX8_isDigit 16 = .ok (.iconst 0, 1) := by decide +kernel
theorem dX8_isDigit_17 : decode cX8_isDigit 17 = .ok (.ireturn, 1) := by decide +kernel
set_option maxRecDepth 20000 in
theorem ggX8_keyAt_J0_length_8abf5 : GoodIn wsX8_keyAt wsJ0_length_8abf5 := goodIn_r _ [5, 6, 7, 8, 9, 4, 10, 11, 12] (by decide +kernel) (by decide +kernel)
set_option maxRecDepth 20000 in
theorem gX8_keyAt_J0_length_8abf5 : GoodIn wsX8_keyAt (wsV RX8 117 RJ0 yJ0_length_8abf5 wsJ0_length_8abf5) := goodIn_app (goodIn_of _ (by decide +kernel)) ggX8_keyAt_J0_length_8abf5
set_option maxRecDepth 20000 in
theorem ggX8_keyAt_J0_charAt_5068e : GoodIn wsX8_keyAt wsJ0_charAt_5068e := goodIn_r _ [16, 6, 17, 18, 19, 4, 20, 11, 12, 21, 22, 23, 24, 25, 26, 27, 28, 29, 30, 31, 32, 33, 34, 35, 36, 37, 38, 39, 40, 41, 42, 43, 44, 45, 46, 47, 48, 49] (by decide +kernel) (by decide +kernel)
set_option maxRecDepth 20000 in
theorem gX8_keyAt_J0_charAt_5068e : GoodIn wsX8_keyAt (wsV RX8 123 RJ0 yJ0_charAt_5068e wsJ0_charAt_5068e) := goodIn_app (goodIn_of _ (by decide +kernel)) ggX8_keyAt_J0_charAt_5068e
set_option maxRecDepth 20000 in
theorem ggX8_keyAt_X8_see : GoodIn wsX8_keyAt wsX8_see := goodIn_r _ [54, 55, 56, 57, 58, 59, 60, 61, 62, 63, 64, 65, 66, 67, 68, 69, 70, 71, 72, 73, 74, 75, 76, 77, 78, 79, 80, 81, 82, 83, 84, 85, 86, 87, 88, 89, 90, 91, 92, 93, 94, 95, 96, 97, 98, 99, 100, 101] (by decide +kernel) (by decide +kernel)
set_option maxRecDepth 20000 in
theorem gX8_keyAt_X8_see : GoodIn wsX8_keyAt (wsV RX8 127 RX8 yX8_see wsX8_see) := goodIn_app (goodIn_of _ (by decide +kernel)) ggX8_keyAt_X8_see
theorem dX8_keyAt_0 : decode cX8_keyAt 0 = .ok (.iconst 0, 1) := by decide +kernel
theorem dX8_keyAt_1 : decode cX8_keyAt 1 = .ok (.istore_n 3, 1) := by decide +kernel
theorem dX8_keyAt_2 : decode cX8_keyAt 2 = .ok (.iconst 0, 1) := by decide +kernel
theorem dX8_keyAt_3 : decode cX8_keyAt 3 = .ok (.istore 4, 2) := by decide +kernel
theorem dX8_keyAt_5 : decode cX8_keyAt 5 = .ok (.iconst 0, 1) := by decide +kernel
theorem dX8_keyAt_6 : decode cX8_keyAt 6 = .ok (.istore 5, 2) := by decide +kernel
theorem dX8_keyAt_8 : decode cX8_keyAt 8 = .ok (.iload 5, 2) := by decide +kernel
theorem dX8_keyAt_10 : decode cX8_keyAt 10 = .ok (.ldc 115, 2) := by decide +kernel
theorem dX8_keyAt_12 : decode cX8_keyAt 12 = .ok (.invokevirtual 117, 3) := by decide +kernel
theorem dX8_keyAt_15 : decode cX8_keyAt 15 = .ok (.if_icmp .ge 104, 3) := by decide +kernel
theorem dX8_keyAt_18 : decode cX8_keyAt 18 = .ok (.ldc 115, 2) := by decide +kernel
theorem dX8_keyAt_20 : decode cX8_keyAt 20 = .ok (.iload 5, 2) := by decide +kernel
theorem dX8_keyAt_22 : decode cX8_keyAt 22 = .ok (.invokevirtual 123, 3) := by decide +kernel
theorem dX8_keyAt_25 : decode cX8_keyAt 25 = .ok (.bipush 32, 2) := by decide +kernel
theorem dX8_keyAt_27 : decode cX8_keyAt 27 = .ok (.if_icmp .eq 6, 3) := by decide +kernel
theorem dX8_keyAt_30 : decode cX8_keyAt 30 = .ok (.goto 83, 3) := by decide +kernel
theorem dX8_keyAt_33 : decode cX8_keyAt 33 = .ok (.iload 5, 2) := by decide +kernel
theorem dX8_keyAt_35 : decode cX8_keyAt 35 = .ok (.iload 4, 2) := by decide +kernel
theorem dX8_keyAt_37 : decode cX8_keyAt 37 = .ok (.isub, 1) := by decide +kernel
theorem dX8_keyAt_38 : decode cX8_keyAt 38 = .ok (.iload_n 2, 1) := by decide +kernel
theorem dX8_keyAt_39 : decode cX8_keyAt 39 = .ok (.if_icmp .ne 7, 3) := by decide +kernel
theorem dX8_keyAt_42 : decode cX8_keyAt 42 = .ok (.iconst 1, 1) := by decide +kernel
theorem dX8_keyAt_43 : decode cX8_keyAt 43 = .ok (.goto 4, 3) := by decide +kernel
theorem dX8_keyAt_46 : decode cX8_keyAt 46 = .ok (.iconst 0, 1) := by decide +kernel
theorem dX8_keyAt_47 : decode cX8_keyAt 47 = .ok (.istore 6, 2) := by decide +kernel
theorem dX8_keyAt_49 : decode cX8_keyAt 49 = .ok (.iconst 0, 1) := by decide +kernel
theorem dX8_keyAt_50 : decode cX8_keyAt 50 = .ok (.istore 7, 2) := by decide +kernel
theorem dX8_keyAt_52 : decode cX8_keyAt 52 = .ok (.iload 7, 2) := by decide +kernel
theorem dX8_keyAt_54 : decode cX8_keyAt 54 = .ok (.iload_n 2, 1) := by decide +kernel
theorem dX8_keyAt_55 : decode cX8_keyAt 55 = .ok (.if_icmp .ge 42, 3) := by decide +kernel
theorem dX8_keyAt_58 : decode cX8_keyAt 58 = .ok (.iload 6, 2) := by decide +kernel
theorem dX8_keyAt_60 : decode cX8_keyAt 60 = .ok (.ifCond .eq 37, 3) := by decide +kernel
theorem dX8_keyAt_63 : decode cX8_keyAt 63 = .ok (.ldc 115, 2) := by decide +kernel
theorem dX8_keyAt_65 : decode cX8_keyAt 65 = .ok (.iload 4, 2) := by decide +kernel
theorem dX8_keyAt_67 : decode cX8_keyAt 67 = .ok (.iload 7, 2) := by decide +kernel
theorem dX8_keyAt_69 : decode cX8_keyAt 69 = .ok (.iadd, 1) := by decide +kernel
theorem dX8_keyAt_70 : decode cX8_keyAt 70 = .ok (.invokevirtual 123, 3) := by decide +kernel
theorem dX8_keyAt_73 : decode cX8_keyAt 73 = .ok (.aload_n 0, 1) := by decide +kernel
theorem dX8_keyAt_74 : decode cX8_keyAt 74 = .ok (.iload_n 1, 1) := by decide +kernel
theorem dX8_keyAt_75 : decode cX8_keyAt 75 = .ok (.iload 7, 2) := by decide +kernel
theorem dX8_keyAt_77 : decode cX8_keyAt 77 = .ok (.iadd, 1) := by decide +kernel
theorem dX8_keyAt_78 : decode cX8_keyAt 78 = .ok (.invokevirtual 127, 3) := by decide +kernel
theorem dX8_keyAt_81 : decode cX8_keyAt 81 = .ok (.if_icmp .ne 7, 3) := by decide +kernel
theorem dX8_keyAt_84 : decode cX8_keyAt 84 = .ok (.iconst 1, 1) := by decide +kernel
theorem dX8_keyAt_85 : decode cX8_keyAt 85 = .ok (.goto 4, 3) := by decide +kernel
theorem dX8_keyAt_88 : decode cX8_keyAt 88 = .ok (.iconst 0, 1) := by decide +kernel
theorem dX8_keyAt_89 : decode cX8_keyAt 89 = .ok (.istore 6, 2) := by decide +kernel
theorem dX8_keyAt_91 : decode cX8_keyAt 91 = .ok (.iinc 7 1, 3) := by decide +kernel
theorem dX8_keyAt_94 : decode cX8_keyAt 94 = .ok (.goto (-42), 3) := by decide +kernel
theorem dX8_keyAt_97 : decode cX8_keyAt 97 = .ok (.iload 6, 2) := by decide +kernel
theorem dX8_keyAt_99 : decode cX8_keyAt 99 = .ok (.ifCond .eq 5, 3) := by decide +kernel
theorem dX8_keyAt_102 : decode cX8_keyAt 102 = .ok (.iload_n 3, 1) := by decide +kernel
theorem dX8_keyAt_103 : decode cX8_keyAt 103 = .ok (.ireturn, 1) := by decide +kernel
theorem dX8_keyAt_104 : decode cX8_keyAt 104 = .ok (.iinc 3 1, 3) := by decide +kernel
theorem dX8_keyAt_107 : decode cX8_keyAt 107 = .ok (.iload 5, 2) := by decide +kernel
theorem dX8_keyAt_109 : decode cX8_keyAt 109 = .ok (.iconst 1, 1) := by decide +kernel
theorem dX8_keyAt_110 : decode cX8_keyAt 110 = .ok (.iadd, 1) := by decide +kernel
theorem dX8_keyAt_111 : decode cX8_keyAt 111 = .ok (.istore 4, 2) := by decide +kernel
theorem dX8_keyAt_113 : decode cX8_keyAt 113 = .ok (.iinc 5 1, 3) := by decide +kernel
theorem dX8_keyAt_116 : decode cX8_keyAt 116 = .ok (.goto (-108), 3) := by decide +kernel
theorem dX8_keyAt_119 : decode cX8_keyAt 119 = .ok (.iconst (-1), 1) := by decide +kernel
theorem dX8_keyAt_120 : decode cX8_keyAt 120 = .ok (.ireturn, 1) := by decide +kernel
set_option maxRecDepth 20000 in
theorem ggX8_scan_X8_see : GoodIn wsX8_scan wsX8_see := goodIn_r _ [10, 11, 12, 72, 73, 74, 75, 76, 77, 78, 79, 80, 81, 82, 83, 84, 85, 86, 87, 88, 89, 90, 91, 92, 93, 94, 95, 96, 97, 98, 99, 100, 101, 102, 103, 104, 105, 106, 107, 108, 109, 110, 111, 112, 113, 114, 115, 116] (by decide +kernel) (by decide +kernel)
set_option maxRecDepth 20000 in
theorem gX8_scan_X8_see : GoodIn wsX8_scan (wsV RX8 127 RX8 yX8_see wsX8_see) := goodIn_app (goodIn_of _ (by decide +kernel)) ggX8_scan_X8_see
set_option maxRecDepth 20000 in
theorem ggX8_scan_X8_isSmall : GoodIn wsX8_scan wsX8_isSmall := goodIn_r _ [15] (by decide +kernel) (by decide +kernel)
set_option maxRecDepth 20000 in
theorem gX8_scan_X8_isSmall : GoodIn wsX8_scan (va_wsS RX8 140 yX8_isSmall wsX8_isSmall) := goodIn_app (goodIn_of _ (by decide +kernel)) ggX8_scan_X8_isSmall
set_option maxRecDepth 20000 in
theorem ggX8_scan_X8_keyAt : GoodIn wsX8_scan wsX8_keyAt := goodIn_r _ [19, 20, 21, 22, 23, 24, 25, 26, 27, 28, 29, 30, 31, 32, 33, 34, 35, 36, 37, 38, 39, 40, 41, 42, 43, 44, 45, 46, 47, 48, 49, 50, 51, 52, 53, 54, 55, 56, 57, 58, 59, 60, 61, 62, 63, 64, 65, 66, 67, 68, 6, 7, 8, 9, 10, 11, 12, 72, 73, 74, 75, 76, 77, 78, 79, 80, 81, 82, 83, 84, 85, 86, 87, 88, 89, 90, 91, 92, 93, 94, 95, 96, 97, 98, 99, 100, 101, 102, 103, 104, 105, 106, 107, 108, 109, 110, 111, 112, 113, 114, 115, 116] (by decide +kernel) (by decide +kernel)
set_option maxRecDepth 20000 in
theorem gX8_scan_X8_keyAt : GoodIn wsX8_scan (wsV RX8 144 RX8 yX8_keyAt wsX8_keyAt) := goodIn_app (goodIn_of _ (by decide +kernel)) ggX8_scan_X8_keyAt
set_option maxRecDepth 20000 in
theorem ggX8_scan_X8_isDigit : GoodIn wsX8_scan wsX8_isDigit := goodIn_r _ [71] (by decide +kernel) (by decide +kernel)
set_option maxRecDepth 20000 in
theorem gX8_scan_X8_isDigit : GoodIn wsX8_scan (va_wsS RX8 151 yX8_isDigit wsX8_isDigit) := goodIn_app (goodIn_of _ (by decide +kernel)) ggX8_scan_X8_isDigit
theorem dX8_scan_0 : decode cX8_scan 0 = .ok (.aload_n 0, 1) := by decide +kernel
theorem dX8_scan_1 : decode cX8_scan 1 = .ok (.getfield 131, 3) := by decide +kernel
theorem dX8_scan_4 : decode cX8_scan 4 = .ok (.istore_n 1, 1) := by decide +kernel
theorem dX8_scan_5 : decode cX8_scan 5 = .ok (.aload_n 0, 1) := by decide +kernel
theorem dX8_scan_6 : decode cX8_scan 6 = .ok (.iload_n 1, 1) := by decide +kernel
theorem dX8_scan_7 : decode cX8_scan 7 = .ok (.invokevirtual 127, 3) := by decide +kernel
theorem dX8_scan_10 : decode cX8_scan 10 = .ok (.bipush 32, 2) := by decide +kernel
theorem dX8_scan_12 : decode cX8_scan 12 = .ok (.if_icmp .eq 13, 3) := by decide +kernel
theorem dX8_scan_15 : decode cX8_scan 15 = .ok (.aload_n 0, 1) := by decide +kernel
theorem dX8_scan_16 : decode cX8_scan 16 = .ok (.iload_n 1, 1) := by decide +kernel
theorem dX8_scan_17 : decode cX8_scan 17 = .ok (.invokevirtual 127, 3) := by decide +kernel
theorem dX8_scan_20 : decode cX8_scan 20 = .ok (.bipush 10, 2) := by decide +kernel
theorem dX8_scan_22 : decode cX8_scan 22 = .ok (.if_icmp .ne 9, 3) := by decide +kernel
theorem dX8_scan_25 : decode cX8_scan 25 = .ok (.iinc 1 1, 3) := by decide +kernel
theorem dX8_scan_28 : decode cX8_scan 28 = .ok (.goto (-23), 3) := by decide +kernel
theorem dX8_scan_31 : decode cX8_scan 31 = .ok (.aload_n 0, 1) := by decide +kernel
theorem dX8_scan_32 : decode cX8_scan 32 = .ok (.iload_n 1, 1) := by decide +kernel
theorem dX8_scan_33 : decode cX8_scan 33 = .ok (.putfield 134, 3) := by decide +kernel
theorem dX8_scan_36 : decode cX8_scan 36 = .ok (.aload_n 0, 1) := by decide +kernel
theorem dX8_scan_37 : decode cX8_scan 37 = .ok (.iload_n 1, 1) := by decide +kernel
theorem dX8_scan_38 : decode cX8_scan 38 = .ok (.invokevirtual 127, 3) := by decide +kernel
theorem dX8_scan_41 : decode cX8_scan 41 = .ok (.istore_n 2, 1) := by decide +kernel
theorem dX8_scan_42 : decode cX8_scan 42 = .ok (.iload_n 2, 1) := by decide +kernel
theorem dX8_scan_43 : decode cX8_scan 43 = .ok (.iconst (-1), 1) := by decide +kernel
theorem dX8_scan_44 : decode cX8_scan 44 = .ok (.if_icmp .ne 14, 3) := by decide +kernel
theorem dX8_scan_47 : decode cX8_scan 47 = .ok (.aload_n 0, 1) := by decide +kernel
theorem dX8_scan_48 : decode cX8_scan 48 = .ok (.iconst 4, 1) := by decide +kernel
theorem dX8_scan_49 : decode cX8_scan 49 = .ok (.putfield 137, 3) := by decide +kernel
theorem dX8_scan_52 : decode cX8_scan 52 = .ok (.aload_n 0, 1) := by decide +kernel
theorem dX8_scan_53 : decode cX8_scan 53 = .ok (.iload_n 1, 1) := by decide +kernel
theorem dX8_scan_54 : decode cX8_scan 54 = .ok (.putfield 131, 3) := by decide +kernel
theorem dX8_scan_57 : decode cX8_scan 57 = .ok (.return_, 1) := by decide +kernel
theorem dX8_scan_58 : decode cX8_scan 58 = .ok (.iload_n 1, 1) := by decide +kernel
theorem dX8_scan_59 : decode cX8_scan 59 = .ok (.iconst 1, 1) := by decide +kernel
theorem dX8_scan_60 : decode cX8_scan 60 = .ok (.iadd, 1) := by decide +kernel
theorem dX8_scan_61 : decode cX8_scan 61 = .ok (.istore_n 3, 1) := by decide +kernel
theorem dX8_scan_62 : decode cX8_scan 62 = .ok (.iload_n 2, 1) := by decide +kernel
theorem dX8_scan_63 : decode cX8_scan 63 = .ok (.invokestatic 140, 3) := by decide +kernel
theorem dX8_scan_66 : decode cX8_scan 66 = .ok (.ifCond .eq 52, 3) := by decide +kernel
theorem dX8_scan_69 : decode cX8_scan 69 = .ok (.aload_n 0, 1) := by decide +kernel
theorem dX8_scan_70 : decode cX8_scan 70 = .ok (.iload_n 3, 1) := by decide +kernel
theorem dX8_scan_71 : decode cX8_scan 71 = .ok (.invokevirtual 127, 3) := by decide +kernel
theorem dX8_scan_74 : decode cX8_scan 74 = .ok (.invokestatic 140, 3) := by decide +kernel
theorem dX8_scan_77 : decode cX8_scan 77 = .ok (.ifCond .eq 9, 3) := by decide +kernel
theorem dX8_scan_80 : decode cX8_scan 80 = .ok (.iinc 3 1, 3) := by decide +kernel
theorem dX8_scan_83 : decode cX8_scan 83 = .ok (.goto (-14), 3) := by decide +kernel
theorem dX8_scan_86 : decode cX8_scan 86 = .ok (.aload_n 0, 1) := by decide +kernel
theorem dX8_scan_87 : decode cX8_scan 87 = .ok (.aload_n 0, 1) := by decide +kernel
theorem dX8_scan_88 : decode cX8_scan 88 = .ok (.iload_n 1, 1) := by decide +kernel
theorem dX8_scan_89 : decode cX8_scan 89 = .ok (.iload_n 3, 1) := by decide +kernel
theorem dX8_scan_90 : decode cX8_scan 90 = .ok (.iload_n 1, 1) := by decide +kernel
theorem dX8_scan_91 : decode cX8_scan 91 = .ok (.isub, 1) := by decide +kernel
theorem dX8_scan_92 : decode cX8_scan 92 = .ok (.invokevirtual 144, 3) := by decide +kernel
theorem dX8_scan_95 : decode cX8_scan 95 = .ok (.putfield 148, 3) := by decide +kernel
theorem dX8_scan_98 : decode cX8_scan 98 = .ok (.aload_n 0, 1) := by decide +kernel
theorem dX8_scan_99 : decode cX8_scan 99 = .ok (.aload_n 0, 1) := by decide +kernel
theorem dX8_scan_100 : decode cX8_scan 100 = .ok (.getfield 148, 3) := by decide +kernel
theorem dX8_scan_103 : decode cX8_scan 103 = .ok (.iconst (-1), 1) := by decide +kernel
theorem dX8_scan_104 : decode cX8_scan 104 = .ok (.if_icmp .ne 7, 3) := by decide +kernel
theorem dX8_scan_107 : decode cX8_scan 107 = .ok (.iconst 0, 1) := by decide +kernel
theorem dX8_scan_108 : decode cX8_scan 108 = .ok (.goto 4, 3) := by decide +kernel
theorem dX8_scan_111 : decode cX8_scan 111 = .ok (.iconst 1, 1) := by decide +kernel
theorem dX8_scan_112 : decode cX8_scan 112 = .ok (.putfield 137, 3) := by decide +kernel
theorem dX8_scan_115 : decode cX8_scan 115 = .ok (.goto 103, 3) := by decide +kernel
theorem dX8_scan_118 : decode cX8_scan 118 = .ok (.iload_n 2, 1) := by decide +kernel
theorem dX8_scan_119 : decode cX8_scan 119 = .ok (.invokestatic 151, 3) := by decide +kernel
theorem dX8_scan_122 : decode cX8_scan 122 = .ok (.ifCond .eq 81, 3) := by decide +kernel
theorem dX8_scan_125 : decode cX8_scan 125 = .ok (.aload_n 0, 1) := by decide +kernel
theorem dX8_scan_126 : decode cX8_scan 126 = .ok (.iload_n 2, 1) := by decide +kernel
theorem dX8_scan_127 : decode cX8_scan 127 = .ok (.bipush 48, 2) := by decide +kernel
theorem dX8_scan_129 : decode cX8_scan 129 = .ok (.isub, 1) := by decide +kernel
theorem dX8_scan_130 : decode cX8_scan 130 = .ok (.putfield 154, 3) := by decide +kernel
theorem dX8_scan_133 : decode cX8_scan 133 = .ok (.aload_n 0, 1) := by decide +kernel
theorem dX8_scan_134 : decode cX8_scan 134 = .ok (.iload_n 3, 1) := by decide +kernel
theorem dX8_scan_135 : decode cX8_scan 135 = .ok (.invokevirtual 127, 3) := by decide +kernel
theorem dX8_scan_138 : decode cX8_scan 138 = .ok (.invokestatic 151, 3) := by decide +kernel
theorem dX8_scan_141 : decode cX8_scan 141 = .ok (.ifCond .eq 43, 3) := by decide +kernel
theorem dX8_scan_144 : decode cX8_scan 144 = .ok (.aload_n 0, 1) := by decide +kernel
