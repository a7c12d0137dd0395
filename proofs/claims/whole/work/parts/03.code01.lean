theorem dX4_init_18 : decode cX4_init 18 = .ok (.aload_n 2, 1) := by decide +kernel
theorem dX4_init_19 : decode cX4_init 19 = .ok (.putfield 19, 3) := by decide +kernel
theorem dX4_init_22 : decode cX4_init 22 = .ok (.return_, 1) := by decide +kernel
set_option maxRecDepth 20000 in
theorem ggX4_makePlan_X4_allNights : GoodIn wsX4_makePlan wsX4_allNights := goodIn_r _ [7] (by decide +kernel) (by decide +kernel)
set_option maxRecDepth 20000 in
theorem gX4_makePlan_X4_allNights : GoodIn wsX4_makePlan (va_wsS RX4 23 yX4_allNights wsX4_allNights) := goodIn_app (goodIn_of _ (by decide +kernel)) ggX4_makePlan_X4_allNights
set_option maxRecDepth 20000 in
theorem ggX4_makePlan_X4_giveSet : GoodIn wsX4_makePlan wsX4_giveSet := goodIn_r _ [11, 12, 13, 14, 15, 16, 17, 18, 19, 20, 21, 22, 23, 24, 25, 26, 124, 125, 126, 135, 136, 137, 138, 139, 140] (by decide +kernel) (by decide +kernel)
set_option maxRecDepth 20000 in
theorem gX4_makePlan_X4_giveSet : GoodIn wsX4_makePlan (wsV RX4 27 RX4 yX4_giveSet wsX4_giveSet) := goodIn_app (goodIn_of _ (by decide +kernel)) ggX4_makePlan_X4_giveSet
set_option maxRecDepth 20000 in
theorem ggX4_makePlan_J7_fill_d0a16 : GoodIn wsX4_makePlan wsJ7_fill_d0a16 := goodIn_r _ [30] (by decide +kernel) (by decide +kernel)
set_option maxRecDepth 20000 in
theorem gX4_makePlan_J7_fill_d0a16 : GoodIn wsX4_makePlan (va_wsS RX4 33 yJ7_fill_d0a16 wsJ7_fill_d0a16) := goodIn_app (goodIn_of _ (by decide +kernel)) ggX4_makePlan_J7_fill_d0a16
set_option maxRecDepth 20000 in
theorem ggX4_makePlan_X3_isOn : GoodIn wsX4_makePlan wsX3_isOn := goodIn_r _ [34, 35, 13, 14, 15, 127, 128, 129, 130, 131, 132, 133, 134] (by decide +kernel) (by decide +kernel)
set_option maxRecDepth 20000 in
theorem gX4_makePlan_X3_isOn_n45 : GoodIn wsX4_makePlan (wsX3_isOn) := ggX4_makePlan_X3_isOn
set_option maxRecDepth 20000 in
theorem ggX4_makePlan_X4_fittingSets : GoodIn wsX4_makePlan wsX4_fittingSets := goodIn_r _ [39, 13, 14, 15, 40, 41, 42, 6, 43, 12, 8, 9, 10, 11, 16, 17, 18, 19, 20, 21, 22, 23, 24, 25, 26, 44, 45, 46, 47, 48, 31, 32, 33, 34, 35, 49, 50, 51, 52, 53, 54, 55, 56, 57, 58, 59, 60, 61, 62, 63, 64, 65, 66, 67, 68, 69, 70, 71, 72, 73, 74, 75, 76, 77, 78, 79, 80, 81, 82, 83, 124, 125, 126, 135, 136, 137, 138, 139, 140, 127, 128, 129, 130, 131, 132, 133, 134, 141, 142] (by decide +kernel) (by decide +kernel)
set_option maxRecDepth 20000 in
theorem gX4_makePlan_X4_fittingSets : GoodIn wsX4_makePlan (wsV RX4 49 RX4 yX4_fittingSets wsX4_fittingSets) := goodIn_app (goodIn_of _ (by decide +kernel)) ggX4_makePlan_X4_fittingSets
set_option maxRecDepth 20000 in
theorem ggX4_makePlan_X4_offer : GoodIn wsX4_makePlan wsX4_offer := goodIn_r _ [87, 1, 2, 88, 89, 90, 91, 4, 5, 6, 7, 13, 14, 15, 92, 93, 94, 95, 96, 12, 97, 98, 99, 100, 101, 102, 103, 104, 105, 106, 124, 125, 126, 135, 136, 137, 138, 139, 140] (by decide +kernel) (by decide +kernel)
set_option maxRecDepth 20000 in
theorem gX4_makePlan_X4_offer : GoodIn wsX4_makePlan (wsV RX4 53 RX4 yX4_offer wsX4_offer) := goodIn_app (goodIn_of _ (by decide +kernel)) ggX4_makePlan_X4_offer
set_option maxRecDepth 20000 in
theorem ggX4_makePlan_X4_leastWay : GoodIn wsX4_makePlan wsX4_leastWay := goodIn_r _ [110, 2, 1, 88, 89, 90, 91, 4, 5, 6, 7, 111, 112, 113, 97, 98, 99, 100, 101, 102, 103, 104, 105, 106, 13, 14, 15, 124, 125, 126] (by decide +kernel) (by decide +kernel)
set_option maxRecDepth 20000 in
theorem gX4_makePlan_X4_leastWay : GoodIn wsX4_makePlan (wsV RX4 57 RX4 yX4_leastWay wsX4_leastWay) := goodIn_app (goodIn_of _ (by decide +kernel)) ggX4_makePlan_X4_leastWay
set_option maxRecDepth 20000 in
theorem ggX4_makePlan_X4_giveRow : GoodIn wsX4_makePlan wsX4_giveRow := goodIn_r _ [117, 3, 12, 118, 32, 119, 120, 121, 122, 14, 123, 16, 17, 18, 19, 20, 21, 22, 23, 24, 25, 26, 124, 125, 126, 127, 128, 129, 130, 131, 132, 133, 134, 135, 136, 137, 138, 139, 140] (by decide +kernel) (by decide +kernel)
set_option maxRecDepth 20000 in
theorem gX4_makePlan_X4_giveRow : GoodIn wsX4_makePlan (wsV RX4 61 RX4 yX4_giveRow wsX4_giveRow) := goodIn_app (goodIn_of _ (by decide +kernel)) ggX4_makePlan_X4_giveRow
theorem dX4_makePlan_0 : decode cX4_makePlan 0 = .ok (.aload_n 0, 1) := by decide +kernel
theorem dX4_makePlan_1 : decode cX4_makePlan 1 = .ok (.iload_n 1, 1) := by decide +kernel
theorem dX4_makePlan_2 : decode cX4_makePlan 2 = .ok (.iload_n 2, 1) := by decide +kernel
theorem dX4_makePlan_3 : decode cX4_makePlan 3 = .ok (.iload_n 3, 1) := by decide +kernel
theorem dX4_makePlan_4 : decode cX4_makePlan 4 = .ok (.invokestatic 23, 3) := by decide +kernel
theorem dX4_makePlan_7 : decode cX4_makePlan 7 = .ok (.iconst (-1), 1) := by decide +kernel
theorem dX4_makePlan_8 : decode cX4_makePlan 8 = .ok (.invokevirtual 27, 3) := by decide +kernel
theorem dX4_makePlan_11 : decode cX4_makePlan 11 = .ok (.aload_n 0, 1) := by decide +kernel
theorem dX4_makePlan_12 : decode cX4_makePlan 12 = .ok (.getfield 11, 3) := by decide +kernel
theorem dX4_makePlan_15 : decode cX4_makePlan 15 = .ok (.ldc2_w 31, 3) := by decide +kernel
theorem dX4_makePlan_18 : decode cX4_makePlan 18 = .ok (.invokestatic 33, 3) := by decide +kernel
theorem dX4_makePlan_21 : decode cX4_makePlan 21 = .ok (.aload_n 0, 1) := by decide +kernel
theorem dX4_makePlan_22 : decode cX4_makePlan 22 = .ok (.getfield 11, 3) := by decide +kernel
theorem dX4_makePlan_25 : decode cX4_makePlan 25 = .ok (.iconst 0, 1) := by decide +kernel
theorem dX4_makePlan_26 : decode cX4_makePlan 26 = .ok (.lconst 0, 1) := by decide +kernel
theorem dX4_makePlan_27 : decode cX4_makePlan 27 = .ok (.lastore, 1) := by decide +kernel
theorem dX4_makePlan_28 : decode cX4_makePlan 28 = .ok (.iconst 0, 1) := by decide +kernel
theorem dX4_makePlan_29 : decode cX4_makePlan 29 = .ok (.istore 4, 2) := by decide +kernel
theorem dX4_makePlan_31 : decode cX4_makePlan 31 = .ok (.iload 4, 2) := by decide +kernel
theorem dX4_makePlan_33 : decode cX4_makePlan 33 = .ok (.aload_n 0, 1) := by decide +kernel
theorem dX4_makePlan_34 : decode cX4_makePlan 34 = .ok (.getfield 15, 3) := by decide +kernel
theorem dX4_makePlan_37 : decode cX4_makePlan 37 = .ok (.getfield 39, 3) := by decide +kernel
theorem dX4_makePlan_40 : decode cX4_makePlan 40 = .ok (.if_icmp .ge 38, 3) := by decide +kernel
theorem dX4_makePlan_43 : decode cX4_makePlan 43 = .ok (.aload_n 0, 1) := by decide +kernel
theorem dX4_makePlan_44 : decode cX4_makePlan 44 = .ok (.getfield 15, 3) := by decide +kernel
theorem dX4_makePlan_47 : decode cX4_makePlan 47 = .ok (.iload 4, 2) := by decide +kernel
theorem dX4_makePlan_49 : decode cX4_makePlan 49 = .ok (.iload_n 1, 1) := by decide +kernel
theorem dX4_makePlan_50 : decode cX4_makePlan 50 = .ok (.invokevirtual 45, 3) := by decide +kernel
theorem dX4_makePlan_53 : decode cX4_makePlan 53 = .ok (.ifCond .eq 19, 3) := by decide +kernel
theorem dX4_makePlan_56 : decode cX4_makePlan 56 = .ok (.aload_n 0, 1) := by decide +kernel
theorem dX4_makePlan_57 : decode cX4_makePlan 57 = .ok (.iload 4, 2) := by decide +kernel
theorem dX4_makePlan_59 : decode cX4_makePlan 59 = .ok (.iload_n 3, 1) := by decide +kernel
theorem dX4_makePlan_60 : decode cX4_makePlan 60 = .ok (.aload_n 0, 1) := by decide +kernel
theorem dX4_makePlan_61 : decode cX4_makePlan 61 = .ok (.iload 4, 2) := by decide +kernel
theorem dX4_makePlan_63 : decode cX4_makePlan 63 = .ok (.iload_n 1, 1) := by decide +kernel
theorem dX4_makePlan_64 : decode cX4_makePlan 64 = .ok (.iload_n 2, 1) := by decide +kernel
theorem dX4_makePlan_65 : decode cX4_makePlan 65 = .ok (.iload_n 3, 1) := by decide +kernel
theorem dX4_makePlan_66 : decode cX4_makePlan 66 = .ok (.invokevirtual 49, 3) := by decide +kernel
theorem dX4_makePlan_69 : decode cX4_makePlan 69 = .ok (.invokevirtual 53, 3) := by decide +kernel
theorem dX4_makePlan_72 : decode cX4_makePlan 72 = .ok (.iinc 4 1, 3) := by decide +kernel
theorem dX4_makePlan_75 : decode cX4_makePlan 75 = .ok (.goto (-44), 3) := by decide +kernel
theorem dX4_makePlan_78 : decode cX4_makePlan 78 = .ok (.aload_n 0, 1) := by decide +kernel
theorem dX4_makePlan_79 : decode cX4_makePlan 79 = .ok (.iload_n 1, 1) := by decide +kernel
theorem dX4_makePlan_80 : decode cX4_makePlan 80 = .ok (.iload_n 2, 1) := by decide +kernel
theorem dX4_makePlan_81 : decode cX4_makePlan 81 = .ok (.iload_n 3, 1) := by decide +kernel
theorem dX4_makePlan_82 : decode cX4_makePlan 82 = .ok (.aload_n 0, 1) := by decide +kernel
theorem dX4_makePlan_83 : decode cX4_makePlan 83 = .ok (.iload_n 3, 1) := by decide +kernel
theorem dX4_makePlan_84 : decode cX4_makePlan 84 = .ok (.invokevirtual 57, 3) := by decide +kernel
theorem dX4_makePlan_87 : decode cX4_makePlan 87 = .ok (.invokevirtual 61, 3) := by decide +kernel
theorem dX4_makePlan_90 : decode cX4_makePlan 90 = .ok (.ireturn, 1) := by decide +kernel
theorem dX4_allNights_0 : decode cX4_allNights 0 = .ok (.iconst 1, 1) := by decide +kernel
theorem dX4_allNights_1 : decode cX4_allNights 1 = .ok (.iload_n 0, 1) := by decide +kernel
theorem dX4_allNights_2 : decode cX4_allNights 2 = .ok (.ishl, 1) := by decide +kernel
theorem dX4_allNights_3 : decode cX4_allNights 3 = .ok (.iconst 1, 1) := by decide +kernel
theorem dX4_allNights_4 : decode cX4_allNights 4 = .ok (.isub, 1) := by decide +kernel
theorem dX4_allNights_5 : decode cX4_allNights 5 = .ok (.ireturn, 1) := by decide +kernel
set_option maxRecDepth 20000 in
theorem ggX4_giveSet_X7_hasBit : GoodIn wsX4_giveSet wsX7_hasBit := goodIn_r _ [4] (by decide +kernel) (by decide +kernel)
set_option maxRecDepth 20000 in
theorem gX4_giveSet_X7_hasBit_n65 : GoodIn wsX4_giveSet (wsX7_hasBit) := ggX4_giveSet_X7_hasBit
set_option maxRecDepth 20000 in
theorem ggX4_giveSet_X2_put : GoodIn wsX4_giveSet wsX2_put := goodIn_r _ [8, 9, 10, 11, 12, 13, 14, 6, 15, 19, 20, 21, 22, 23, 24] (by decide +kernel) (by decide +kernel)
set_option maxRecDepth 20000 in
theorem gX4_giveSet_X2_put_n68 : GoodIn wsX4_giveSet (wsX2_put) := ggX4_giveSet_X2_put
theorem dX4_giveSet_0 : decode cX4_giveSet 0 = .ok (.iconst 0, 1) := by decide +kernel
theorem dX4_giveSet_1 : decode cX4_giveSet 1 = .ok (.istore 5, 2) := by decide +kernel
theorem dX4_giveSet_3 : decode cX4_giveSet 3 = .ok (.iload 5, 2) := by decide +kernel
theorem dX4_giveSet_5 : decode cX4_giveSet 5 = .ok (.iconst 4, 1) := by decide +kernel
theorem dX4_giveSet_6 : decode cX4_giveSet 6 = .ok (.if_icmp .ge 32, 3) := by decide +kernel
theorem dX4_giveSet_9 : decode cX4_giveSet 9 = .ok (.iload_n 3, 1) := by decide +kernel
theorem dX4_giveSet_10 : decode cX4_giveSet 10 = .ok (.iload 5, 2) := by decide +kernel
theorem dX4_giveSet_12 : decode cX4_giveSet 12 = .ok (.invokestatic 65, 3) := by decide +kernel
theorem dX4_giveSet_15 : decode cX4_giveSet 15 = .ok (.ifCond .eq 17, 3) := by decide +kernel
theorem dX4_giveSet_18 : decode cX4_giveSet 18 = .ok (.aload_n 0, 1) := by decide +kernel
theorem dX4_giveSet_19 : decode cX4_giveSet 19 = .ok (.getfield 19, 3) := by decide +kernel
theorem dX4_giveSet_22 : decode cX4_giveSet 22 = .ok (.iload_n 1, 1) := by decide +kernel
theorem dX4_giveSet_23 : decode cX4_giveSet 23 = .ok (.iload_n 2, 1) := by decide +kernel
theorem dX4_giveSet_24 : decode cX4_giveSet 24 = .ok (.iload 5, 2) := by decide +kernel
theorem dX4_giveSet_26 : decode cX4_giveSet 26 = .ok (.iadd, 1) := by decide +kernel
theorem dX4_giveSet_27 : decode cX4_giveSet 27 = .ok (.iload 4, 2) := by decide +kernel
theorem dX4_giveSet_29 : decode cX4_giveSet 29 = .ok (.invokevirtual 68, 3) := by decide +kernel
theorem dX4_giveSet_32 : decode cX4_giveSet 32 = .ok (.iinc 5 1, 3) := by decide +kernel
theorem dX4_giveSet_35 : decode cX4_giveSet 35 = .ok (.goto (-32), 3) := by decide +kernel
theorem dX4_giveSet_38 : decode cX4_giveSet 38 = .ok (.return_, 1) := by decide +kernel
set_option maxRecDepth 20000 in
theorem ggX4_fittingSets_X7_hasBit : GoodIn wsX4_fittingSets wsX7_hasBit := goodIn_r _ [3] (by decide +kernel) (by decide +kernel)
set_option maxRecDepth 20000 in
theorem gX4_fittingSets_X7_hasBit_n65 : GoodIn wsX4_fittingSets (wsX7_hasBit) := ggX4_fittingSets_X7_hasBit
set_option maxRecDepth 20000 in
theorem ggX4_fittingSets_X4_mayAlso : GoodIn wsX4_fittingSets wsX4_mayAlso := goodIn_r _ [8, 9, 10, 11, 12, 7, 13, 1, 2, 3, 14, 15, 16, 17, 18, 19, 20, 21, 22, 23, 24, 25, 26, 27, 28, 29, 30, 31, 32, 33, 34, 35, 36, 37, 38, 39, 40, 41, 42, 43, 44, 45, 46, 47, 48, 49, 50, 51, 52, 53, 54, 55, 56, 57, 58, 59, 60, 61, 62, 63, 64, 65, 66, 67, 68, 69, 70, 71, 72, 73, 74, 75, 76, 77, 78, 79, 80, 81, 82, 83, 84, 85, 86, 87, 88] (by decide +kernel) (by decide +kernel)
set_option maxRecDepth 20000 in
theorem gX4_fittingSets_X4_mayAlso : GoodIn wsX4_fittingSets (wsV RX4 73 RX4 yX4_mayAlso wsX4_mayAlso) := goodIn_app (goodIn_of _ (by decide +kernel)) ggX4_fittingSets_X4_mayAlso
theorem dX4_fittingSets_0 : decode cX4_fittingSets 0 = .ok (.iconst 1, 1) := by decide +kernel
theorem dX4_fittingSets_1 : decode cX4_fittingSets 1 = .ok (.istore 5, 2) := by decide +kernel
theorem dX4_fittingSets_3 : decode cX4_fittingSets 3 = .ok (.iconst 0, 1) := by decide +kernel
theorem dX4_fittingSets_4 : decode cX4_fittingSets 4 = .ok (.istore 6, 2) := by decide +kernel
theorem dX4_fittingSets_6 : decode cX4_fittingSets 6 = .ok (.iload 6, 2) := by decide +kernel
theorem dX4_fittingSets_8 : decode cX4_fittingSets 8 = .ok (.iload 4, 2) := by decide +kernel
theorem dX4_fittingSets_10 : decode cX4_fittingSets 10 = .ok (.if_icmp .ge 65, 3) := by decide +kernel
theorem dX4_fittingSets_13 : decode cX4_fittingSets 13 = .ok (.iconst 0, 1) := by decide +kernel
theorem dX4_fittingSets_14 : decode cX4_fittingSets 14 = .ok (.istore 7, 2) := by decide +kernel
theorem dX4_fittingSets_16 : decode cX4_fittingSets 16 = .ok (.iload 7, 2) := by decide +kernel
theorem dX4_fittingSets_18 : decode cX4_fittingSets 18 = .ok (.iconst 1, 1) := by decide +kernel
theorem dX4_fittingSets_19 : decode cX4_fittingSets 19 = .ok (.iload 6, 2) := by decide +kernel
theorem dX4_fittingSets_21 : decode cX4_fittingSets 21 = .ok (.ishl, 1) := by decide +kernel
theorem dX4_fittingSets_22 : decode cX4_fittingSets 22 = .ok (.if_icmp .ge 47, 3) := by decide +kernel
theorem dX4_fittingSets_25 : decode cX4_fittingSets 25 = .ok (.iload 5, 2) := by decide +kernel
theorem dX4_fittingSets_27 : decode cX4_fittingSets 27 = .ok (.iload 7, 2) := by decide +kernel
theorem dX4_fittingSets_29 : decode cX4_fittingSets 29 = .ok (.invokestatic 65, 3) := by decide +kernel
theorem dX4_fittingSets_32 : decode cX4_fittingSets 32 = .ok (.ifCond .eq 31, 3) := by decide +kernel
theorem dX4_fittingSets_35 : decode cX4_fittingSets 35 = .ok (.aload_n 0, 1) := by decide +kernel
theorem dX4_fittingSets_36 : decode cX4_fittingSets 36 = .ok (.iload_n 1, 1) := by decide +kernel
theorem dX4_fittingSets_37 : decode cX4_fittingSets 37 = .ok (.iload_n 2, 1) := by decide +kernel
theorem dX4_fittingSets_38 : decode cX4_fittingSets 38 = .ok (.iload_n 3, 1) := by decide +kernel
theorem dX4_fittingSets_39 : decode cX4_fittingSets 39 = .ok (.iload 7, 2) := by decide +kernel
theorem dX4_fittingSets_41 : decode cX4_fittingSets 41 = .ok (.iload 6, 2) := by decide +kernel
theorem dX4_fittingSets_43 : decode cX4_fittingSets 43 = .ok (.invokevirtual 73, 3) := by decide +kernel
theorem dX4_fittingSets_46 : decode cX4_fittingSets 46 = .ok (.ifCond .eq 17, 3) := by decide +kernel
theorem dX4_fittingSets_49 : decode cX4_fittingSets 49 = .ok (.iload 5, 2) := by decide +kernel
theorem dX4_fittingSets_51 : decode cX4_fittingSets 51 = .ok (.iconst 1, 1) := by decide +kernel
theorem dX4_fittingSets_52 : decode cX4_fittingSets 52 = .ok (.iload 7, 2) := by decide +kernel
theorem dX4_fittingSets_54 : decode cX4_fittingSets 54 = .ok (.iconst 1, 1) := by decide +kernel
theorem dX4_fittingSets_55 : decode cX4_fittingSets 55 = .ok (.iload 6, 2) := by decide +kernel
theorem dX4_fittingSets_57 : decode cX4_fittingSets 57 = .ok (.ishl, 1) := by decide +kernel
theorem dX4_fittingSets_58 : decode cX4_fittingSets 58 = .ok (.ior, 1) := by decide +kernel
theorem dX4_fittingSets_59 : decode cX4_fittingSets 59 = .ok (.ishl, 1) := by decide +kernel
theorem dX4_fittingSets_60 : decode cX4_fittingSets 60 = .ok (.ior, 1) := by decide +kernel
theorem dX4_fittingSets_61 : decode cX4_fittingSets 61 = .ok (.istore 5, 2) := by decide +kernel
theorem dX4_fittingSets_63 : decode cX4_fittingSets 63 = .ok (.iinc 7 1, 3) := by decide +kernel
theorem dX4_fittingSets_66 : decode cX4_fittingSets 66 = .ok (.goto (-50), 3) := by decide +kernel
theorem dX4_fittingSets_69 : decode cX4_fittingSets 69 = .ok (.iinc 6 1, 3) := by decide +kernel
theorem dX4_fittingSets_72 : decode cX4_fittingSets 72 = .ok (.goto (-66), 3) := by decide +kernel
theorem dX4_fittingSets_75 : decode cX4_fittingSets 75 = .ok (.iload 5, 2) := by decide +kernel
theorem dX4_fittingSets_77 : decode cX4_fittingSets 77 = .ok (.ireturn, 1) := by decide +kernel
set_option maxRecDepth 20000 in
theorem ggX4_mayAlso_X4_giveSet : GoodIn wsX4_mayAlso wsX4_giveSet := goodIn_r _ [6, 1, 7, 8, 9, 10, 11, 12, 13, 14, 15, 16, 17, 18, 19, 20, 66, 67, 68, 69, 70, 71, 72, 73, 74] (by decide +kernel) (by decide +kernel)
set_option maxRecDepth 20000 in
theorem gX4_mayAlso_X4_giveSet : GoodIn wsX4_mayAlso (wsV RX4 27 RX4 yX4_giveSet wsX4_giveSet) := goodIn_app (goodIn_of _ (by decide +kernel)) ggX4_mayAlso_X4_giveSet
set_option maxRecDepth 20000 in
theorem ggX4_mayAlso_X2_mayHave : GoodIn wsX4_mayAlso wsX2_mayHave := goodIn_r _ [23, 24, 25, 26, 27, 28, 29, 30, 7, 8, 9, 31, 32, 33, 34, 35, 36, 37, 38, 39, 40, 41, 42, 43, 44, 45, 46, 47, 48, 49, 50, 51, 52, 53, 54, 55, 56, 11, 57, 58, 59, 60, 61, 14, 62, 63, 64, 65, 15, 69, 70, 71, 72, 73, 74, 75, 76, 77, 78, 79, 80, 81, 82, 83, 84] (by decide +kernel) (by decide +kernel)
set_option maxRecDepth 20000 in
theorem gX4_mayAlso_X2_mayHave_n77 : GoodIn wsX4_mayAlso (wsX2_mayHave) := ggX4_mayAlso_X2_mayHave
theorem dX4_mayAlso_0 : decode cX4_mayAlso 0 = .ok (.aload_n 0, 1) := by decide +kernel
theorem dX4_mayAlso_1 : decode cX4_mayAlso 1 = .ok (.iload_n 2, 1) := by decide +kernel
theorem dX4_mayAlso_2 : decode cX4_mayAlso 2 = .ok (.iload_n 3, 1) := by decide +kernel
theorem dX4_mayAlso_3 : decode cX4_mayAlso 3 = .ok (.iload 4, 2) := by decide +kernel
theorem dX4_mayAlso_5 : decode cX4_mayAlso 5 = .ok (.iload_n 1, 1) := by decide +kernel
theorem dX4_mayAlso_6 : decode cX4_mayAlso 6 = .ok (.invokevirtual 27, 3) := by decide +kernel
theorem dX4_mayAlso_9 : decode cX4_mayAlso 9 = .ok (.aload_n 0, 1) := by decide +kernel
theorem dX4_mayAlso_10 : decode cX4_mayAlso 10 = .ok (.getfield 19, 3) := by decide +kernel
theorem dX4_mayAlso_13 : decode cX4_mayAlso 13 = .ok (.iload_n 1, 1) := by decide +kernel
theorem dX4_mayAlso_14 : decode cX4_mayAlso 14 = .ok (.iload_n 2, 1) := by decide +kernel
theorem dX4_mayAlso_15 : decode cX4_mayAlso 15 = .ok (.iload_n 3, 1) := by decide +kernel
theorem dX4_mayAlso_16 : decode cX4_mayAlso 16 = .ok (.iload 5, 2) := by decide +kernel
theorem dX4_mayAlso_18 : decode cX4_mayAlso 18 = .ok (.iadd, 1) := by decide +kernel
theorem dX4_mayAlso_19 : decode cX4_mayAlso 19 = .ok (.invokevirtual 77, 3) := by decide +kernel
theorem dX4_mayAlso_22 : decode cX4_mayAlso 22 = .ok (.istore 6, 2) := by decide +kernel
theorem dX4_mayAlso_24 : decode cX4_mayAlso 24 = .ok (.aload_n 0, 1) := by decide +kernel
theorem dX4_mayAlso_25 : decode cX4_mayAlso 25 = .ok (.iload_n 2, 1) := by decide +kernel
theorem dX4_mayAlso_26 : decode cX4_mayAlso 26 = .ok (.iload_n 3, 1) := by decide +kernel
theorem dX4_mayAlso_27 : decode cX4_mayAlso 27 = .ok (.iload 4, 2) := by decide +kernel
theorem dX4_mayAlso_29 : decode cX4_mayAlso 29 = .ok (.iconst (-1), 1) := by decide +kernel
theorem dX4_mayAlso_30 : decode cX4_mayAlso 30 = .ok (.invokevirtual 27, 3) := by decide +kernel
theorem dX4_mayAlso_33 : decode cX4_mayAlso 33 = .ok (.iload 6, 2) := by decide +kernel
theorem dX4_mayAlso_35 : decode cX4_mayAlso 35 = .ok (.ireturn, 1) := by decide +kernel
set_option maxRecDepth 20000 in
theorem ggX4_offer_X4_allNights : GoodIn wsX4_offer wsX4_allNights := goodIn_r _ [10] (by decide +kernel) (by decide +kernel)
set_option maxRecDepth 20000 in
theorem gX4_offer_X4_allNights : GoodIn wsX4_offer (va_wsS RX4 23 yX4_allNights wsX4_allNights) := goodIn_app (goodIn_of _ (by decide +kernel)) ggX4_offer_X4_allNights
set_option maxRecDepth 20000 in
theorem ggX4_offer_X7_hasBit : GoodIn wsX4_offer wsX7_hasBit := goodIn_r _ [13] (by decide +kernel) (by decide +kernel)
set_option maxRecDepth 20000 in
theorem gX4_offer_X7_hasBit_n65 : GoodIn wsX4_offer (wsX7_hasBit) := ggX4_offer_X7_hasBit
set_option maxRecDepth 20000 in
theorem ggX4_offer_X4_costOf : GoodIn wsX4_offer wsX4_costOf := goodIn_r _ [17, 18, 19, 20, 21, 22, 23, 24, 25, 26, 27, 28, 9, 29, 11, 12, 13, 30, 31, 32, 33, 34, 35, 36, 37, 38] (by decide +kernel) (by decide +kernel)
set_option maxRecDepth 20000 in
theorem gX4_offer_X4_costOf : GoodIn wsX4_offer (wsV RX4 81 RX4 yX4_costOf wsX4_costOf) := goodIn_app (goodIn_of _ (by decide +kernel)) ggX4_offer_X4_costOf
theorem dX4_offer_0 : decode cX4_offer 0 = .ok (.iload_n 2, 1) := by decide +kernel
theorem dX4_offer_1 : decode cX4_offer 1 = .ok (.invokestatic 23, 3) := by decide +kernel
theorem dX4_offer_4 : decode cX4_offer 4 = .ok (.istore 4, 2) := by decide +kernel
theorem dX4_offer_6 : decode cX4_offer 6 = .ok (.iload 4, 2) := by decide +kernel
theorem dX4_offer_8 : decode cX4_offer 8 = .ok (.ifCond .le 101, 3) := by decide +kernel
theorem dX4_offer_11 : decode cX4_offer 11 = .ok (.iconst 1, 1) := by decide +kernel
theorem dX4_offer_12 : decode cX4_offer 12 = .ok (.istore 5, 2) := by decide +kernel
theorem dX4_offer_14 : decode cX4_offer 14 = .ok (.iload 5, 2) := by decide +kernel
theorem dX4_offer_16 : decode cX4_offer 16 = .ok (.iload 4, 2) := by decide +kernel
theorem dX4_offer_18 : decode cX4_offer 18 = .ok (.if_icmp .gt 85, 3) := by decide +kernel
theorem dX4_offer_21 : decode cX4_offer 21 = .ok (.iload 5, 2) := by decide +kernel
theorem dX4_offer_23 : decode cX4_offer 23 = .ok (.iload 4, 2) := by decide +kernel
theorem dX4_offer_25 : decode cX4_offer 25 = .ok (.iand, 1) := by decide +kernel
theorem dX4_offer_26 : decode cX4_offer 26 = .ok (.iload 5, 2) := by decide +kernel
theorem dX4_offer_28 : decode cX4_offer 28 = .ok (.if_icmp .ne 69, 3) := by decide +kernel
theorem dX4_offer_31 : decode cX4_offer 31 = .ok (.iload_n 3, 1) := by decide +kernel
theorem dX4_offer_32 : decode cX4_offer 32 = .ok (.iload 5, 2) := by decide +kernel
theorem dX4_offer_34 : decode cX4_offer 34 = .ok (.invokestatic 65, 3) := by decide +kernel
theorem dX4_offer_37 : decode cX4_offer 37 = .ok (.ifCond .eq 60, 3) := by decide +kernel
theorem dX4_offer_40 : decode cX4_offer 40 = .ok (.aload_n 0, 1) := by decide +kernel
theorem dX4_offer_41 : decode cX4_offer 41 = .ok (.getfield 11, 3) := by decide +kernel
theorem dX4_offer_44 : decode cX4_offer 44 = .ok (.iload 4, 2) := by decide +kernel
theorem dX4_offer_46 : decode cX4_offer 46 = .ok (.iload 5, 2) := by decide +kernel
theorem dX4_offer_48 : decode cX4_offer 48 = .ok (.ixor, 1) := by decide +kernel
theorem dX4_offer_49 : decode cX4_offer 49 = .ok (.laload, 1) := by decide +kernel
theorem dX4_offer_50 : decode cX4_offer 50 = .ok (.ldc2_w 31, 3) := by decide +kernel
theorem dX4_offer_53 : decode cX4_offer 53 = .ok (.lcmp, 1) := by decide +kernel
theorem dX4_offer_54 : decode cX4_offer 54 = .ok (.ifCond .eq 43, 3) := by decide +kernel
theorem dX4_offer_57 : decode cX4_offer 57 = .ok (.aload_n 0, 1) := by decide +kernel
theorem dX4_offer_58 : decode cX4_offer 58 = .ok (.getfield 11, 3) := by decide +kernel
theorem dX4_offer_61 : decode cX4_offer 61 = .ok (.iload 4, 2) := by decide +kernel
theorem dX4_offer_63 : decode cX4_offer 63 = .ok (.iload 5, 2) := by decide +kernel
theorem dX4_offer_65 : decode cX4_offer 65 = .ok (.ixor, 1) := by decide +kernel
theorem dX4_offer_66 : decode cX4_offer 66 = .ok (.laload, 1) := by decide +kernel
theorem dX4_offer_67 : decode cX4_offer 67 = .ok (.aload_n 0, 1) := by decide +kernel
theorem dX4_offer_68 : decode cX4_offer 68 = .ok (.iload_n 1, 1) := by decide +kernel
theorem dX4_offer_69 : decode cX4_offer 69 = .ok (.iload 5, 2) := by decide +kernel
theorem dX4_offer_71 : decode cX4_offer 71 = .ok (.iload_n 2, 1) := by decide +kernel
theorem dX4_offer_72 : decode cX4_offer 72 = .ok (.invokevirtual 81, 3) := by decide +kernel
theorem dX4_offer_75 : decode cX4_offer 75 = .ok (.ladd, 1) := by decide +kernel
theorem dX4_offer_76 : decode cX4_offer 76 = .ok (.lstore 6, 2) := by decide +kernel
theorem dX4_offer_78 : decode cX4_offer 78 = .ok (.aload_n 0, 1) := by decide +kernel
theorem dX4_offer_79 : decode cX4_offer 79 = .ok (.getfield 11, 3) := by decide +kernel
theorem dX4_offer_82 : decode cX4_offer 82 = .ok (.iload 4, 2) := by decide +kernel
theorem dX4_offer_84 : decode cX4_offer 84 = .ok (.aload_n 0, 1) := by decide +kernel
theorem dX4_offer_85 : decode cX4_offer 85 = .ok (.getfield 11, 3) := by decide +kernel
theorem dX4_offer_88 : decode cX4_offer 88 = .ok (.iload 4, 2) := by decide +kernel
theorem dX4_offer_90 : decode cX4_offer 90 = .ok (.laload, 1) := by decide +kernel
theorem dX4_offer_91 : decode cX4_offer 91 = .ok (.lload 6, 2) := by decide +kernel
theorem dX4_offer_93 : decode cX4_offer 93 = .ok (.invokestatic 85, 3) := by decide +kernel
theorem dX4_offer_96 : decode cX4_offer 96 = .ok (.lastore, 1) := by decide +kernel
theorem dX4_offer_97 : decode cX4_offer 97 = .ok (.iinc 5 1, 3) := by decide +kernel
theorem dX4_offer_100 : decode cX4_offer 100 = .ok (.goto (-86), 3) := by decide +kernel
theorem dX4_offer_103 : decode cX4_offer 103 = .ok (.iinc 4 (-1), 3) := by decide +kernel
theorem dX4_offer_106 : decode cX4_offer 106 = .ok (.goto (-100), 3) := by decide +kernel
theorem dX4_offer_109 : decode cX4_offer 109 = .ok (.return_, 1) := by decide +kernel
set_option maxRecDepth 20000 in
theorem ggX4_costOf_J6_bitCount_0f7a4 : GoodIn wsX4_costOf wsJ6_bitCount_0f7a4 := goodIn_r _ [6, 7, 8, 9] (by decide +kernel) (by decide +kernel)
set_option maxRecDepth 20000 in
theorem gX4_costOf_J6_bitCount_0f7a4 : GoodIn wsX4_costOf (va_wsS RX4 91 yJ6_bitCount_0f7a4 wsJ6_bitCount_0f7a4) := goodIn_app (goodIn_of _ (by decide +kernel)) ggX4_costOf_J6_bitCount_0f7a4
set_option maxRecDepth 20000 in
theorem ggX4_costOf_X4_rowOf : GoodIn wsX4_costOf wsX4_rowOf := goodIn_r _ [13, 14, 15, 16] (by decide +kernel) (by decide +kernel)
set_option maxRecDepth 20000 in
theorem gX4_costOf_X4_rowOf : GoodIn wsX4_costOf (va_wsS RX4 102 yX4_rowOf wsX4_rowOf) := goodIn_app (goodIn_of _ (by decide +kernel)) ggX4_costOf_X4_rowOf
theorem dX4_costOf_0 : decode cX4_costOf 0 = .ok (.iload_n 2, 1) := by decide +kernel
theorem dX4_costOf_1 : decode cX4_costOf 1 = .ok (.invokestatic 91, 3) := by decide +kernel
theorem dX4_costOf_4 : decode cX4_costOf 4 = .ok (.i2l, 1) := by decide +kernel
theorem dX4_costOf_5 : decode cX4_costOf 5 = .ok (.lstore 4, 2) := by decide +kernel
theorem dX4_costOf_7 : decode cX4_costOf 7 = .ok (.lload 4, 2) := by decide +kernel
theorem dX4_costOf_9 : decode cX4_costOf 9 = .ok (.ldc2_w 96, 3) := by decide +kernel
theorem dX4_costOf_12 : decode cX4_costOf 12 = .ok (.aload_n 0, 1) := by decide +kernel
theorem dX4_costOf_13 : decode cX4_costOf 13 = .ok (.getfield 19, 3) := by decide +kernel
theorem dX4_costOf_16 : decode cX4_costOf 16 = .ok (.getfield 98, 3) := by decide +kernel
theorem dX4_costOf_19 : decode cX4_costOf 19 = .ok (.iload_n 1, 1) := by decide +kernel
theorem dX4_costOf_20 : decode cX4_costOf 20 = .ok (.iaload, 1) := by decide +kernel
theorem dX4_costOf_21 : decode cX4_costOf 21 = .ok (.i2l, 1) := by decide +kernel
theorem dX4_costOf_22 : decode cX4_costOf 22 = .ok (.lmul, 1) := by decide +kernel
theorem dX4_costOf_23 : decode cX4_costOf 23 = .ok (.lload 4, 2) := by decide +kernel
theorem dX4_costOf_25 : decode cX4_costOf 25 = .ok (.ladd, 1) := by decide +kernel
theorem dX4_costOf_26 : decode cX4_costOf 26 = .ok (.lmul, 1) := by decide +kernel
theorem dX4_costOf_27 : decode cX4_costOf 27 = .ok (.lstore 6, 2) := by decide +kernel
theorem dX4_costOf_29 : decode cX4_costOf 29 = .ok (.lload 6, 2) := by decide +kernel
theorem dX4_costOf_31 : decode cX4_costOf 31 = .ok (.bipush 20, 2) := by decide +kernel
theorem dX4_costOf_33 : decode cX4_costOf 33 = .ok (.lshl, 1) := by decide +kernel
theorem dX4_costOf_34 : decode cX4_costOf 34 = .ok (.iload_n 1, 1) := by decide +kernel
theorem dX4_costOf_35 : decode cX4_costOf 35 = .ok (.iload_n 2, 1) := by decide +kernel
theorem dX4_costOf_36 : decode cX4_costOf 36 = .ok (.iload_n 3, 1) := by decide +kernel
theorem dX4_costOf_37 : decode cX4_costOf 37 = .ok (.invokestatic 102, 3) := by decide +kernel
theorem dX4_costOf_40 : decode cX4_costOf 40 = .ok (.ladd, 1) := by decide +kernel
theorem dX4_costOf_41 : decode cX4_costOf 41 = .ok (.lreturn, 1) := by decide +kernel
set_option maxRecDepth 20000 in
theorem ggX4_rowOf_X7_hasBit : GoodIn wsX4_rowOf wsX7_hasBit := goodIn_r _ [3] (by decide +kernel) (by decide +kernel)
set_option maxRecDepth 20000 in
theorem gX4_rowOf_X7_hasBit_n65 : GoodIn wsX4_rowOf (wsX7_hasBit) := ggX4_rowOf_X7_hasBit
theorem dX4_rowOf_0 : decode cX4_rowOf 0 = .ok (.lconst 0, 1) := by decide +kernel
theorem dX4_rowOf_1 : decode cX4_rowOf 1 = .ok (.lstore_n 3, 1) := by decide +kernel
theorem dX4_rowOf_2 : decode cX4_rowOf 2 = .ok (.iconst 0, 1) := by decide +kernel
theorem dX4_rowOf_3 : decode cX4_rowOf 3 = .ok (.istore 5, 2) := by decide +kernel
theorem dX4_rowOf_5 : decode cX4_rowOf 5 = .ok (.iload 5, 2) := by decide +kernel
theorem dX4_rowOf_7 : decode cX4_rowOf 7 = .ok (.iload_n 2, 1) := by decide +kernel
theorem dX4_rowOf_8 : decode cX4_rowOf 8 = .ok (.if_icmp .ge 29, 3) := by decide +kernel
theorem dX4_rowOf_11 : decode cX4_rowOf 11 = .ok (.lload_n 3, 1) := by decide +kernel
theorem dX4_rowOf_12 : decode cX4_rowOf 12 = .ok (.iconst 5, 1) := by decide +kernel
theorem dX4_rowOf_13 : decode cX4_rowOf 13 = .ok (.lshl, 1) := by decide +kernel
theorem dX4_rowOf_14 : decode cX4_rowOf 14 = .ok (.iload_n 1, 1) := by decide +kernel
theorem dX4_rowOf_15 : decode cX4_rowOf 15 = .ok (.iload 5, 2) := by decide +kernel
theorem dX4_rowOf_17 : decode cX4_rowOf 17 = .ok (.invokestatic 65, 3) := by decide +kernel
theorem dX4_rowOf_20 : decode cX4_rowOf 20 = .ok (.ifCond .eq 7, 3) := by decide +kernel
theorem dX4_rowOf_23 : decode cX4_rowOf 23 = .ok (.iload_n 0, 1) := by decide +kernel
theorem dX4_rowOf_24 : decode cX4_rowOf 24 = .ok (.goto 4, 3) := by decide +kernel
theorem dX4_rowOf_27 : decode cX4_rowOf 27 = .ok (.iconst 0, 1) := by decide +kernel
theorem dX4_rowOf_28 : decode cX4_rowOf 28 = .ok (.i2l, 1) := by decide +kernel
theorem dX4_rowOf_29 : decode cX4_rowOf 29 = .ok (.ladd, 1) := by decide +kernel
theorem dX4_rowOf_30 : decode cX4_rowOf 30 = .ok (.lstore_n 3, 1) := by decide +kernel
theorem dX4_rowOf_31 : decode cX4_rowOf 31 = .ok (.iinc 5 1, 3) := by decide +kernel
theorem dX4_rowOf_34 : decode cX4_rowOf 34 = .ok (.goto (-29), 3) := by decide +kernel
theorem dX4_rowOf_37 : decode cX4_rowOf 37 = .ok (.lload_n 3, 1) := by decide +kernel
theorem dX4_rowOf_38 : decode cX4_rowOf 38 = .ok (.lreturn, 1) := by decide +kernel
set_option maxRecDepth 20000 in
theorem ggX4_leastWay_X4_allNights : GoodIn wsX4_leastWay wsX4_allNights := goodIn_r _ [10] (by decide +kernel) (by decide +kernel)
set_option maxRecDepth 20000 in
theorem gX4_leastWay_X4_allNights : GoodIn wsX4_leastWay (va_wsS RX4 23 yX4_allNights wsX4_allNights) := goodIn_app (goodIn_of _ (by decide +kernel)) ggX4_leastWay_X4_allNights
set_option maxRecDepth 20000 in
theorem ggX4_leastWay_X4_costOfNone : GoodIn wsX4_leastWay wsX4_costOfNone := goodIn_r _ [13, 14, 15, 16, 17, 18, 19, 20, 21, 22, 9, 23, 24, 25, 26] (by decide +kernel) (by decide +kernel)
set_option maxRecDepth 20000 in
theorem gX4_leastWay_X4_costOfNone : GoodIn wsX4_leastWay (va_wsS RX4 105 yX4_costOfNone wsX4_costOfNone) := goodIn_app (goodIn_of _ (by decide +kernel)) ggX4_leastWay_X4_costOfNone
theorem dX4_leastWay_0 : decode cX4_leastWay 0 = .ok (.ldc2_w 31, 3) := by decide +kernel
theorem dX4_leastWay_3 : decode cX4_leastWay 3 = .ok (.lstore_n 2, 1) := by decide +kernel
theorem dX4_leastWay_4 : decode cX4_leastWay 4 = .ok (.iconst 0, 1) := by decide +kernel
theorem dX4_leastWay_5 : decode cX4_leastWay 5 = .ok (.istore 4, 2) := by decide +kernel
theorem dX4_leastWay_7 : decode cX4_leastWay 7 = .ok (.iload 4, 2) := by decide +kernel
theorem dX4_leastWay_9 : decode cX4_leastWay 9 = .ok (.iload_n 1, 1) := by decide +kernel
theorem dX4_leastWay_10 : decode cX4_leastWay 10 = .ok (.invokestatic 23, 3) := by decide +kernel
theorem dX4_leastWay_13 : decode cX4_leastWay 13 = .ok (.if_icmp .gt 47, 3) := by decide +kernel
theorem dX4_leastWay_16 : decode cX4_leastWay 16 = .ok (.aload_n 0, 1) := by decide +kernel
theorem dX4_leastWay_17 : decode cX4_leastWay 17 = .ok (.getfield 11, 3) := by decide +kernel
theorem dX4_leastWay_20 : decode cX4_leastWay 20 = .ok (.iload 4, 2) := by decide +kernel
theorem dX4_leastWay_22 : decode cX4_leastWay 22 = .ok (.laload, 1) := by decide +kernel
theorem dX4_leastWay_23 : decode cX4_leastWay 23 = .ok (.ldc2_w 31, 3) := by decide +kernel
theorem dX4_leastWay_26 : decode cX4_leastWay 26 = .ok (.lcmp, 1) := by decide +kernel
theorem dX4_leastWay_27 : decode cX4_leastWay 27 = .ok (.ifCond .eq 27, 3) := by decide +kernel
theorem dX4_leastWay_30 : decode cX4_leastWay 30 = .ok (.lload_n 2, 1) := by decide +kernel
theorem dX4_leastWay_31 : decode cX4_leastWay 31 = .ok (.aload_n 0, 1) := by decide +kernel
theorem dX4_leastWay_32 : decode cX4_leastWay 32 = .ok (.getfield 11, 3) := by decide +kernel
theorem dX4_leastWay_35 : decode cX4_leastWay 35 = .ok (.iload 4, 2) := by decide +kernel
theorem dX4_leastWay_37 : decode cX4_leastWay 37 = .ok (.laload, 1) := by decide +kernel
theorem dX4_leastWay_38 : decode cX4_leastWay 38 = .ok (.iload_n 1, 1) := by decide +kernel
theorem dX4_leastWay_39 : decode cX4_leastWay 39 = .ok (.invokestatic 23, 3) := by decide +kernel
theorem dX4_leastWay_42 : decode cX4_leastWay 42 = .ok (.iload 4, 2) := by decide +kernel
theorem dX4_leastWay_44 : decode cX4_leastWay 44 = .ok (.ixor, 1) := by decide +kernel
theorem dX4_leastWay_45 : decode cX4_leastWay 45 = .ok (.iload_n 1, 1) := by decide +kernel
theorem dX4_leastWay_46 : decode cX4_leastWay 46 = .ok (.invokestatic 105, 3) := by decide +kernel
theorem dX4_leastWay_49 : decode cX4_leastWay 49 = .ok (.ladd, 1) := by decide +kernel
theorem dX4_leastWay_50 : decode cX4_leastWay 50 = .ok (.invokestatic 85, 3) := by decide +kernel
theorem dX4_leastWay_53 : decode cX4_leastWay 53 = .ok (.lstore_n 2, 1) := by decide +kernel
theorem dX4_leastWay_54 : decode cX4_leastWay 54 = .ok (.iinc 4 1, 3) := by decide +kernel
theorem dX4_leastWay_57 : decode cX4_leastWay 57 = .ok (.goto (-50), 3) := by decide +kernel
theorem dX4_leastWay_60 : decode cX4_leastWay 60 = .ok (.lload_n 2, 1) := by decide +kernel
theorem dX4_leastWay_61 : decode cX4_leastWay 61 = .ok (.lreturn, 1) := by decide +kernel
set_option maxRecDepth 20000 in
theorem ggX4_costOfNone_J6_bitCount_0f7a4 : GoodIn wsX4_costOfNone wsJ6_bitCount_0f7a4 := goodIn_r _ [4, 5, 6, 7] (by decide +kernel) (by decide +kernel)
set_option maxRecDepth 20000 in
theorem gX4_costOfNone_J6_bitCount_0f7a4 : GoodIn wsX4_costOfNone (va_wsS RX4 91 yJ6_bitCount_0f7a4 wsJ6_bitCount_0f7a4) := goodIn_app (goodIn_of _ (by decide +kernel)) ggX4_costOfNone_J6_bitCount_0f7a4
set_option maxRecDepth 20000 in
theorem ggX4_costOfNone_X4_rowOf : GoodIn wsX4_costOfNone wsX4_rowOf := goodIn_r _ [11, 12, 13, 14] (by decide +kernel) (by decide +kernel)
set_option maxRecDepth 20000 in
theorem gX4_costOfNone_X4_rowOf : GoodIn wsX4_costOfNone (va_wsS RX4 102 yX4_rowOf wsX4_rowOf) := goodIn_app (goodIn_of _ (by decide +kernel)) ggX4_costOfNone_X4_rowOf
theorem dX4_costOfNone_0 : decode cX4_costOfNone 0 = .ok (.iload_n 0, 1) := by decide +kernel
theorem dX4_costOfNone_1 : decode cX4_costOfNone 1 = .ok (.invokestatic 91, 3) := by decide +kernel
theorem dX4_costOfNone_4 : decode cX4_costOfNone 4 = .ok (.i2l, 1) := by decide +kernel
theorem dX4_costOfNone_5 : decode cX4_costOfNone 5 = .ok (.lstore_n 2, 1) := by decide +kernel
theorem dX4_costOfNone_6 : decode cX4_costOfNone 6 = .ok (.lload_n 2, 1) := by decide +kernel
theorem dX4_costOfNone_7 : decode cX4_costOfNone 7 = .ok (.bipush 44, 2) := by decide +kernel
theorem dX4_costOfNone_9 : decode cX4_costOfNone 9 = .ok (.lshl, 1) := by decide +kernel
theorem dX4_costOfNone_10 : decode cX4_costOfNone 10 = .ok (.bipush 24, 2) := by decide +kernel
theorem dX4_costOfNone_12 : decode cX4_costOfNone 12 = .ok (.iload_n 0, 1) := by decide +kernel
theorem dX4_costOfNone_13 : decode cX4_costOfNone 13 = .ok (.iload_n 1, 1) := by decide +kernel
theorem dX4_costOfNone_14 : decode cX4_costOfNone 14 = .ok (.invokestatic 102, 3) := by decide +kernel
theorem dX4_costOfNone_17 : decode cX4_costOfNone 17 = .ok (.ladd, 1) := by decide +kernel
theorem dX4_costOfNone_18 : decode cX4_costOfNone 18 = .ok (.lreturn, 1) := by decide +kernel
set_option maxRecDepth 20000 in
theorem ggX4_giveRow_X3_has : GoodIn wsX4_giveRow wsX3_has := goodIn_r _ [6, 7, 8, 9, 10, 25, 26, 27, 28, 29, 30, 31, 32] (by decide +kernel) (by decide +kernel)
set_option maxRecDepth 20000 in
theorem gX4_giveRow_X3_has_n109 : GoodIn wsX4_giveRow (wsX3_has) := ggX4_giveRow_X3_has
set_option maxRecDepth 20000 in
theorem ggX4_giveRow_X2_put : GoodIn wsX4_giveRow wsX2_put := goodIn_r _ [14, 15, 16, 17, 18, 19, 20, 12, 21, 33, 34, 35, 36, 37, 38] (by decide +kernel) (by decide +kernel)
set_option maxRecDepth 20000 in
theorem gX4_giveRow_X2_put_n68 : GoodIn wsX4_giveRow (wsX2_put) := ggX4_giveRow_X2_put
theorem dX4_giveRow_0 : decode cX4_giveRow 0 = .ok (.iconst 0, 1) := by decide +kernel
theorem dX4_giveRow_1 : decode cX4_giveRow 1 = .ok (.istore 6, 2) := by decide +kernel
theorem dX4_giveRow_3 : decode cX4_giveRow 3 = .ok (.iconst 0, 1) := by decide +kernel
theorem dX4_giveRow_4 : decode cX4_giveRow 4 = .ok (.istore 7, 2) := by decide +kernel
theorem dX4_giveRow_6 : decode cX4_giveRow 6 = .ok (.iload 7, 2) := by decide +kernel
theorem dX4_giveRow_8 : decode cX4_giveRow 8 = .ok (.iload_n 3, 1) := by decide +kernel
theorem dX4_giveRow_9 : decode cX4_giveRow 9 = .ok (.if_icmp .ge 58, 3) := by decide +kernel
theorem dX4_giveRow_12 : decode cX4_giveRow 12 = .ok (.lload 4, 2) := by decide +kernel
theorem dX4_giveRow_14 : decode cX4_giveRow 14 = .ok (.iload_n 3, 1) := by decide +kernel
theorem dX4_giveRow_15 : decode cX4_giveRow 15 = .ok (.iconst 1, 1) := by decide +kernel
theorem dX4_giveRow_16 : decode cX4_giveRow 16 = .ok (.isub, 1) := by decide +kernel
theorem dX4_giveRow_17 : decode cX4_giveRow 17 = .ok (.iload 7, 2) := by decide +kernel
theorem dX4_giveRow_19 : decode cX4_giveRow 19 = .ok (.isub, 1) := by decide +kernel
theorem dX4_giveRow_20 : decode cX4_giveRow 20 = .ok (.iconst 5, 1) := by decide +kernel
theorem dX4_giveRow_21 : decode cX4_giveRow 21 = .ok (.imul, 1) := by decide +kernel
theorem dX4_giveRow_22 : decode cX4_giveRow 22 = .ok (.lshr, 1) := by decide +kernel
theorem dX4_giveRow_23 : decode cX4_giveRow 23 = .ok (.l2i, 1) := by decide +kernel
theorem dX4_giveRow_24 : decode cX4_giveRow 24 = .ok (.bipush 31, 2) := by decide +kernel
theorem dX4_giveRow_26 : decode cX4_giveRow 26 = .ok (.iand, 1) := by decide +kernel
theorem dX4_giveRow_27 : decode cX4_giveRow 27 = .ok (.istore 8, 2) := by decide +kernel
theorem dX4_giveRow_29 : decode cX4_giveRow 29 = .ok (.aload_n 0, 1) := by decide +kernel
theorem dX4_giveRow_30 : decode cX4_giveRow 30 = .ok (.getfield 15, 3) := by decide +kernel
theorem dX4_giveRow_33 : decode cX4_giveRow 33 = .ok (.iload 8, 2) := by decide +kernel
theorem dX4_giveRow_35 : decode cX4_giveRow 35 = .ok (.invokevirtual 109, 3) := by decide +kernel
theorem dX4_giveRow_38 : decode cX4_giveRow 38 = .ok (.ifCond .eq 20, 3) := by decide +kernel
theorem dX4_giveRow_41 : decode cX4_giveRow 41 = .ok (.aload_n 0, 1) := by decide +kernel
theorem dX4_giveRow_42 : decode cX4_giveRow 42 = .ok (.getfield 19, 3) := by decide +kernel
theorem dX4_giveRow_45 : decode cX4_giveRow 45 = .ok (.iload_n 1, 1) := by decide +kernel
theorem dX4_giveRow_46 : decode cX4_giveRow 46 = .ok (.iload_n 2, 1) := by decide +kernel
theorem dX4_giveRow_47 : decode cX4_giveRow 47 = .ok (.iload 7, 2) := by decide +kernel
theorem dX4_giveRow_49 : decode cX4_giveRow 49 = .ok (.iadd, 1) := by decide +kernel
theorem dX4_giveRow_50 : decode cX4_giveRow 50 = .ok (.iload 8, 2) := by decide +kernel
theorem dX4_giveRow_52 : decode cX4_giveRow 52 = .ok (.invokevirtual 68, 3) := by decide +kernel
theorem dX4_giveRow_55 : decode cX4_giveRow 55 = .ok (.goto 6, 3) := by decide +kernel
theorem dX4_giveRow_58 : decode cX4_giveRow 58 = .ok (.iinc 6 1, 3) := by decide +kernel
theorem dX4_giveRow_61 : decode cX4_giveRow 61 = .ok (.iinc 7 1, 3) := by decide +kernel
theorem dX4_giveRow_64 : decode cX4_giveRow 64 = .ok (.goto (-58), 3) := by decide +kernel
theorem dX4_giveRow_67 : decode cX4_giveRow 67 = .ok (.iload 6, 2) := by decide +kernel
theorem dX4_giveRow_69 : decode cX4_giveRow 69 = .ok (.ireturn, 1) := by decide +kernel
theorem dX5_init_0 : decode cX5_init 0 = .ok (.aload_n 0, 1) := by decide +kernel
theorem dX5_init_1 : decode cX5_init 1 = .ok (.invokespecial 3, 3) := by decide +kernel
theorem dX5_init_4 : decode cX5_init 4 = .ok (.aload_n 0, 1) := by decide +kernel
theorem dX5_init_5 : decode cX5_init 5 = .ok (.sipush 1000, 3) := by decide +kernel
theorem dX5_init_8 : decode cX5_init 8 = .ok (.newarray .byte, 2) := by decide +kernel
theorem dX5_init_10 : decode cX5_init 10 = .ok (.putfield 9, 3) := by decide +kernel
theorem dX5_init_13 : decode cX5_init 13 = .ok (.aload_n 0, 1) := by decide +kernel
theorem dX5_init_14 : decode cX5_init 14 = .ok (.bipush 12, 2) := by decide +kernel
theorem dX5_init_16 : decode cX5_init 16 = .ok (.newarray .int, 2) := by decide +kernel
theorem dX5_init_18 : decode cX5_init 18 = .ok (.putfield 15, 3) := by decide +kernel
theorem dX5_init_21 : decode cX5_init 21 = .ok (.aload_n 0, 1) := by decide +kernel
theorem dX5_init_22 : decode cX5_init 22 = .ok (.iconst (-1), 1) := by decide +kernel
theorem dX5_init_23 : decode cX5_init 23 = .ok (.putfield 19, 3) := by decide +kernel
theorem dX5_init_26 : decode cX5_init 26 = .ok (.return_, 1) := by decide +kernel
theorem dX5_append_0 : decode cX5_append 0 = .ok (.bipush 24, 2) := by decide +kernel
theorem dX5_append_2 : decode cX5_append 2 = .ok (.istore_n 2, 1) := by decide +kernel
theorem dX5_append_3 : decode cX5_append 3 = .ok (.iload_n 2, 1) := by decide +kernel
theorem dX5_append_4 : decode cX5_append 4 = .ok (.ifCond .lt 42, 3) := by decide +kernel
theorem dX5_append_7 : decode cX5_append 7 = .ok (.aload_n 0, 1) := by decide +kernel
theorem dX5_append_8 : decode cX5_append 8 = .ok (.getfield 23, 3) := by decide +kernel
theorem dX5_append_11 : decode cX5_append 11 = .ok (.sipush 1000, 3) := by decide +kernel
theorem dX5_append_14 : decode cX5_append 14 = .ok (.if_icmp .ge 32, 3) := by decide +kernel
theorem dX5_append_17 : decode cX5_append 17 = .ok (.aload_n 0, 1) := by decide +kernel
theorem dX5_append_18 : decode cX5_append 18 = .ok (.getfield 9, 3) := by decide +kernel
theorem dX5_append_21 : decode cX5_append 21 = .ok (.aload_n 0, 1) := by decide +kernel
theorem dX5_append_22 : decode cX5_append 22 = .ok (.getfield 23, 3) := by decide +kernel
theorem dX5_append_25 : decode cX5_append 25 = .ok (.iload_n 1, 1) := by decide +kernel
theorem dX5_append_26 : decode cX5_append 26 = .ok (.iload_n 2, 1) := by decide +kernel
theorem dX5_append_27 : decode cX5_append 27 = .ok (.ishr, 1) := by decide +kernel
theorem dX5_append_28 : decode cX5_append 28 = .ok (.i2b, 1) := by decide +kernel
theorem dX5_append_29 : decode cX5_append 29 = .ok (.bastore, 1) := by decide +kernel
theorem dX5_append_30 : decode cX5_append 30 = .ok (.aload_n 0, 1) := by decide +kernel
theorem dX5_append_31 : decode cX5_append 31 = .ok (.dup, 1) := by decide +kernel
theorem dX5_append_32 : decode cX5_append 32 = .ok (.getfield 23, 3) := by decide +kernel
theorem dX5_append_35 : decode cX5_append 35 = .ok (.iconst 1, 1) := by decide +kernel
theorem dX5_append_36 : decode cX5_append 36 = .ok (.iadd, 1) := by decide +kernel
theorem dX5_append_37 : decode cX5_append 37 = .ok (.putfield 23, 3) := by decide +kernel
theorem dX5_append_40 : decode cX5_append 40 = .ok (.iinc 2 (-8), 3) := by decide +kernel
theorem dX5_append_43 : decode cX5_append 43 = .ok (.goto (-40), 3) := by decide +kernel
theorem dX5_append_46 : decode cX5_append 46 = .ok (.return_, 1) := by decide +kernel
set_option maxRecDepth 20000 in
theorem ggX5_readTape_X5_nextToken : GoodIn wsX5_readTape wsX5_nextToken := goodIn_r _ [17, 6, 12, 18, 19, 7, 20, 21, 16, 22, 23, 24, 25, 26, 27, 28, 29, 30, 31, 32, 33, 34, 147, 148, 149, 150, 151, 152, 153, 154, 155, 156, 157, 158] (by decide +kernel) (by decide +kernel)
set_option maxRecDepth 20000 in
theorem gX5_readTape_X5_nextToken : GoodIn wsX5_readTape (wsV RX5 50 RX5 yX5_nextToken wsX5_nextToken) := goodIn_app (goodIn_of _ (by decide +kernel)) ggX5_readTape_X5_nextToken
set_option maxRecDepth 20000 in
theorem ggX5_readTape_X5_takeToken : GoodIn wsX5_readTape wsX5_takeToken := goodIn_r _ [38, 8, 39, 40, 41, 16, 42, 7, 43, 9, 44, 45, 46, 47, 48, 49, 50, 51, 52, 53, 54, 6, 19, 18, 55, 56, 57, 58, 59, 60, 61, 62, 63, 64, 65, 66, 67, 68, 69, 70, 71, 72, 73, 74, 75, 76, 77, 78, 79, 80, 81, 82, 83, 84, 85, 86, 87, 88, 89, 90, 91, 92, 93, 94, 95, 96, 97, 98, 99, 100, 101, 102, 103, 104, 105, 106, 107, 10, 11, 108, 109, 110, 111, 112, 113, 114, 34, 1, 115, 116, 117, 118, 119, 120, 121, 122, 123, 124, 125, 126, 127, 128, 129, 130, 131, 132, 133, 134, 135, 136, 137, 138, 139, 140, 141, 142, 143, 144, 145, 146, 147, 148, 149, 150, 151, 152, 153, 154, 155, 156, 157, 158] (by decide +kernel) (by decide +kernel)
set_option maxRecDepth 20000 in
theorem gX5_readTape_X5_takeToken : GoodIn wsX5_readTape (wsV RX5 53 RX5 yX5_takeToken wsX5_takeToken) := goodIn_app (goodIn_of _ (by decide +kernel)) ggX5_readTape_X5_takeToken
theorem dX5_readTape_0 : decode cX5_readTape 0 = .ok (.getstatic 26, 3) := by decide +kernel
theorem dX5_readTape_3 : decode cX5_readTape 3 = .ok (.iconst 0, 1) := by decide +kernel
theorem dX5_readTape_4 : decode cX5_readTape 4 = .ok (.aload_n 0, 1) := by decide +kernel
theorem dX5_readTape_5 : decode cX5_readTape 5 = .ok (.getfield 15, 3) := by decide +kernel
theorem dX5_readTape_8 : decode cX5_readTape 8 = .ok (.iconst 0, 1) := by decide +kernel
theorem dX5_readTape_9 : decode cX5_readTape 9 = .ok (.bipush 12, 2) := by decide +kernel
theorem dX5_readTape_11 : decode cX5_readTape 11 = .ok (.invokestatic 29, 3) := by decide +kernel
theorem dX5_readTape_14 : decode cX5_readTape 14 = .ok (.aload_n 0, 1) := by decide +kernel
theorem dX5_readTape_15 : decode cX5_readTape 15 = .ok (.iconst 0, 1) := by decide +kernel
theorem dX5_readTape_16 : decode cX5_readTape 16 = .ok (.putfield 35, 3) := by decide +kernel
theorem dX5_readTape_19 : decode cX5_readTape 19 = .ok (.aload_n 0, 1) := by decide +kernel
theorem dX5_readTape_20 : decode cX5_readTape 20 = .ok (.iconst 0, 1) := by decide +kernel
theorem dX5_readTape_21 : decode cX5_readTape 21 = .ok (.putfield 38, 3) := by decide +kernel
theorem dX5_readTape_24 : decode cX5_readTape 24 = .ok (.aload_n 0, 1) := by decide +kernel
theorem dX5_readTape_25 : decode cX5_readTape 25 = .ok (.iconst 0, 1) := by decide +kernel
theorem dX5_readTape_26 : decode cX5_readTape 26 = .ok (.putfield 41, 3) := by decide +kernel
theorem dX5_readTape_29 : decode cX5_readTape 29 = .ok (.aload_n 0, 1) := by decide +kernel
theorem dX5_readTape_30 : decode cX5_readTape 30 = .ok (.iconst 0, 1) := by decide +kernel
theorem dX5_readTape_31 : decode cX5_readTape 31 = .ok (.putfield 44, 3) := by decide +kernel
theorem dX5_readTape_34 : decode cX5_readTape 34 = .ok (.aload_n 0, 1) := by decide +kernel
theorem dX5_readTape_35 : decode cX5_readTape 35 = .ok (.iconst 0, 1) := by decide +kernel
theorem dX5_readTape_36 : decode cX5_readTape 36 = .ok (.putfield 47, 3) := by decide +kernel
theorem dX5_readTape_39 : decode cX5_readTape 39 = .ok (.aload_n 0, 1) := by decide +kernel
theorem dX5_readTape_40 : decode cX5_readTape 40 = .ok (.iconst (-1), 1) := by decide +kernel
theorem dX5_readTape_41 : decode cX5_readTape 41 = .ok (.putfield 19, 3) := by decide +kernel
theorem dX5_readTape_44 : decode cX5_readTape 44 = .ok (.iconst 0, 1) := by decide +kernel
theorem dX5_readTape_45 : decode cX5_readTape 45 = .ok (.istore_n 1, 1) := by decide +kernel
theorem dX5_readTape_46 : decode cX5_readTape 46 = .ok (.iload_n 1, 1) := by decide +kernel
theorem dX5_readTape_47 : decode cX5_readTape 47 = .ok (.aload_n 0, 1) := by decide +kernel
theorem dX5_readTape_48 : decode cX5_readTape 48 = .ok (.getfield 23, 3) := by decide +kernel
theorem dX5_readTape_51 : decode cX5_readTape 51 = .ok (.if_icmp .gt 32, 3) := by decide +kernel
theorem dX5_readTape_54 : decode cX5_readTape 54 = .ok (.aload_n 0, 1) := by decide +kernel
theorem dX5_readTape_55 : decode cX5_readTape 55 = .ok (.getfield 38, 3) := by decide +kernel
theorem dX5_readTape_58 : decode cX5_readTape 58 = .ok (.iconst 4, 1) := by decide +kernel
theorem dX5_readTape_59 : decode cX5_readTape 59 = .ok (.if_icmp .eq 24, 3) := by decide +kernel
theorem dX5_readTape_62 : decode cX5_readTape 62 = .ok (.aload_n 0, 1) := by decide +kernel
theorem dX5_readTape_63 : decode cX5_readTape 63 = .ok (.getfield 47, 3) := by decide +kernel
theorem dX5_readTape_66 : decode cX5_readTape 66 = .ok (.ifCond .ne 17, 3) := by decide +kernel
theorem dX5_readTape_69 : decode cX5_readTape 69 = .ok (.aload_n 0, 1) := by decide +kernel
theorem dX5_readTape_70 : decode cX5_readTape 70 = .ok (.invokevirtual 50, 3) := by decide +kernel
theorem dX5_readTape_73 : decode cX5_readTape 73 = .ok (.aload_n 0, 1) := by decide +kernel
theorem dX5_readTape_74 : decode cX5_readTape 74 = .ok (.invokevirtual 53, 3) := by decide +kernel
theorem dX5_readTape_77 : decode cX5_readTape 77 = .ok (.iinc 1 1, 3) := by decide +kernel
theorem dX5_readTape_80 : decode cX5_readTape 80 = .ok (.goto (-34), 3) := by decide +kernel
theorem dX5_readTape_83 : decode cX5_readTape 83 = .ok (.aload_n 0, 1) := by decide +kernel
theorem dX5_readTape_84 : decode cX5_readTape 84 = .ok (.iconst 0, 1) := by decide +kernel
theorem dX5_readTape_85 : decode cX5_readTape 85 = .ok (.putfield 23, 3) := by decide +kernel
theorem dX5_readTape_88 : decode cX5_readTape 88 = .ok (.aload_n 0, 1) := by decide +kernel
theorem dX5_readTape_89 : decode cX5_readTape 89 = .ok (.getfield 47, 3) := by decide +kernel
theorem dX5_readTape_92 : decode cX5_readTape 92 = .ok (.ifCond .ne 7, 3) := by decide +kernel
theorem dX5_readTape_95 : decode cX5_readTape 95 = .ok (.iconst 1, 1) := by decide +kernel
theorem dX5_readTape_96 : decode cX5_readTape 96 = .ok (.goto 4, 3) := by decide +kernel
theorem dX5_readTape_99 : decode cX5_readTape 99 = .ok (.iconst 0, 1) := by decide +kernel
theorem dX5_readTape_100 : decode cX5_readTape 100 = .ok (.ireturn, 1) := by decide +kernel
set_option maxRecDepth 20000 in
theorem ggX5_nextToken_X5_isLetter : GoodIn wsX5_nextToken wsX5_isLetter := goodIn_r _ [9] (by decide +kernel) (by decide +kernel)
set_option maxRecDepth 20000 in
theorem gX5_nextToken_X5_isLetter : GoodIn wsX5_nextToken (va_wsS RX5 59 yX5_isLetter wsX5_isLetter) := goodIn_app (goodIn_of _ (by decide +kernel)) ggX5_nextToken_X5_isLetter
set_option maxRecDepth 20000 in
theorem ggX5_nextToken_X5_skipLetters : GoodIn wsX5_nextToken wsX5_skipLetters := goodIn_r _ [13, 1, 2, 3, 6, 7, 8, 9, 22, 23, 24, 25, 26, 27, 28, 29, 30, 31, 32, 33] (by decide +kernel) (by decide +kernel)
set_option maxRecDepth 20000 in
theorem gX5_nextToken_X5_skipLetters : GoodIn wsX5_nextToken (wsV RX5 63 RX5 yX5_skipLetters wsX5_skipLetters) := goodIn_app (goodIn_of _ (by decide +kernel)) ggX5_nextToken_X5_skipLetters
set_option maxRecDepth 20000 in
theorem ggX5_nextToken_X5_isDigit : GoodIn wsX5_nextToken wsX5_isDigit := goodIn_r _ [16] (by decide +kernel) (by decide +kernel)
set_option maxRecDepth 20000 in
theorem gX5_nextToken_X5_isDigit : GoodIn wsX5_nextToken (va_wsS RX5 66 yX5_isDigit wsX5_isDigit) := goodIn_app (goodIn_of _ (by decide +kernel)) ggX5_nextToken_X5_isDigit
set_option maxRecDepth 20000 in
theorem ggX5_nextToken_X5_readNumber : GoodIn wsX5_nextToken wsX5_readNumber := goodIn_r _ [20, 21, 1, 2, 3, 4, 5, 14, 15, 8, 16, 22, 23, 24, 25, 26, 27, 28, 29, 30, 31, 32, 33] (by decide +kernel) (by decide +kernel)
set_option maxRecDepth 20000 in
theorem gX5_nextToken_X5_readNumber : GoodIn wsX5_nextToken (wsV RX5 69 RX5 yX5_readNumber wsX5_readNumber) := goodIn_app (goodIn_of _ (by decide +kernel)) ggX5_nextToken_X5_readNumber
theorem dX5_nextToken_0 : decode cX5_nextToken 0 = .ok (.aload_n 0, 1) := by decide +kernel
theorem dX5_nextToken_1 : decode cX5_nextToken 1 = .ok (.getfield 35, 3) := by decide +kernel
theorem dX5_nextToken_4 : decode cX5_nextToken 4 = .ok (.aload_n 0, 1) := by decide +kernel
theorem dX5_nextToken_5 : decode cX5_nextToken 5 = .ok (.getfield 23, 3) := by decide +kernel
theorem dX5_nextToken_8 : decode cX5_nextToken 8 = .ok (.if_icmp .ge 44, 3) := by decide +kernel
theorem dX5_nextToken_11 : decode cX5_nextToken 11 = .ok (.aload_n 0, 1) := by decide +kernel
theorem dX5_nextToken_12 : decode cX5_nextToken 12 = .ok (.getfield 9, 3) := by decide +kernel
theorem dX5_nextToken_15 : decode cX5_nextToken 15 = .ok (.aload_n 0, 1) := by decide +kernel
theorem dX5_nextToken_16 : decode cX5_nextToken 16 = .ok (.getfield 35, 3) := by decide +kernel
theorem dX5_nextToken_19 : decode cX5_nextToken 19 = .ok (.baload, 1) := by decide +kernel
theorem dX5_nextToken_20 : decode cX5_nextToken 20 = .ok (.bipush 32, 2) := by decide +kernel
theorem dX5_nextToken_22 : decode cX5_nextToken 22 = .ok (.if_icmp .eq 17, 3) := by decide +kernel
theorem dX5_nextToken_25 : decode cX5_nextToken 25 = .ok (.aload_n 0, 1) := by decide +kernel
theorem dX5_nextToken_26 : decode cX5_nextToken 26 = .ok (.getfield 9, 3) := by decide +kernel
theorem dX5_nextToken_29 : decode cX5_nextToken 29 = .ok (.aload_n 0, 1) := by decide +kernel
theorem dX5_nextToken_30 : decode cX5_nextToken 30 = .ok (.getfield 35, 3) := by decide +kernel
theorem dX5_nextToken_33 : decode cX5_nextToken 33 = .ok (.baload, 1) := by decide +kernel
theorem dX5_nextToken_34 : decode cX5_nextToken 34 = .ok (.bipush 10, 2) := by decide +kernel
theorem dX5_nextToken_36 : decode cX5_nextToken 36 = .ok (.if_icmp .ne 16, 3) := by decide +kernel
theorem dX5_nextToken_39 : decode cX5_nextToken 39 = .ok (.aload_n 0, 1) := by decide +kernel
theorem dX5_nextToken_40 : decode cX5_nextToken 40 = .ok (.dup, 1) := by decide +kernel
theorem dX5_nextToken_41 : decode cX5_nextToken 41 = .ok (.getfield 35, 3) := by decide +kernel
theorem dX5_nextToken_44 : decode cX5_nextToken 44 = .ok (.iconst 1, 1) := by decide +kernel
theorem dX5_nextToken_45 : decode cX5_nextToken 45 = .ok (.iadd, 1) := by decide +kernel
theorem dX5_nextToken_46 : decode cX5_nextToken 46 = .ok (.putfield 35, 3) := by decide +kernel
theorem dX5_nextToken_49 : decode cX5_nextToken 49 = .ok (.goto (-49), 3) := by decide +kernel
theorem dX5_nextToken_52 : decode cX5_nextToken 52 = .ok (.aload_n 0, 1) := by decide +kernel
theorem dX5_nextToken_53 : decode cX5_nextToken 53 = .ok (.aload_n 0, 1) := by decide +kernel
theorem dX5_nextToken_54 : decode cX5_nextToken 54 = .ok (.getfield 35, 3) := by decide +kernel
theorem dX5_nextToken_57 : decode cX5_nextToken 57 = .ok (.putfield 56, 3) := by decide +kernel
theorem dX5_nextToken_60 : decode cX5_nextToken 60 = .ok (.aload_n 0, 1) := by decide +kernel
theorem dX5_nextToken_61 : decode cX5_nextToken 61 = .ok (.getfield 35, 3) := by decide +kernel
theorem dX5_nextToken_64 : decode cX5_nextToken 64 = .ok (.aload_n 0, 1) := by decide +kernel
theorem dX5_nextToken_65 : decode cX5_nextToken 65 = .ok (.getfield 23, 3) := by decide +kernel
theorem dX5_nextToken_68 : decode cX5_nextToken 68 = .ok (.if_icmp .lt 11, 3) := by decide +kernel
theorem dX5_nextToken_71 : decode cX5_nextToken 71 = .ok (.aload_n 0, 1) := by decide +kernel
theorem dX5_nextToken_72 : decode cX5_nextToken 72 = .ok (.iconst 4, 1) := by decide +kernel
theorem dX5_nextToken_73 : decode cX5_nextToken 73 = .ok (.putfield 38, 3) := by decide +kernel
theorem dX5_nextToken_76 : decode cX5_nextToken 76 = .ok (.goto 85, 3) := by decide +kernel
theorem dX5_nextToken_79 : decode cX5_nextToken 79 = .ok (.aload_n 0, 1) := by decide +kernel
theorem dX5_nextToken_80 : decode cX5_nextToken 80 = .ok (.getfield 9, 3) := by decide +kernel
theorem dX5_nextToken_83 : decode cX5_nextToken 83 = .ok (.aload_n 0, 1) := by decide +kernel
theorem dX5_nextToken_84 : decode cX5_nextToken 84 = .ok (.getfield 35, 3) := by decide +kernel
theorem dX5_nextToken_87 : decode cX5_nextToken 87 = .ok (.baload, 1) := by decide +kernel
theorem dX5_nextToken_88 : decode cX5_nextToken 88 = .ok (.invokestatic 59, 3) := by decide +kernel
theorem dX5_nextToken_91 : decode cX5_nextToken 91 = .ok (.ifCond .eq 15, 3) := by decide +kernel
theorem dX5_nextToken_94 : decode cX5_nextToken 94 = .ok (.aload_n 0, 1) := by decide +kernel
theorem dX5_nextToken_95 : decode cX5_nextToken 95 = .ok (.iconst 1, 1) := by decide +kernel
theorem dX5_nextToken_96 : decode cX5_nextToken 96 = .ok (.putfield 38, 3) := by decide +kernel
theorem dX5_nextToken_99 : decode cX5_nextToken 99 = .ok (.aload_n 0, 1) := by decide +kernel
theorem dX5_nextToken_100 : decode cX5_nextToken 100 = .ok (.invokevirtual 63, 3) := by decide +kernel
theorem dX5_nextToken_103 : decode cX5_nextToken 103 = .ok (.goto 58, 3) := by decide +kernel
theorem dX5_nextToken_106 : decode cX5_nextToken 106 = .ok (.aload_n 0, 1) := by decide +kernel
theorem dX5_nextToken_107 : decode cX5_nextToken 107 = .ok (.getfield 9, 3) := by decide +kernel
theorem dX5_nextToken_110 : decode cX5_nextToken 110 = .ok (.aload_n 0, 1) := by decide +kernel
theorem dX5_nextToken_111 : decode cX5_nextToken 111 = .ok (.getfield 35, 3) := by decide +kernel
theorem dX5_nextToken_114 : decode cX5_nextToken 114 = .ok (.baload, 1) := by decide +kernel
theorem dX5_nextToken_115 : decode cX5_nextToken 115 = .ok (.invokestatic 66, 3) := by decide +kernel
theorem dX5_nextToken_118 : decode cX5_nextToken 118 = .ok (.ifCond .eq 10, 3) := by decide +kernel
theorem dX5_nextToken_121 : decode cX5_nextToken 121 = .ok (.aload_n 0, 1) := by decide +kernel
theorem dX5_nextToken_122 : decode cX5_nextToken 122 = .ok (.invokevirtual 69, 3) := by decide +kernel
theorem dX5_nextToken_125 : decode cX5_nextToken 125 = .ok (.goto 36, 3) := by decide +kernel
theorem dX5_nextToken_128 : decode cX5_nextToken 128 = .ok (.aload_n 0, 1) := by decide +kernel
theorem dX5_nextToken_129 : decode cX5_nextToken 129 = .ok (.aload_n 0, 1) := by decide +kernel
theorem dX5_nextToken_130 : decode cX5_nextToken 130 = .ok (.getfield 9, 3) := by decide +kernel
theorem dX5_nextToken_133 : decode cX5_nextToken 133 = .ok (.aload_n 0, 1) := by decide +kernel
theorem dX5_nextToken_134 : decode cX5_nextToken 134 = .ok (.getfield 35, 3) := by decide +kernel
theorem dX5_nextToken_137 : decode cX5_nextToken 137 = .ok (.baload, 1) := by decide +kernel
theorem dX5_nextToken_138 : decode cX5_nextToken 138 = .ok (.bipush 59, 2) := by decide +kernel
theorem dX5_nextToken_140 : decode cX5_nextToken 140 = .ok (.if_icmp .ne 7, 3) := by decide +kernel
theorem dX5_nextToken_143 : decode cX5_nextToken 143 = .ok (.iconst 3, 1) := by decide +kernel
theorem dX5_nextToken_144 : decode cX5_nextToken 144 = .ok (.goto 4, 3) := by decide +kernel
theorem dX5_nextToken_147 : decode cX5_nextToken 147 = .ok (.iconst 0, 1) := by decide +kernel
theorem dX5_nextToken_148 : decode cX5_nextToken 148 = .ok (.putfield 38, 3) := by decide +kernel
theorem dX5_nextToken_151 : decode cX5_nextToken 151 = .ok (.aload_n 0, 1) := by decide +kernel
theorem dX5_nextToken_152 : decode cX5_nextToken 152 = .ok (.dup, 1) := by decide +kernel
theorem dX5_nextToken_153 : decode cX5_nextToken 153 = .ok (.getfield 35, 3) := by decide +kernel
theorem dX5_nextToken_156 : decode cX5_nextToken 156 = .ok (.iconst 1, 1) := by decide +kernel
theorem dX5_nextToken_157 : decode cX5_nextToken 157 = .ok (.iadd, 1) := by decide +kernel
theorem dX5_nextToken_158 : decode cX5_nextToken 158 = .ok (.putfield 35, 3) := by decide +kernel
theorem dX5_nextToken_161 : decode cX5_nextToken 161 = .ok (.return_, 1) := by decide +kernel
set_option maxRecDepth 20000 in
theorem ggX5_skipLetters_X5_isLetter : GoodIn wsX5_skipLetters wsX5_isLetter := goodIn_r _ [7] (by decide +kernel) (by decide +kernel)
set_option maxRecDepth 20000 in
theorem gX5_skipLetters_X5_isLetter : GoodIn wsX5_skipLetters (va_wsS RX5 59 yX5_isLetter wsX5_isLetter) := goodIn_app (goodIn_of _ (by decide +kernel)) ggX5_skipLetters_X5_isLetter
theorem dX5_skipLetters_0 : decode cX5_skipLetters 0 = .ok (.aload_n 0, 1) := by decide +kernel
theorem dX5_skipLetters_1 : decode cX5_skipLetters 1 = .ok (.getfield 35, 3) := by decide +kernel
theorem dX5_skipLetters_4 : decode cX5_skipLetters 4 = .ok (.aload_n 0, 1) := by decide +kernel
theorem dX5_skipLetters_5 : decode cX5_skipLetters 5 = .ok (.getfield 23, 3) := by decide +kernel
theorem dX5_skipLetters_8 : decode cX5_skipLetters 8 = .ok (.if_icmp .ge 31, 3) := by decide +kernel
theorem dX5_skipLetters_11 : decode cX5_skipLetters 11 = .ok (.aload_n 0, 1) := by decide +kernel
theorem dX5_skipLetters_12 : decode cX5_skipLetters 12 = .ok (.getfield 9, 3) := by decide +kernel
theorem dX5_skipLetters_15 : decode cX5_skipLetters 15 = .ok (.aload_n 0, 1) := by decide +kernel
theorem dX5_skipLetters_16 : decode cX5_skipLetters 16 = .ok (.getfield 35, 3) := by decide +kernel
theorem dX5_skipLetters_19 : decode cX5_skipLetters 19 = .ok (.baload, 1) := by decide +kernel
theorem dX5_skipLetters_20 : decode cX5_skipLetters 20 = .ok (.invokestatic 59, 3) := by decide +kernel
theorem dX5_skipLetters_23 : decode cX5_skipLetters 23 = .ok (.ifCond .eq 16, 3) := by decide +kernel
theorem dX5_skipLetters_26 : decode cX5_skipLetters 26 = .ok (.aload_n 0, 1) := by decide +kernel
theorem dX5_skipLetters_27 : decode cX5_skipLetters 27 = .ok (.dup, 1) := by decide +kernel
theorem dX5_skipLetters_28 : decode cX5_skipLetters 28 = .ok (.getfield 35, 3) := by decide +kernel
theorem dX5_skipLetters_31 : decode cX5_skipLetters 31 = .ok (.iconst 1, 1) := by decide +kernel
theorem dX5_skipLetters_32 : decode cX5_skipLetters 32 = .ok (.iadd, 1) := by decide +kernel
theorem dX5_skipLetters_33 : decode cX5_skipLetters 33 = .ok (.putfield 35, 3) := by decide +kernel
theorem dX5_skipLetters_36 : decode cX5_skipLetters 36 = .ok (.goto (-36), 3) := by decide +kernel
theorem dX5_skipLetters_39 : decode cX5_skipLetters 39 = .ok (.return_, 1) := by decide +kernel
set_option maxRecDepth 20000 in
theorem ggX5_readNumber_X5_isDigit : GoodIn wsX5_readNumber wsX5_isDigit := goodIn_r _ [10] (by decide +kernel) (by decide +kernel)
set_option maxRecDepth 20000 in
theorem gX5_readNumber_X5_isDigit : GoodIn wsX5_readNumber (va_wsS RX5 66 yX5_isDigit wsX5_isDigit) := goodIn_app (goodIn_of _ (by decide +kernel)) ggX5_readNumber_X5_isDigit
theorem dX5_readNumber_0 : decode cX5_readNumber 0 = .ok (.aload_n 0, 1) := by decide +kernel
theorem dX5_readNumber_1 : decode cX5_readNumber 1 = .ok (.iconst 0, 1) := by decide +kernel
theorem dX5_readNumber_2 : decode cX5_readNumber 2 = .ok (.putfield 72, 3) := by decide +kernel
theorem dX5_readNumber_5 : decode cX5_readNumber 5 = .ok (.aload_n 0, 1) := by decide +kernel
theorem dX5_readNumber_6 : decode cX5_readNumber 6 = .ok (.getfield 35, 3) := by decide +kernel
theorem dX5_readNumber_9 : decode cX5_readNumber 9 = .ok (.aload_n 0, 1) := by decide +kernel
theorem dX5_readNumber_10 : decode cX5_readNumber 10 = .ok (.getfield 23, 3) := by decide +kernel
theorem dX5_readNumber_13 : decode cX5_readNumber 13 = .ok (.if_icmp .ge 68, 3) := by decide +kernel
theorem dX5_readNumber_16 : decode cX5_readNumber 16 = .ok (.aload_n 0, 1) := by decide +kernel
theorem dX5_readNumber_17 : decode cX5_readNumber 17 = .ok (.getfield 9, 3) := by decide +kernel
theorem dX5_readNumber_20 : decode cX5_readNumber 20 = .ok (.aload_n 0, 1) := by decide +kernel
theorem dX5_readNumber_21 : decode cX5_readNumber 21 = .ok (.getfield 35, 3) := by decide +kernel
theorem dX5_readNumber_24 : decode cX5_readNumber 24 = .ok (.baload, 1) := by decide +kernel
theorem dX5_readNumber_25 : decode cX5_readNumber 25 = .ok (.invokestatic 66, 3) := by decide +kernel
theorem dX5_readNumber_28 : decode cX5_readNumber 28 = .ok (.ifCond .eq 53, 3) := by decide +kernel
theorem dX5_readNumber_31 : decode cX5_readNumber 31 = .ok (.aload_n 0, 1) := by decide +kernel
theorem dX5_readNumber_32 : decode cX5_readNumber 32 = .ok (.getfield 35, 3) := by decide +kernel
theorem dX5_readNumber_35 : decode cX5_readNumber 35 = .ok (.aload_n 0, 1) := by decide +kernel
theorem dX5_readNumber_36 : decode cX5_readNumber 36 = .ok (.getfield 56, 3) := by decide +kernel
theorem dX5_readNumber_39 : decode cX5_readNumber 39 = .ok (.isub, 1) := by decide +kernel
theorem dX5_readNumber_40 : decode cX5_readNumber 40 = .ok (.iconst 4, 1) := by decide +kernel
theorem dX5_readNumber_41 : decode cX5_readNumber 41 = .ok (.if_icmp .ge 27, 3) := by decide +kernel
theorem dX5_readNumber_44 : decode cX5_readNumber 44 = .ok (.aload_n 0, 1) := by decide +kernel
theorem dX5_readNumber_45 : decode cX5_readNumber 45 = .ok (.aload_n 0, 1) := by decide +kernel
theorem dX5_readNumber_46 : decode cX5_readNumber 46 = .ok (.getfield 72, 3) := by decide +kernel
theorem dX5_readNumber_49 : decode cX5_readNumber 49 = .ok (.bipush 10, 2) := by decide +kernel
theorem dX5_readNumber_51 : decode cX5_readNumber 51 = .ok (.imul, 1) := by decide +kernel
theorem dX5_readNumber_52 : decode cX5_readNumber 52 = .ok (.aload_n 0, 1) := by decide +kernel
theorem dX5_readNumber_53 : decode cX5_readNumber 53 = .ok (.getfield 9, 3) := by decide +kernel
theorem dX5_readNumber_56 : decode cX5_readNumber 56 = .ok (.aload_n 0, 1) := by decide +kernel
theorem dX5_readNumber_57 : decode cX5_readNumber 57 = .ok (.getfield 35, 3) := by decide +kernel
theorem dX5_readNumber_60 : decode cX5_readNumber 60 = .ok (.baload, 1) := by decide +kernel
theorem dX5_readNumber_61 : decode cX5_readNumber 61 = .ok (.iadd, 1) := by decide +kernel
theorem dX5_readNumber_62 : decode cX5_readNumber 62 = .ok (.bipush 48, 2) := by decide +kernel
theorem dX5_readNumber_64 : decode cX5_readNumber 64 = .ok (.isub, 1) := by decide +kernel
theorem dX5_readNumber_65 : decode cX5_readNumber 65 = .ok (.putfield 72, 3) := by decide +kernel
theorem dX5_readNumber_68 : decode cX5_readNumber 68 = .ok (.aload_n 0, 1) := by decide +kernel
theorem dX5_readNumber_69 : decode cX5_readNumber 69 = .ok (.dup, 1) := by decide +kernel
theorem dX5_readNumber_70 : decode cX5_readNumber 70 = .ok (.getfield 35, 3) := by decide +kernel
theorem dX5_readNumber_73 : decode cX5_readNumber 73 = .ok (.iconst 1, 1) := by decide +kernel
theorem dX5_readNumber_74 : decode cX5_readNumber 74 = .ok (.iadd, 1) := by decide +kernel
theorem dX5_readNumber_75 : decode cX5_readNumber 75 = .ok (.putfield 35, 3) := by decide +kernel
theorem dX5_readNumber_78 : decode cX5_readNumber 78 = .ok (.goto (-73), 3) := by decide +kernel
theorem dX5_readNumber_81 : decode cX5_readNumber 81 = .ok (.aload_n 0, 1) := by decide +kernel
theorem dX5_readNumber_82 : decode cX5_readNumber 82 = .ok (.aload_n 0, 1) := by decide +kernel
theorem dX5_readNumber_83 : decode cX5_readNumber 83 = .ok (.getfield 35, 3) := by decide +kernel
theorem dX5_readNumber_86 : decode cX5_readNumber 86 = .ok (.aload_n 0, 1) := by decide +kernel
theorem dX5_readNumber_87 : decode cX5_readNumber 87 = .ok (.getfield 56, 3) := by decide +kernel
theorem dX5_readNumber_90 : decode cX5_readNumber 90 = .ok (.isub, 1) := by decide +kernel
theorem dX5_readNumber_91 : decode cX5_readNumber 91 = .ok (.iconst 4, 1) := by decide +kernel
theorem dX5_readNumber_92 : decode cX5_readNumber 92 = .ok (.if_icmp .le 7, 3) := by decide +kernel
theorem dX5_readNumber_95 : decode cX5_readNumber 95 = .ok (.iconst 0, 1) := by decide +kernel
theorem dX5_readNumber_96 : decode cX5_readNumber 96 = .ok (.goto 4, 3) := by decide +kernel
theorem dX5_readNumber_99 : decode cX5_readNumber 99 = .ok (.iconst 2, 1) := by decide +kernel
theorem dX5_readNumber_100 : decode cX5_readNumber 100 = .ok (.putfield 38, 3) := by decide +kernel
theorem dX5_readNumber_103 : decode cX5_readNumber 103 = .ok (.return_, 1) := by decide +kernel
theorem dX5_isLetter_0 : decode cX5_isLetter 0 = .ok (.iload_n 0, 1) := by decide +kernel
theorem dX5_isLetter_1 : decode cX5_isLetter 1 = .ok (.bipush 97, 2) := by decide +kernel
theorem dX5_isLetter_3 : decode cX5_isLetter 3 = .ok (.if_icmp .lt 13, 3) := by decide +kernel
theorem dX5_isLetter_6 : decode cX5_isLetter 6 = .ok (.iload_n 0, 1) := by decide +kernel
theorem dX5_isLetter_7 : decode cX5_isLetter 7 = .ok (.bipush 122, 2) := by decide +kernel
theorem dX5_isLetter_9 : decode cX5_isLetter 9 = .ok (.if_icmp .gt 7, 3) := by decide +kernel
theorem dX5_isLetter_12 : decode cX5_isLetter 12 = .ok (.iconst 1, 1) := by decide +kernel
theorem dX5_isLetter_13 : decode cX5_isLetter 13 = .ok (.goto 4, 3) := by decide +kernel
theorem dX5_isLetter_16 : decode cX5_isLetter 16 = .ok (.iconst 0, 1) := by decide +kernel
theorem dX5_isLetter_17 : decode cX5_isLetter 17 = .ok (.ireturn, 1) := by decide +kernel
theorem dX5_isDigit_0 : decode cX5_isDigit 0 = .ok (.iload_n 0, 1) := by decide +kernel
theorem dX5_isDigit_1 : decode cX5_isDigit 1 = .ok (.bipush 48, 2) := by decide +kernel
theorem dX5_isDigit_3 : decode cX5_isDigit 3 = .ok (.if_icmp .lt 13, 3) := by decide +kernel
theorem dX5_isDigit_6 : decode cX5_isDigit 6 = .ok (.iload_n 0, 1) := by decide +kernel
theorem dX5_isDigit_7 : decode cX5_isDigit 7 = .ok (.bipush 57, 2) := by decide +kernel
theorem dX5_isDigit_9 : decode cX5_isDigit 9 = .ok (.if_icmp .gt 7, 3) := by decide +kernel
theorem dX5_isDigit_12 : decode cX5_isDigit 12 = .ok (.iconst 1, 1) := by decide +kernel
theorem dX5_isDigit_13 : decode cX5_isDigit 13 = .ok (.goto 4, 3) := by decide +kernel
theorem dX5_isDigit_16 : decode cX5_isDigit 16 = .ok (.iconst 0, 1) := by decide +kernel
theorem dX5_isDigit_17 : decode cX5_isDigit 17 = .ok (.ireturn, 1) := by decide +kernel
set_option maxRecDepth 20000 in
theorem ggX5_takeToken_X5_takeFirstWord : GoodIn wsX5_takeToken wsX5_takeFirstWord := goodIn_r _ [6, 7, 8, 1, 9, 10, 11, 12, 5, 13, 14, 15, 16, 17, 18, 19, 20, 21, 22, 23, 24, 25, 26, 27, 28, 29, 30, 31, 32, 33, 34, 35, 36, 37, 38, 39, 40, 41, 42, 43, 44, 45, 46, 47, 48, 49, 50, 51, 52, 53, 54, 55, 56, 57, 58, 59, 60, 61, 62, 63, 64, 65, 66, 67, 68, 69, 70, 71, 72, 73, 74, 75, 76, 77, 78, 79, 80, 81, 120, 121, 122, 123, 124, 125, 126, 127, 128, 129, 130, 131] (by decide +kernel) (by decide +kernel)
set_option maxRecDepth 20000 in
theorem gX5_takeToken_X5_takeFirstWord : GoodIn wsX5_takeToken (wsV RX5 75 RX5 yX5_takeFirstWord wsX5_takeFirstWord) := goodIn_app (goodIn_of _ (by decide +kernel)) ggX5_takeToken_X5_takeFirstWord
set_option maxRecDepth 20000 in
theorem ggX5_takeToken_X5_takeNumber : GoodIn wsX5_takeToken wsX5_takeNumber := goodIn_r _ [85, 7, 86, 8, 87, 1, 73, 74, 75, 5, 76, 77, 22, 78, 88, 89, 90, 91, 92, 93, 120, 121, 122, 123, 124, 125, 126, 127, 128, 129, 130, 131] (by decide +kernel) (by decide +kernel)
set_option maxRecDepth 20000 in
theorem gX5_takeToken_X5_takeNumber : GoodIn wsX5_takeToken (wsV RX5 78 RX5 yX5_takeNumber wsX5_takeNumber) := goodIn_app (goodIn_of _ (by decide +kernel)) ggX5_takeToken_X5_takeNumber
set_option maxRecDepth 20000 in
theorem ggX5_takeToken_X5_takeOrder : GoodIn wsX5_takeToken wsX5_takeOrder := goodIn_r _ [97, 87, 1, 98, 99, 100, 5, 101, 102, 103, 104, 17, 18, 19, 20, 7, 21, 22, 23, 24, 25, 26, 27, 28, 29, 30, 31, 32, 33, 34, 35, 36, 37, 38, 39, 40, 41, 42, 43, 44, 45, 46, 47, 48, 49, 50, 51, 52, 53, 54, 55, 56, 57, 58, 59, 60, 61, 62, 63, 64, 65, 66, 67, 68, 69, 70, 71, 72, 73, 74, 75, 76, 77, 78, 120, 121, 122, 123, 124, 125, 126, 127, 128, 129, 130, 131] (by decide +kernel) (by decide +kernel)
set_option maxRecDepth 20000 in
theorem gX5_takeToken_X5_takeOrder : GoodIn wsX5_takeToken (wsV RX5 81 RX5 yX5_takeOrder wsX5_takeOrder) := goodIn_app (goodIn_of _ (by decide +kernel)) ggX5_takeToken_X5_takeOrder
set_option maxRecDepth 20000 in
theorem ggX5_takeToken_X5_takeBar : GoodIn wsX5_takeToken wsX5_takeBar := goodIn_r _ [108, 87, 1, 109, 110, 111, 5, 112, 113, 114, 115, 17, 18, 19, 20, 7, 21, 22, 23, 24, 25, 26, 27, 28, 29, 30, 31, 32, 33, 34, 35, 36, 37, 38, 39, 40, 41, 42, 43, 44, 45, 46, 47, 48, 49, 50, 51, 52, 53, 54, 55, 56, 57, 58, 59, 60, 61, 62, 63, 64, 65, 66, 67, 68, 69, 70, 71, 72, 73, 74, 75, 76, 77, 78, 79, 80, 81, 120, 121, 122, 123, 124, 125, 126, 127, 128, 129, 130, 131] (by decide +kernel) (by decide +kernel)
set_option maxRecDepth 20000 in
theorem gX5_takeToken_X5_takeBar : GoodIn wsX5_takeToken (wsV RX5 84 RX5 yX5_takeBar wsX5_takeBar) := goodIn_app (goodIn_of _ (by decide +kernel)) ggX5_takeToken_X5_takeBar
set_option maxRecDepth 20000 in
theorem ggX5_takeToken_X5_takeSemicolon : GoodIn wsX5_takeToken wsX5_takeSemicolon := goodIn_r _ [119, 7, 1, 73, 74, 75, 5, 76, 77, 22, 78, 120, 121, 122, 123, 124, 125, 126, 127, 128, 129, 130, 131] (by decide +kernel) (by decide +kernel)
set_option maxRecDepth 20000 in
theorem gX5_takeToken_X5_takeSemicolon : GoodIn wsX5_takeToken (wsV RX5 87 RX5 yX5_takeSemicolon wsX5_takeSemicolon) := goodIn_app (goodIn_of _ (by decide +kernel)) ggX5_takeToken_X5_takeSemicolon
theorem dX5_takeToken_0 : decode cX5_takeToken 0 = .ok (.aload_n 0, 1) := by decide +kernel
theorem dX5_takeToken_1 : decode cX5_takeToken 1 = .ok (.getfield 41, 3) := by decide +kernel
theorem dX5_takeToken_4 : decode cX5_takeToken 4 = .ok (.tableswitch 60 0 3 #[32, 39, 46, 53], 32) := by decide +kernel
theorem dX5_takeToken_36 : decode cX5_takeToken 36 = .ok (.aload_n 0, 1) := by decide +kernel
theorem dX5_takeToken_37 : decode cX5_takeToken 37 = .ok (.invokevirtual 75, 3) := by decide +kernel
theorem dX5_takeToken_40 : decode cX5_takeToken 40 = .ok (.goto 28, 3) := by decide +kernel
theorem dX5_takeToken_43 : decode cX5_takeToken 43 = .ok (.aload_n 0, 1) := by decide +kernel
theorem dX5_takeToken_44 : decode cX5_takeToken 44 = .ok (.invokevirtual 78, 3) := by decide +kernel
theorem dX5_takeToken_47 : decode cX5_takeToken 47 = .ok (.goto 21, 3) := by decide +kernel
theorem dX5_takeToken_50 : decode cX5_takeToken 50 = .ok (.aload_n 0, 1) := by decide +kernel
theorem dX5_takeToken_51 : decode cX5_takeToken 51 = .ok (.invokevirtual 81, 3) := by decide +kernel
theorem dX5_takeToken_54 : decode cX5_takeToken 54 = .ok (.goto 14, 3) := by decide +kernel
theorem dX5_takeToken_57 : decode cX5_takeToken 57 = .ok (.aload_n 0, 1) := by decide +kernel
theorem dX5_takeToken_58 : decode cX5_takeToken 58 = .ok (.invokevirtual 84, 3) := by decide +kernel
theorem dX5_takeToken_61 : decode cX5_takeToken 61 = .ok (.goto 7, 3) := by decide +kernel
theorem dX5_takeToken_64 : decode cX5_takeToken 64 = .ok (.aload_n 0, 1) := by decide +kernel
theorem dX5_takeToken_65 : decode cX5_takeToken 65 = .ok (.invokevirtual 87, 3) := by decide +kernel
theorem dX5_takeToken_68 : decode cX5_takeToken 68 = .ok (.return_, 1) := by decide +kernel
set_option maxRecDepth 20000 in
theorem ggX5_takeFirstWord_X5_ruleOfWord : GoodIn wsX5_takeFirstWord wsX5_ruleOfWord := goodIn_r _ [9, 10, 11, 8, 12, 13, 14, 15, 16, 1, 17, 18, 19, 20, 21, 22, 23, 24, 25, 26, 27, 28, 29, 30, 31, 32, 33, 34, 35, 36, 37, 38, 39, 40, 41, 42, 43, 44, 45, 46, 47, 48, 49, 50, 51, 52, 53, 54, 55, 56, 57, 58, 59, 60, 61, 62, 63, 64, 65, 66, 67, 68, 78, 79, 80, 81, 82, 83, 84, 85, 86, 87, 88, 89] (by decide +kernel) (by decide +kernel)
set_option maxRecDepth 20000 in
theorem gX5_takeFirstWord_X5_ruleOfWord : GoodIn wsX5_takeFirstWord (wsV RX5 90 RX5 yX5_ruleOfWord wsX5_ruleOfWord) := goodIn_app (goodIn_of _ (by decide +kernel)) ggX5_takeFirstWord_X5_ruleOfWord
set_option maxRecDepth 20000 in
theorem ggX5_takeFirstWord_X5_setFault : GoodIn wsX5_takeFirstWord wsX5_setFault := goodIn_r _ [72, 73, 18, 74, 78, 79, 80, 81, 82, 83, 84, 85, 86, 87, 88, 89] (by decide +kernel) (by decide +kernel)
set_option maxRecDepth 20000 in
theorem gX5_takeFirstWord_X5_setFault : GoodIn wsX5_takeFirstWord (wsV RX5 97 RX5 yX5_setFault wsX5_setFault) := goodIn_app (goodIn_of _ (by decide +kernel)) ggX5_takeFirstWord_X5_setFault
set_option maxRecDepth 20000 in
theorem ggX5_takeFirstWord_X7_hasBit : GoodIn wsX5_takeFirstWord wsX7_hasBit := goodIn_r _ [77] (by decide +kernel) (by decide +kernel)
set_option maxRecDepth 20000 in
theorem gX5_takeFirstWord_X7_hasBit_n101 : GoodIn wsX5_takeFirstWord (wsX7_hasBit) := ggX5_takeFirstWord_X7_hasBit
theorem dX5_takeFirstWord_0 : decode cX5_takeFirstWord 0 = .ok (.aload_n 0, 1) := by decide +kernel
theorem dX5_takeFirstWord_1 : decode cX5_takeFirstWord 1 = .ok (.getfield 38, 3) := by decide +kernel
theorem dX5_takeFirstWord_4 : decode cX5_takeFirstWord 4 = .ok (.iconst 4, 1) := by decide +kernel
theorem dX5_takeFirstWord_5 : decode cX5_takeFirstWord 5 = .ok (.if_icmp .ne 4, 3) := by decide +kernel
theorem dX5_takeFirstWord_8 : decode cX5_takeFirstWord 8 = .ok (.return_, 1) := by decide +kernel
theorem dX5_takeFirstWord_9 : decode cX5_takeFirstWord 9 = .ok (.aload_n 0, 1) := by decide +kernel
theorem dX5_takeFirstWord_10 : decode cX5_takeFirstWord 10 = .ok (.aload_n 0, 1) := by decide +kernel
theorem dX5_takeFirstWord_11 : decode cX5_takeFirstWord 11 = .ok (.invokevirtual 90, 3) := by decide +kernel
theorem dX5_takeFirstWord_14 : decode cX5_takeFirstWord 14 = .ok (.putfield 94, 3) := by decide +kernel
theorem dX5_takeFirstWord_17 : decode cX5_takeFirstWord 17 = .ok (.aload_n 0, 1) := by decide +kernel
theorem dX5_takeFirstWord_18 : decode cX5_takeFirstWord 18 = .ok (.getfield 94, 3) := by decide +kernel
theorem dX5_takeFirstWord_21 : decode cX5_takeFirstWord 21 = .ok (.iconst (-1), 1) := by decide +kernel
theorem dX5_takeFirstWord_22 : decode cX5_takeFirstWord 22 = .ok (.if_icmp .ne 11, 3) := by decide +kernel
theorem dX5_takeFirstWord_25 : decode cX5_takeFirstWord 25 = .ok (.aload_n 0, 1) := by decide +kernel
theorem dX5_takeFirstWord_26 : decode cX5_takeFirstWord 26 = .ok (.iconst 1, 1) := by decide +kernel
theorem dX5_takeFirstWord_27 : decode cX5_takeFirstWord 27 = .ok (.invokevirtual 97, 3) := by decide +kernel
theorem dX5_takeFirstWord_30 : decode cX5_takeFirstWord 30 = .ok (.goto 75, 3) := by decide +kernel
theorem dX5_takeFirstWord_33 : decode cX5_takeFirstWord 33 = .ok (.aload_n 0, 1) := by decide +kernel
theorem dX5_takeFirstWord_34 : decode cX5_takeFirstWord 34 = .ok (.getfield 94, 3) := by decide +kernel
theorem dX5_takeFirstWord_37 : decode cX5_takeFirstWord 37 = .ok (.bipush 10, 2) := by decide +kernel
theorem dX5_takeFirstWord_39 : decode cX5_takeFirstWord 39 = .ok (.if_icmp .ne 11, 3) := by decide +kernel
theorem dX5_takeFirstWord_42 : decode cX5_takeFirstWord 42 = .ok (.aload_n 0, 1) := by decide +kernel
theorem dX5_takeFirstWord_43 : decode cX5_takeFirstWord 43 = .ok (.iconst 3, 1) := by decide +kernel
theorem dX5_takeFirstWord_44 : decode cX5_takeFirstWord 44 = .ok (.putfield 41, 3) := by decide +kernel
theorem dX5_takeFirstWord_47 : decode cX5_takeFirstWord 47 = .ok (.goto 58, 3) := by decide +kernel
theorem dX5_takeFirstWord_50 : decode cX5_takeFirstWord 50 = .ok (.aload_n 0, 1) := by decide +kernel
theorem dX5_takeFirstWord_51 : decode cX5_takeFirstWord 51 = .ok (.getfield 44, 3) := by decide +kernel
theorem dX5_takeFirstWord_54 : decode cX5_takeFirstWord 54 = .ok (.aload_n 0, 1) := by decide +kernel
theorem dX5_takeFirstWord_55 : decode cX5_takeFirstWord 55 = .ok (.getfield 94, 3) := by decide +kernel
theorem dX5_takeFirstWord_58 : decode cX5_takeFirstWord 58 = .ok (.invokestatic 101, 3) := by decide +kernel
theorem dX5_takeFirstWord_61 : decode cX5_takeFirstWord 61 = .ok (.ifCond .eq 11, 3) := by decide +kernel
theorem dX5_takeFirstWord_64 : decode cX5_takeFirstWord 64 = .ok (.aload_n 0, 1) := by decide +kernel
theorem dX5_takeFirstWord_65 : decode cX5_takeFirstWord 65 = .ok (.iconst 3, 1) := by decide +kernel
theorem dX5_takeFirstWord_66 : decode cX5_takeFirstWord 66 = .ok (.invokevirtual 97, 3) := by decide +kernel
theorem dX5_takeFirstWord_69 : decode cX5_takeFirstWord 69 = .ok (.goto 36, 3) := by decide +kernel
theorem dX5_takeFirstWord_72 : decode cX5_takeFirstWord 72 = .ok (.aload_n 0, 1) := by decide +kernel
theorem dX5_takeFirstWord_73 : decode cX5_takeFirstWord 73 = .ok (.dup, 1) := by decide +kernel
theorem dX5_takeFirstWord_74 : decode cX5_takeFirstWord 74 = .ok (.getfield 44, 3) := by decide +kernel
theorem dX5_takeFirstWord_77 : decode cX5_takeFirstWord 77 = .ok (.iconst 1, 1) := by decide +kernel
theorem dX5_takeFirstWord_78 : decode cX5_takeFirstWord 78 = .ok (.aload_n 0, 1) := by decide +kernel
theorem dX5_takeFirstWord_79 : decode cX5_takeFirstWord 79 = .ok (.getfield 94, 3) := by decide +kernel
theorem dX5_takeFirstWord_82 : decode cX5_takeFirstWord 82 = .ok (.ishl, 1) := by decide +kernel
theorem dX5_takeFirstWord_83 : decode cX5_takeFirstWord 83 = .ok (.ior, 1) := by decide +kernel
theorem dX5_takeFirstWord_84 : decode cX5_takeFirstWord 84 = .ok (.putfield 44, 3) := by decide +kernel
theorem dX5_takeFirstWord_87 : decode cX5_takeFirstWord 87 = .ok (.aload_n 0, 1) := by decide +kernel
theorem dX5_takeFirstWord_88 : decode cX5_takeFirstWord 88 = .ok (.aload_n 0, 1) := by decide +kernel
theorem dX5_takeFirstWord_89 : decode cX5_takeFirstWord 89 = .ok (.getfield 94, 3) := by decide +kernel
theorem dX5_takeFirstWord_92 : decode cX5_takeFirstWord 92 = .ok (.bipush 9, 2) := by decide +kernel
theorem dX5_takeFirstWord_94 : decode cX5_takeFirstWord 94 = .ok (.if_icmp .ne 7, 3) := by decide +kernel
theorem dX5_takeFirstWord_97 : decode cX5_takeFirstWord 97 = .ok (.iconst 2, 1) := by decide +kernel
theorem dX5_takeFirstWord_98 : decode cX5_takeFirstWord 98 = .ok (.goto 4, 3) := by decide +kernel
theorem dX5_takeFirstWord_101 : decode cX5_takeFirstWord 101 = .ok (.iconst 1, 1) := by decide +kernel
theorem dX5_takeFirstWord_102 : decode cX5_takeFirstWord 102 = .ok (.putfield 41, 3) := by decide +kernel
theorem dX5_takeFirstWord_105 : decode cX5_takeFirstWord 105 = .ok (.return_, 1) := by decide +kernel
set_option maxRecDepth 20000 in
theorem ggX5_takeNumber_X5_setFault : GoodIn wsX5_takeNumber wsX5_setFault := goodIn_r _ [10, 11, 12, 13, 20, 21, 22, 23, 24, 25, 26, 27, 28, 29, 30, 31] (by decide +kernel) (by decide +kernel)
set_option maxRecDepth 20000 in
theorem gX5_takeNumber_X5_setFault : GoodIn wsX5_takeNumber (wsV RX5 97 RX5 yX5_setFault wsX5_setFault) := goodIn_app (goodIn_of _ (by decide +kernel)) ggX5_takeNumber_X5_setFault
set_option maxRecDepth 20000 in
theorem ggX5_takeNumber_X5_leastOf : GoodIn wsX5_takeNumber wsX5_leastOf := goodIn_r _ [16] (by decide +kernel) (by decide +kernel)
set_option maxRecDepth 20000 in
theorem gX5_takeNumber_X5_leastOf : GoodIn wsX5_takeNumber (va_wsS RX5 105 yX5_leastOf wsX5_leastOf) := goodIn_app (goodIn_of _ (by decide +kernel)) ggX5_takeNumber_X5_leastOf
set_option maxRecDepth 20000 in
theorem ggX5_takeNumber_X5_greatestOf : GoodIn wsX5_takeNumber wsX5_greatestOf := goodIn_r _ [19] (by decide +kernel) (by decide +kernel)
set_option maxRecDepth 20000 in
theorem gX5_takeNumber_X5_greatestOf : GoodIn wsX5_takeNumber (va_wsS RX5 109 yX5_greatestOf wsX5_greatestOf) := goodIn_app (goodIn_of _ (by decide +kernel)) ggX5_takeNumber_X5_greatestOf
theorem dX5_takeNumber_0 : decode cX5_takeNumber 0 = .ok (.aload_n 0, 1) := by decide +kernel
theorem dX5_takeNumber_1 : decode cX5_takeNumber 1 = .ok (.getfield 38, 3) := by decide +kernel
theorem dX5_takeNumber_4 : decode cX5_takeNumber 4 = .ok (.iconst 2, 1) := by decide +kernel
theorem dX5_takeNumber_5 : decode cX5_takeNumber 5 = .ok (.if_icmp .eq 11, 3) := by decide +kernel
theorem dX5_takeNumber_8 : decode cX5_takeNumber 8 = .ok (.aload_n 0, 1) := by decide +kernel
theorem dX5_takeNumber_9 : decode cX5_takeNumber 9 = .ok (.iconst 1, 1) := by decide +kernel
theorem dX5_takeNumber_10 : decode cX5_takeNumber 10 = .ok (.invokevirtual 97, 3) := by decide +kernel
theorem dX5_takeNumber_13 : decode cX5_takeNumber 13 = .ok (.goto 57, 3) := by decide +kernel
theorem dX5_takeNumber_16 : decode cX5_takeNumber 16 = .ok (.aload_n 0, 1) := by decide +kernel
theorem dX5_takeNumber_17 : decode cX5_takeNumber 17 = .ok (.getfield 72, 3) := by decide +kernel
theorem dX5_takeNumber_20 : decode cX5_takeNumber 20 = .ok (.aload_n 0, 1) := by decide +kernel
theorem dX5_takeNumber_21 : decode cX5_takeNumber 21 = .ok (.getfield 94, 3) := by decide +kernel
theorem dX5_takeNumber_24 : decode cX5_takeNumber 24 = .ok (.invokestatic 105, 3) := by decide +kernel
theorem dX5_takeNumber_27 : decode cX5_takeNumber 27 = .ok (.if_icmp .lt 17, 3) := by decide +kernel
theorem dX5_takeNumber_30 : decode cX5_takeNumber 30 = .ok (.aload_n 0, 1) := by decide +kernel
theorem dX5_takeNumber_31 : decode cX5_takeNumber 31 = .ok (.getfield 72, 3) := by decide +kernel
theorem dX5_takeNumber_34 : decode cX5_takeNumber 34 = .ok (.aload_n 0, 1) := by decide +kernel
theorem dX5_takeNumber_35 : decode cX5_takeNumber 35 = .ok (.getfield 94, 3) := by decide +kernel
theorem dX5_takeNumber_38 : decode cX5_takeNumber 38 = .ok (.invokestatic 109, 3) := by decide +kernel
theorem dX5_takeNumber_41 : decode cX5_takeNumber 41 = .ok (.if_icmp .le 11, 3) := by decide +kernel
theorem dX5_takeNumber_44 : decode cX5_takeNumber 44 = .ok (.aload_n 0, 1) := by decide +kernel
theorem dX5_takeNumber_45 : decode cX5_takeNumber 45 = .ok (.iconst 2, 1) := by decide +kernel
theorem dX5_takeNumber_46 : decode cX5_takeNumber 46 = .ok (.invokevirtual 97, 3) := by decide +kernel
theorem dX5_takeNumber_49 : decode cX5_takeNumber 49 = .ok (.goto 21, 3) := by decide +kernel
theorem dX5_takeNumber_52 : decode cX5_takeNumber 52 = .ok (.aload_n 0, 1) := by decide +kernel
theorem dX5_takeNumber_53 : decode cX5_takeNumber 53 = .ok (.getfield 15, 3) := by decide +kernel
theorem dX5_takeNumber_56 : decode cX5_takeNumber 56 = .ok (.aload_n 0, 1) := by decide +kernel
theorem dX5_takeNumber_57 : decode cX5_takeNumber 57 = .ok (.getfield 94, 3) := by decide +kernel
theorem dX5_takeNumber_60 : decode cX5_takeNumber 60 = .ok (.aload_n 0, 1) := by decide +kernel
theorem dX5_takeNumber_61 : decode cX5_takeNumber 61 = .ok (.getfield 72, 3) := by decide +kernel
theorem dX5_takeNumber_64 : decode cX5_takeNumber 64 = .ok (.iastore, 1) := by decide +kernel
theorem dX5_takeNumber_65 : decode cX5_takeNumber 65 = .ok (.aload_n 0, 1) := by decide +kernel
theorem dX5_takeNumber_66 : decode cX5_takeNumber 66 = .ok (.iconst 4, 1) := by decide +kernel
theorem dX5_takeNumber_67 : decode cX5_takeNumber 67 = .ok (.putfield 41, 3) := by decide +kernel
theorem dX5_takeNumber_70 : decode cX5_takeNumber 70 = .ok (.return_, 1) := by decide +kernel
set_option maxRecDepth 20000 in
theorem ggX5_takeOrder_X5_orderOfWord : GoodIn wsX5_takeOrder wsX5_orderOfWord := goodIn_r _ [7, 8, 9, 6, 10, 11, 12, 13, 14, 15, 16, 17, 18, 19, 20, 21, 22, 23, 24, 25, 26, 27, 28, 29, 30, 31, 32, 33, 34, 35, 36, 37, 38, 39, 40, 41, 42, 43, 44, 45, 46, 47, 48, 49, 50, 51, 52, 53, 54, 55, 56, 57, 58, 59, 60, 61, 62, 63, 64, 65, 66, 67, 74, 75, 76, 77, 78, 79, 80, 81, 82, 83, 84, 85] (by decide +kernel) (by decide +kernel)
set_option maxRecDepth 20000 in
theorem gX5_takeOrder_X5_orderOfWord : GoodIn wsX5_takeOrder (wsV RX5 112 RX5 yX5_orderOfWord wsX5_orderOfWord) := goodIn_app (goodIn_of _ (by decide +kernel)) ggX5_takeOrder_X5_orderOfWord
set_option maxRecDepth 20000 in
theorem ggX5_takeOrder_X5_setFault : GoodIn wsX5_takeOrder wsX5_setFault := goodIn_r _ [71, 72, 17, 73, 74, 75, 76, 77, 78, 79, 80, 81, 82, 83, 84, 85] (by decide +kernel) (by decide +kernel)
set_option maxRecDepth 20000 in
theorem gX5_takeOrder_X5_setFault : GoodIn wsX5_takeOrder (wsV RX5 97 RX5 yX5_setFault wsX5_setFault) := goodIn_app (goodIn_of _ (by decide +kernel)) ggX5_takeOrder_X5_setFault
theorem dX5_takeOrder_0 : decode cX5_takeOrder 0 = .ok (.aload_n 0, 1) := by decide +kernel
theorem dX5_takeOrder_1 : decode cX5_takeOrder 1 = .ok (.invokevirtual 112, 3) := by decide +kernel
theorem dX5_takeOrder_4 : decode cX5_takeOrder 4 = .ok (.istore_n 1, 1) := by decide +kernel
theorem dX5_takeOrder_5 : decode cX5_takeOrder 5 = .ok (.iload_n 1, 1) := by decide +kernel
theorem dX5_takeOrder_6 : decode cX5_takeOrder 6 = .ok (.iconst (-1), 1) := by decide +kernel
theorem dX5_takeOrder_7 : decode cX5_takeOrder 7 = .ok (.if_icmp .ne 9, 3) := by decide +kernel
theorem dX5_takeOrder_10 : decode cX5_takeOrder 10 = .ok (.aload_n 0, 1) := by decide +kernel
theorem dX5_takeOrder_11 : decode cX5_takeOrder 11 = .ok (.iconst 1, 1) := by decide +kernel
theorem dX5_takeOrder_12 : decode cX5_takeOrder 12 = .ok (.invokevirtual 97, 3) := by decide +kernel
theorem dX5_takeOrder_15 : decode cX5_takeOrder 15 = .ok (.return_, 1) := by decide +kernel
theorem dX5_takeOrder_16 : decode cX5_takeOrder 16 = .ok (.aload_n 0, 1) := by decide +kernel
theorem dX5_takeOrder_17 : decode cX5_takeOrder 17 = .ok (.getfield 15, 3) := by decide +kernel
theorem dX5_takeOrder_20 : decode cX5_takeOrder 20 = .ok (.bipush 9, 2) := by decide +kernel
theorem dX5_takeOrder_22 : decode cX5_takeOrder 22 = .ok (.iload_n 1, 1) := by decide +kernel
theorem dX5_takeOrder_23 : decode cX5_takeOrder 23 = .ok (.iastore, 1) := by decide +kernel
theorem dX5_takeOrder_24 : decode cX5_takeOrder 24 = .ok (.aload_n 0, 1) := by decide +kernel
theorem dX5_takeOrder_25 : decode cX5_takeOrder 25 = .ok (.iconst 4, 1) := by decide +kernel
theorem dX5_takeOrder_26 : decode cX5_takeOrder 26 = .ok (.putfield 41, 3) := by decide +kernel
theorem dX5_takeOrder_29 : decode cX5_takeOrder 29 = .ok (.return_, 1) := by decide +kernel
set_option maxRecDepth 20000 in
theorem ggX5_takeBar_X5_barOfWord : GoodIn wsX5_takeBar wsX5_barOfWord := goodIn_r _ [7, 8, 9, 6, 10, 11, 12, 13, 14, 15, 16, 17, 18, 19, 20, 21, 22, 23, 24, 25, 26, 27, 28, 29, 30, 31, 32, 33, 34, 35, 36, 37, 38, 39, 40, 41, 42, 43, 44, 45, 46, 47, 48, 49, 50, 51, 52, 53, 54, 55, 56, 57, 58, 59, 60, 61, 62, 63, 64, 65, 66, 67, 77, 78, 79, 80, 81, 82, 83, 84, 85, 86, 87, 88] (by decide +kernel) (by decide +kernel)
set_option maxRecDepth 20000 in
theorem gX5_takeBar_X5_barOfWord : GoodIn wsX5_takeBar (wsV RX5 115 RX5 yX5_barOfWord wsX5_barOfWord) := goodIn_app (goodIn_of _ (by decide +kernel)) ggX5_takeBar_X5_barOfWord
set_option maxRecDepth 20000 in
theorem ggX5_takeBar_X5_setFault : GoodIn wsX5_takeBar wsX5_setFault := goodIn_r _ [71, 72, 17, 73, 77, 78, 79, 80, 81, 82, 83, 84, 85, 86, 87, 88] (by decide +kernel) (by decide +kernel)
set_option maxRecDepth 20000 in
theorem gX5_takeBar_X5_setFault : GoodIn wsX5_takeBar (wsV RX5 97 RX5 yX5_setFault wsX5_setFault) := goodIn_app (goodIn_of _ (by decide +kernel)) ggX5_takeBar_X5_setFault
set_option maxRecDepth 20000 in
theorem ggX5_takeBar_X7_hasBit : GoodIn wsX5_takeBar wsX7_hasBit := goodIn_r _ [76] (by decide +kernel) (by decide +kernel)
set_option maxRecDepth 20000 in
theorem gX5_takeBar_X7_hasBit_n101 : GoodIn wsX5_takeBar (wsX7_hasBit) := ggX5_takeBar_X7_hasBit
theorem dX5_takeBar_0 : decode cX5_takeBar 0 = .ok (.aload_n 0, 1) := by decide +kernel
theorem dX5_takeBar_1 : decode cX5_takeBar 1 = .ok (.invokevirtual 115, 3) := by decide +kernel
theorem dX5_takeBar_4 : decode cX5_takeBar 4 = .ok (.istore_n 1, 1) := by decide +kernel
theorem dX5_takeBar_5 : decode cX5_takeBar 5 = .ok (.iload_n 1, 1) := by decide +kernel
theorem dX5_takeBar_6 : decode cX5_takeBar 6 = .ok (.iconst (-1), 1) := by decide +kernel
theorem dX5_takeBar_7 : decode cX5_takeBar 7 = .ok (.if_icmp .ne 11, 3) := by decide +kernel
theorem dX5_takeBar_10 : decode cX5_takeBar 10 = .ok (.aload_n 0, 1) := by decide +kernel
theorem dX5_takeBar_11 : decode cX5_takeBar 11 = .ok (.iconst 1, 1) := by decide +kernel
theorem dX5_takeBar_12 : decode cX5_takeBar 12 = .ok (.invokevirtual 97, 3) := by decide +kernel
theorem dX5_takeBar_15 : decode cX5_takeBar 15 = .ok (.goto 43, 3) := by decide +kernel
theorem dX5_takeBar_18 : decode cX5_takeBar 18 = .ok (.aload_n 0, 1) := by decide +kernel
theorem dX5_takeBar_19 : decode cX5_takeBar 19 = .ok (.getfield 15, 3) := by decide +kernel
theorem dX5_takeBar_22 : decode cX5_takeBar 22 = .ok (.bipush 10, 2) := by decide +kernel
theorem dX5_takeBar_24 : decode cX5_takeBar 24 = .ok (.iaload, 1) := by decide +kernel
theorem dX5_takeBar_25 : decode cX5_takeBar 25 = .ok (.iload_n 1, 1) := by decide +kernel
theorem dX5_takeBar_26 : decode cX5_takeBar 26 = .ok (.invokestatic 101, 3) := by decide +kernel
theorem dX5_takeBar_29 : decode cX5_takeBar 29 = .ok (.ifCond .eq 11, 3) := by decide +kernel
theorem dX5_takeBar_32 : decode cX5_takeBar 32 = .ok (.aload_n 0, 1) := by decide +kernel
theorem dX5_takeBar_33 : decode cX5_takeBar 33 = .ok (.iconst 3, 1) := by decide +kernel
theorem dX5_takeBar_34 : decode cX5_takeBar 34 = .ok (.invokevirtual 97, 3) := by decide +kernel
theorem dX5_takeBar_37 : decode cX5_takeBar 37 = .ok (.goto 21, 3) := by decide +kernel
theorem dX5_takeBar_40 : decode cX5_takeBar 40 = .ok (.aload_n 0, 1) := by decide +kernel
theorem dX5_takeBar_41 : decode cX5_takeBar 41 = .ok (.getfield 15, 3) := by decide +kernel
theorem dX5_takeBar_44 : decode cX5_takeBar 44 = .ok (.bipush 10, 2) := by decide +kernel
theorem dX5_takeBar_46 : decode cX5_takeBar 46 = .ok (.dup2, 1) := by decide +kernel
theorem dX5_takeBar_47 : decode cX5_takeBar 47 = .ok (.iaload, 1) := by decide +kernel
theorem dX5_takeBar_48 : decode cX5_takeBar 48 = .ok (.iconst 1, 1) := by decide +kernel
theorem dX5_takeBar_49 : decode cX5_takeBar 49 = .ok (.iload_n 1, 1) := by decide +kernel
theorem dX5_takeBar_50 : decode cX5_takeBar 50 = .ok (.ishl, 1) := by decide +kernel
theorem dX5_takeBar_51 : decode cX5_takeBar 51 = .ok (.ior, 1) := by decide +kernel
theorem dX5_takeBar_52 : decode cX5_takeBar 52 = .ok (.iastore, 1) := by decide +kernel
theorem dX5_takeBar_53 : decode cX5_takeBar 53 = .ok (.aload_n 0, 1) := by decide +kernel
theorem dX5_takeBar_54 : decode cX5_takeBar 54 = .ok (.iconst 4, 1) := by decide +kernel
theorem dX5_takeBar_55 : decode cX5_takeBar 55 = .ok (.putfield 41, 3) := by decide +kernel
theorem dX5_takeBar_58 : decode cX5_takeBar 58 = .ok (.return_, 1) := by decide +kernel
set_option maxRecDepth 20000 in
theorem ggX5_takeSemicolon_X5_setFault : GoodIn wsX5_takeSemicolon wsX5_setFault := goodIn_r _ [7, 8, 9, 10, 11, 12, 13, 14, 15, 16, 17, 18, 19, 20, 21, 22] (by decide +kernel) (by decide +kernel)
set_option maxRecDepth 20000 in
theorem gX5_takeSemicolon_X5_setFault : GoodIn wsX5_takeSemicolon (wsV RX5 97 RX5 yX5_setFault wsX5_setFault) := goodIn_app (goodIn_of _ (by decide +kernel)) ggX5_takeSemicolon_X5_setFault
theorem dX5_takeSemicolon_0 : decode cX5_takeSemicolon 0 = .ok (.aload_n 0, 1) := by decide +kernel
theorem dX5_takeSemicolon_1 : decode cX5_takeSemicolon 1 = .ok (.getfield 38, 3) := by decide +kernel
theorem dX5_takeSemicolon_4 : decode cX5_takeSemicolon 4 = .ok (.iconst 3, 1) := by decide +kernel
theorem dX5_takeSemicolon_5 : decode cX5_takeSemicolon 5 = .ok (.if_icmp .eq 9, 3) := by decide +kernel
theorem dX5_takeSemicolon_8 : decode cX5_takeSemicolon 8 = .ok (.aload_n 0, 1) := by decide +kernel
theorem dX5_takeSemicolon_9 : decode cX5_takeSemicolon 9 = .ok (.iconst 1, 1) := by decide +kernel
theorem dX5_takeSemicolon_10 : decode cX5_takeSemicolon 10 = .ok (.invokevirtual 97, 3) := by decide +kernel
theorem dX5_takeSemicolon_13 : decode cX5_takeSemicolon 13 = .ok (.return_, 1) := by decide +kernel
theorem dX5_takeSemicolon_14 : decode cX5_takeSemicolon 14 = .ok (.aload_n 0, 1) := by decide +kernel
theorem dX5_takeSemicolon_15 : decode cX5_takeSemicolon 15 = .ok (.iconst 0, 1) := by decide +kernel
theorem dX5_takeSemicolon_16 : decode cX5_takeSemicolon 16 = .ok (.putfield 41, 3) := by decide +kernel
theorem dX5_takeSemicolon_19 : decode cX5_takeSemicolon 19 = .ok (.return_, 1) := by decide +kernel
theorem dX5_setFault_0 : decode cX5_setFault 0 = .ok (.aload_n 0, 1) := by decide +kernel
theorem dX5_setFault_1 : decode cX5_setFault 1 = .ok (.iload_n 1, 1) := by decide +kernel
theorem dX5_setFault_2 : decode cX5_setFault 2 = .ok (.putfield 47, 3) := by decide +kernel
theorem dX5_setFault_5 : decode cX5_setFault 5 = .ok (.aload_n 0, 1) := by decide +kernel
theorem dX5_setFault_6 : decode cX5_setFault 6 = .ok (.aload_n 0, 1) := by decide +kernel
theorem dX5_setFault_7 : decode cX5_setFault 7 = .ok (.getfield 56, 3) := by decide +kernel
theorem dX5_setFault_10 : decode cX5_setFault 10 = .ok (.putfield 19, 3) := by decide +kernel
theorem dX5_setFault_13 : decode cX5_setFault 13 = .ok (.return_, 1) := by decide +kernel
theorem dX5_leastOf_0 : decode cX5_leastOf 0 = .ok (.iload_n 0, 1) := by decide +kernel
theorem dX5_leastOf_1 : decode cX5_leastOf 1 = .ok (.iconst 3, 1) := by decide +kernel
theorem dX5_leastOf_2 : decode cX5_leastOf 2 = .ok (.if_icmp .ne 7, 3) := by decide +kernel
theorem dX5_leastOf_5 : decode cX5_leastOf 5 = .ok (.iconst 1, 1) := by decide +kernel
theorem dX5_leastOf_6 : decode cX5_leastOf 6 = .ok (.goto 4, 3) := by decide +kernel
theorem dX5_leastOf_9 : decode cX5_leastOf 9 = .ok (.iconst 0, 1) := by decide +kernel
theorem dX5_leastOf_10 : decode cX5_leastOf 10 = .ok (.ireturn, 1) := by decide +kernel
theorem dX5_greatestOf_0 : decode cX5_greatestOf 0 = .ok (.iload_n 0, 1) := by decide +kernel
theorem dX5_greatestOf_1 : decode cX5_greatestOf 1 = .ok (.iconst 2, 1) := by decide +kernel
theorem dX5_greatestOf_2 : decode cX5_greatestOf 2 = .ok (.if_icmp .ne 6, 3) := by decide +kernel
theorem dX5_greatestOf_5 : decode cX5_greatestOf 5 = .ok (.bipush 9, 2) := by decide +kernel
theorem dX5_greatestOf_7 : decode cX5_greatestOf 7 = .ok (.ireturn, 1) := by decide +kernel
theorem dX5_greatestOf_8 : decode cX5_greatestOf 8 = .ok (.iload_n 0, 1) := by decide +kernel
theorem dX5_greatestOf_9 : decode cX5_greatestOf 9 = .ok (.iconst 3, 1) := by decide +kernel
theorem dX5_greatestOf_10 : decode cX5_greatestOf 10 = .ok (.if_icmp .ne 8, 3) := by decide +kernel
theorem dX5_greatestOf_13 : decode cX5_greatestOf 13 = .ok (.bipush 30, 2) := by decide +kernel
theorem dX5_greatestOf_15 : decode cX5_greatestOf 15 = .ok (.goto 6, 3) := by decide +kernel
theorem dX5_greatestOf_18 : decode cX5_greatestOf 18 = .ok (.sipush 9999, 3) := by decide +kernel
theorem dX5_greatestOf_21 : decode cX5_greatestOf 21 = .ok (.ireturn, 1) := by decide +kernel
set_option maxRecDepth 20000 in
theorem ggX5_ruleOfWord_X5_ruleWord : GoodIn wsX5_ruleOfWord wsX5_ruleWord := goodIn_r _ [4] (by decide +kernel) (by decide +kernel)
set_option maxRecDepth 20000 in
theorem gX5_ruleOfWord_X5_ruleWord : GoodIn wsX5_ruleOfWord (va_wsS RX5 118 yX5_ruleWord wsX5_ruleWord) := goodIn_app (goodIn_of _ (by decide +kernel)) ggX5_ruleOfWord_X5_ruleWord
set_option maxRecDepth 20000 in
theorem ggX5_ruleOfWord_X5_tokenIs : GoodIn wsX5_ruleOfWord wsX5_tokenIs := goodIn_r _ [8, 9, 10, 11, 12, 13, 14, 15, 16, 17, 18, 19, 20, 21, 22, 23, 24, 25, 26, 27, 28, 29, 30, 31, 32, 33, 34, 35, 36, 37, 38, 39, 40, 41, 42, 43, 44, 45, 46, 47, 48, 49, 50, 51, 52, 53, 54, 55, 56, 57, 58, 59, 60, 61, 62, 63, 64, 65, 66, 67, 68, 69, 70, 71, 72, 73] (by decide +kernel) (by decide +kernel)
set_option maxRecDepth 20000 in
theorem gX5_ruleOfWord_X5_tokenIs : GoodIn wsX5_ruleOfWord (wsV RX5 122 RX5 yX5_tokenIs wsX5_tokenIs) := goodIn_app (goodIn_of _ (by decide +kernel)) ggX5_ruleOfWord_X5_tokenIs
theorem dX5_ruleOfWord_0 : decode cX5_ruleOfWord 0 = .ok (.iconst 0, 1) := by decide +kernel
theorem dX5_ruleOfWord_1 : decode cX5_ruleOfWord 1 = .ok (.istore_n 1, 1) := by decide +kernel
theorem dX5_ruleOfWord_2 : decode cX5_ruleOfWord 2 = .ok (.iload_n 1, 1) := by decide +kernel
theorem dX5_ruleOfWord_3 : decode cX5_ruleOfWord 3 = .ok (.bipush 11, 2) := by decide +kernel
theorem dX5_ruleOfWord_5 : decode cX5_ruleOfWord 5 = .ok (.if_icmp .ge 22, 3) := by decide +kernel
theorem dX5_ruleOfWord_8 : decode cX5_ruleOfWord 8 = .ok (.aload_n 0, 1) := by decide +kernel
theorem dX5_ruleOfWord_9 : decode cX5_ruleOfWord 9 = .ok (.iload_n 1, 1) := by decide +kernel
theorem dX5_ruleOfWord_10 : decode cX5_ruleOfWord 10 = .ok (.invokestatic 118, 3) := by decide +kernel
theorem dX5_ruleOfWord_13 : decode cX5_ruleOfWord 13 = .ok (.invokevirtual 122, 3) := by decide +kernel
theorem dX5_ruleOfWord_16 : decode cX5_ruleOfWord 16 = .ok (.ifCond .eq 5, 3) := by decide +kernel
theorem dX5_ruleOfWord_19 : decode cX5_ruleOfWord 19 = .ok (.iload_n 1, 1) := by decide +kernel
theorem dX5_ruleOfWord_20 : decode cX5_ruleOfWord 20 = .ok (.ireturn, 1) := by decide +kernel
theorem dX5_ruleOfWord_21 : decode cX5_ruleOfWord 21 = .ok (.iinc 1 1, 3) := by decide +kernel
theorem dX5_ruleOfWord_24 : decode cX5_ruleOfWord 24 = .ok (.goto (-22), 3) := by decide +kernel
theorem dX5_ruleOfWord_27 : decode cX5_ruleOfWord 27 = .ok (.iconst (-1), 1) := by decide +kernel
theorem dX5_ruleOfWord_28 : decode cX5_ruleOfWord 28 = .ok (.ireturn, 1) := by decide +kernel
set_option maxRecDepth 20000 in
theorem ggX5_orderOfWord_X5_orderWord : GoodIn wsX5_orderOfWord wsX5_orderWord := goodIn_r _ [4] (by decide +kernel) (by decide +kernel)
set_option maxRecDepth 20000 in
theorem gX5_orderOfWord_X5_orderWord : GoodIn wsX5_orderOfWord (va_wsS RX5 126 yX5_orderWord wsX5_orderWord) := goodIn_app (goodIn_of _ (by decide +kernel)) ggX5_orderOfWord_X5_orderWord
set_option maxRecDepth 20000 in
theorem ggX5_orderOfWord_X5_tokenIs : GoodIn wsX5_orderOfWord wsX5_tokenIs := goodIn_r _ [8, 9, 10, 11, 12, 13, 14, 15, 16, 17, 18, 19, 20, 21, 22, 23, 24, 25, 26, 27, 28, 29, 30, 31, 32, 33, 34, 35, 36, 37, 38, 39, 40, 41, 42, 43, 44, 45, 46, 47, 48, 49, 50, 51, 52, 53, 54, 55, 56, 57, 58, 59, 60, 61, 62, 63, 64, 65, 66, 67, 68, 69, 70, 71, 72, 73] (by decide +kernel) (by decide +kernel)
set_option maxRecDepth 20000 in
theorem gX5_orderOfWord_X5_tokenIs : GoodIn wsX5_orderOfWord (wsV RX5 122 RX5 yX5_tokenIs wsX5_tokenIs) := goodIn_app (goodIn_of _ (by decide +kernel)) ggX5_orderOfWord_X5_tokenIs
theorem dX5_orderOfWord_0 : decode cX5_orderOfWord 0 = .ok (.iconst 0, 1) := by decide +kernel
theorem dX5_orderOfWord_1 : decode cX5_orderOfWord 1 = .ok (.istore_n 1, 1) := by decide +kernel
theorem dX5_orderOfWord_2 : decode cX5_orderOfWord 2 = .ok (.iload_n 1, 1) := by decide +kernel
theorem dX5_orderOfWord_3 : decode cX5_orderOfWord 3 = .ok (.iconst 3, 1) := by decide +kernel
theorem dX5_orderOfWord_4 : decode cX5_orderOfWord 4 = .ok (.if_icmp .ge 22, 3) := by decide +kernel
theorem dX5_orderOfWord_7 : decode cX5_orderOfWord 7 = .ok (.aload_n 0, 1) := by decide +kernel
theorem dX5_orderOfWord_8 : decode cX5_orderOfWord 8 = .ok (.iload_n 1, 1) := by decide +kernel
theorem dX5_orderOfWord_9 : decode cX5_orderOfWord 9 = .ok (.invokestatic 126, 3) := by decide +kernel
theorem dX5_orderOfWord_12 : decode cX5_orderOfWord 12 = .ok (.invokevirtual 122, 3) := by decide +kernel
theorem dX5_orderOfWord_15 : decode cX5_orderOfWord 15 = .ok (.ifCond .eq 5, 3) := by decide +kernel
theorem dX5_orderOfWord_18 : decode cX5_orderOfWord 18 = .ok (.iload_n 1, 1) := by decide +kernel
theorem dX5_orderOfWord_19 : decode cX5_orderOfWord 19 = .ok (.ireturn, 1) := by decide +kernel
theorem dX5_orderOfWord_20 : decode cX5_orderOfWord 20 = .ok (.iinc 1 1, 3) := by decide +kernel
theorem dX5_orderOfWord_23 : decode cX5_orderOfWord 23 = .ok (.goto (-21), 3) := by decide +kernel
theorem dX5_orderOfWord_26 : decode cX5_orderOfWord 26 = .ok (.iconst (-1), 1) := by decide +kernel
theorem dX5_orderOfWord_27 : decode cX5_orderOfWord 27 = .ok (.ireturn, 1) := by decide +kernel
set_option maxRecDepth 20000 in
theorem ggX5_barOfWord_X5_barWord : GoodIn wsX5_barOfWord wsX5_barWord := goodIn_r _ [4] (by decide +kernel) (by decide +kernel)
set_option maxRecDepth 20000 in
theorem gX5_barOfWord_X5_barWord : GoodIn wsX5_barOfWord (va_wsS RX5 129 yX5_barWord wsX5_barWord) := goodIn_app (goodIn_of _ (by decide +kernel)) ggX5_barOfWord_X5_barWord
set_option maxRecDepth 20000 in
theorem ggX5_barOfWord_X5_tokenIs : GoodIn wsX5_barOfWord wsX5_tokenIs := goodIn_r _ [8, 9, 10, 11, 12, 13, 14, 15, 16, 17, 18, 19, 20, 21, 22, 23, 24, 25, 26, 27, 28, 29, 30, 31, 32, 33, 34, 35, 36, 37, 38, 39, 40, 41, 42, 43, 44, 45, 46, 47, 48, 49, 50, 51, 52, 53, 54, 55, 56, 57, 58, 59, 60, 61, 62, 63, 64, 65, 66, 67, 68, 69, 70, 71, 72, 73] (by decide +kernel) (by decide +kernel)
set_option maxRecDepth 20000 in
theorem gX5_barOfWord_X5_tokenIs : GoodIn wsX5_barOfWord (wsV RX5 122 RX5 yX5_tokenIs wsX5_tokenIs) := goodIn_app (goodIn_of _ (by decide +kernel)) ggX5_barOfWord_X5_tokenIs
theorem dX5_barOfWord_0 : decode cX5_barOfWord 0 = .ok (.iconst 0, 1) := by decide +kernel
theorem dX5_barOfWord_1 : decode cX5_barOfWord 1 = .ok (.istore_n 1, 1) := by decide +kernel
theorem dX5_barOfWord_2 : decode cX5_barOfWord 2 = .ok (.iload_n 1, 1) := by decide +kernel
theorem dX5_barOfWord_3 : decode cX5_barOfWord 3 = .ok (.iconst 3, 1) := by decide +kernel
theorem dX5_barOfWord_4 : decode cX5_barOfWord 4 = .ok (.if_icmp .ge 22, 3) := by decide +kernel
theorem dX5_barOfWord_7 : decode cX5_barOfWord 7 = .ok (.aload_n 0, 1) := by decide +kernel
theorem dX5_barOfWord_8 : decode cX5_barOfWord 8 = .ok (.iload_n 1, 1) := by decide +kernel
theorem dX5_barOfWord_9 : decode cX5_barOfWord 9 = .ok (.invokestatic 129, 3) := by decide +kernel
theorem dX5_barOfWord_12 : decode cX5_barOfWord 12 = .ok (.invokevirtual 122, 3) := by decide +kernel
theorem dX5_barOfWord_15 : decode cX5_barOfWord 15 = .ok (.ifCond .eq 5, 3) := by decide +kernel
theorem dX5_barOfWord_18 : decode cX5_barOfWord 18 = .ok (.iload_n 1, 1) := by decide +kernel
theorem dX5_barOfWord_19 : decode cX5_barOfWord 19 = .ok (.ireturn, 1) := by decide +kernel
theorem dX5_barOfWord_20 : decode cX5_barOfWord 20 = .ok (.iinc 1 1, 3) := by decide +kernel
theorem dX5_barOfWord_23 : decode cX5_barOfWord 23 = .ok (.goto (-21), 3) := by decide +kernel
theorem dX5_barOfWord_26 : decode cX5_barOfWord 26 = .ok (.iconst (-1), 1) := by decide +kernel
theorem dX5_barOfWord_27 : decode cX5_barOfWord 27 = .ok (.ireturn, 1) := by decide +kernel
set_option maxRecDepth 20000 in
theorem ggX5_tokenIs_J0_length_8abf5 : GoodIn wsX5_tokenIs wsJ0_length_8abf5 := goodIn_r _ [9, 10, 11, 12, 13, 8, 14, 15, 16] (by decide +kernel) (by decide +kernel)
set_option maxRecDepth 20000 in
theorem gX5_tokenIs_J0_length_8abf5 : GoodIn wsX5_tokenIs (wsV RX5 132 RJ0 yJ0_length_8abf5 wsJ0_length_8abf5) := goodIn_app (goodIn_of _ (by decide +kernel)) ggX5_tokenIs_J0_length_8abf5
set_option maxRecDepth 20000 in
theorem ggX5_tokenIs_J0_charAt_5068e : GoodIn wsX5_tokenIs wsJ0_charAt_5068e := goodIn_r _ [20, 10, 21, 22, 23, 8, 24, 15, 16, 25, 26, 27, 28, 29, 30, 31, 32, 33, 34, 35, 36, 37, 38, 39, 40, 41, 42, 43, 44, 45, 46, 47, 48, 49, 50, 51, 52, 53] (by decide +kernel) (by decide +kernel)
set_option maxRecDepth 20000 in
theorem gX5_tokenIs_J0_charAt_5068e : GoodIn wsX5_tokenIs (wsV RX5 136 RJ0 yJ0_charAt_5068e wsJ0_charAt_5068e) := goodIn_app (goodIn_of _ (by decide +kernel)) ggX5_tokenIs_J0_charAt_5068e
theorem dX5_tokenIs_0 : decode cX5_tokenIs 0 = .ok (.aload_n 0, 1) := by decide +kernel
theorem dX5_tokenIs_1 : decode cX5_tokenIs 1 = .ok (.getfield 38, 3) := by decide +kernel
theorem dX5_tokenIs_4 : decode cX5_tokenIs 4 = .ok (.iconst 1, 1) := by decide +kernel
theorem dX5_tokenIs_5 : decode cX5_tokenIs 5 = .ok (.if_icmp .ne 19, 3) := by decide +kernel
theorem dX5_tokenIs_8 : decode cX5_tokenIs 8 = .ok (.aload_n 0, 1) := by decide +kernel
theorem dX5_tokenIs_9 : decode cX5_tokenIs 9 = .ok (.getfield 35, 3) := by decide +kernel
theorem dX5_tokenIs_12 : decode cX5_tokenIs 12 = .ok (.aload_n 0, 1) := by decide +kernel
theorem dX5_tokenIs_13 : decode cX5_tokenIs 13 = .ok (.getfield 56, 3) := by decide +kernel
theorem dX5_tokenIs_16 : decode cX5_tokenIs 16 = .ok (.isub, 1) := by decide +kernel
theorem dX5_tokenIs_17 : decode cX5_tokenIs 17 = .ok (.aload_n 1, 1) := by decide +kernel
theorem dX5_tokenIs_18 : decode cX5_tokenIs 18 = .ok (.invokevirtual 132, 3) := by decide +kernel
theorem dX5_tokenIs_21 : decode cX5_tokenIs 21 = .ok (.if_icmp .eq 5, 3) := by decide +kernel
theorem dX5_tokenIs_24 : decode cX5_tokenIs 24 = .ok (.iconst 0, 1) := by decide +kernel
theorem dX5_tokenIs_25 : decode cX5_tokenIs 25 = .ok (.ireturn, 1) := by decide +kernel
theorem dX5_tokenIs_26 : decode cX5_tokenIs 26 = .ok (.iconst 0, 1) := by decide +kernel
theorem dX5_tokenIs_27 : decode cX5_tokenIs 27 = .ok (.istore_n 2, 1) := by decide +kernel
theorem dX5_tokenIs_28 : decode cX5_tokenIs 28 = .ok (.iload_n 2, 1) := by decide +kernel
theorem dX5_tokenIs_29 : decode cX5_tokenIs 29 = .ok (.aload_n 1, 1) := by decide +kernel
theorem dX5_tokenIs_30 : decode cX5_tokenIs 30 = .ok (.invokevirtual 132, 3) := by decide +kernel
theorem dX5_tokenIs_33 : decode cX5_tokenIs 33 = .ok (.if_icmp .ge 30, 3) := by decide +kernel
theorem dX5_tokenIs_36 : decode cX5_tokenIs 36 = .ok (.aload_n 0, 1) := by decide +kernel
theorem dX5_tokenIs_37 : decode cX5_tokenIs 37 = .ok (.getfield 9, 3) := by decide +kernel
theorem dX5_tokenIs_40 : decode cX5_tokenIs 40 = .ok (.aload_n 0, 1) := by decide +kernel
theorem dX5_tokenIs_41 : decode cX5_tokenIs 41 = .ok (.getfield 56, 3) := by decide +kernel
theorem dX5_tokenIs_44 : decode cX5_tokenIs 44 = .ok (.iload_n 2, 1) := by decide +kernel
theorem dX5_tokenIs_45 : decode cX5_tokenIs 45 = .ok (.iadd, 1) := by decide +kernel
theorem dX5_tokenIs_46 : decode cX5_tokenIs 46 = .ok (.baload, 1) := by decide +kernel
theorem dX5_tokenIs_47 : decode cX5_tokenIs 47 = .ok (.aload_n 1, 1) := by decide +kernel
theorem dX5_tokenIs_48 : decode cX5_tokenIs 48 = .ok (.iload_n 2, 1) := by decide +kernel
theorem dX5_tokenIs_49 : decode cX5_tokenIs 49 = .ok (.invokevirtual 136, 3) := by decide +kernel
theorem dX5_tokenIs_52 : decode cX5_tokenIs 52 = .ok (.if_icmp .eq 5, 3) := by decide +kernel
theorem dX5_tokenIs_55 : decode cX5_tokenIs 55 = .ok (.iconst 0, 1) := by decide +kernel
theorem dX5_tokenIs_56 : decode cX5_tokenIs 56 = .ok (.ireturn, 1) := by decide +kernel
theorem dX5_tokenIs_57 : decode cX5_tokenIs 57 = .ok (.iinc 2 1, 3) := by decide +kernel
theorem dX5_tokenIs_60 : decode cX5_tokenIs 60 = .ok (.goto (-32), 3) := by decide +kernel
theorem dX5_tokenIs_63 : decode cX5_tokenIs 63 = .ok (.iconst 1, 1) := by decide +kernel
theorem dX5_tokenIs_64 : decode cX5_tokenIs 64 = .ok (.ireturn, 1) := by decide +kernel
theorem dX5_ruleWord_0 : decode cX5_ruleWord 0 = .ok (.iload_n 0, 1) := by decide +kernel
theorem dX5_ruleWord_1 : decode cX5_ruleWord 1 = .ok (.tableswitch 85 0 9 #[55, 58, 61, 64, 67, 70, 73, 76, 79, 82], 55) := by decide +kernel
theorem dX5_ruleWord_56 : decode cX5_ruleWord 56 = .ok (.ldc 140, 2) := by decide +kernel
theorem dX5_ruleWord_58 : decode cX5_ruleWord 58 = .ok (.areturn, 1) := by decide +kernel
theorem dX5_ruleWord_59 : decode cX5_ruleWord 59 = .ok (.ldc 142, 2) := by decide +kernel
theorem dX5_ruleWord_61 : decode cX5_ruleWord 61 = .ok (.areturn, 1) := by decide +kernel
theorem dX5_ruleWord_62 : decode cX5_ruleWord 62 = .ok (.ldc 144, 2) := by decide +kernel
theorem dX5_ruleWord_64 : decode cX5_ruleWord 64 = .ok (.areturn, 1) := by decide +kernel
theorem dX5_ruleWord_65 : decode cX5_ruleWord 65 = .ok (.ldc 146, 2) := by decide +kernel
theorem dX5_ruleWord_67 : decode cX5_ruleWord 67 = .ok (.areturn, 1) := by decide +kernel
theorem dX5_ruleWord_68 : decode cX5_ruleWord 68 = .ok (.ldc 148, 2) := by decide +kernel
theorem dX5_ruleWord_70 : decode cX5_ruleWord 70 = .ok (.areturn, 1) := by decide +kernel
theorem dX5_ruleWord_71 : decode cX5_ruleWord 71 = .ok (.ldc 150, 2) := by decide +kernel
theorem dX5_ruleWord_73 : decode cX5_ruleWord 73 = .ok (.areturn, 1) := by decide +kernel
theorem dX5_ruleWord_74 : decode cX5_ruleWord 74 = .ok (.ldc 152, 2) := by decide +kernel
theorem dX5_ruleWord_76 : decode cX5_ruleWord 76 = .ok (.areturn, 1) := by decide +kernel
theorem dX5_ruleWord_77 : decode cX5_ruleWord 77 = .ok (.ldc 154, 2) := by decide +kernel
theorem dX5_ruleWord_79 : decode cX5_ruleWord 79 = .ok (.areturn, 1) := by decide +kernel
theorem dX5_ruleWord_80 : decode cX5_ruleWord 80 = .ok (.ldc 156, 2) := by decide +kernel
theorem dX5_ruleWord_82 : decode cX5_ruleWord 82 = .ok (.areturn, 1) := by decide +kernel
theorem dX5_ruleWord_83 : decode cX5_ruleWord 83 = .ok (.ldc 158, 2) := by decide +kernel
theorem dX5_ruleWord_85 : decode cX5_ruleWord 85 = .ok (.areturn, 1) := by decide +kernel
theorem dX5_ruleWord_86 : decode cX5_ruleWord 86 = .ok (.ldc 160, 2) := by decide +kernel
theorem dX5_ruleWord_88 : decode cX5_ruleWord 88 = .ok (.areturn, 1) := by decide +kernel
theorem dX5_orderWord_0 : decode cX5_orderWord 0 = .ok (.iload_n 0, 1) := by decide +kernel
theorem dX5_orderWord_1 : decode cX5_orderWord 1 = .ok (.ifCond .ne 6, 3) := by decide +kernel
theorem dX5_orderWord_4 : decode cX5_orderWord 4 = .ok (.ldc 162, 2) := by decide +kernel
theorem dX5_orderWord_6 : decode cX5_orderWord 6 = .ok (.areturn, 1) := by decide +kernel
theorem dX5_orderWord_7 : decode cX5_orderWord 7 = .ok (.iload_n 0, 1) := by decide +kernel
theorem dX5_orderWord_8 : decode cX5_orderWord 8 = .ok (.iconst 1, 1) := by decide +kernel
theorem dX5_orderWord_9 : decode cX5_orderWord 9 = .ok (.if_icmp .ne 8, 3) := by decide +kernel
theorem dX5_orderWord_12 : decode cX5_orderWord 12 = .ok (.ldc 164, 2) := by decide +kernel
theorem dX5_orderWord_14 : decode cX5_orderWord 14 = .ok (.goto 5, 3) := by decide +kernel
theorem dX5_orderWord_17 : decode cX5_orderWord 17 = .ok (.ldc 166, 2) := by decide +kernel
theorem dX5_orderWord_19 : decode cX5_orderWord 19 = .ok (.areturn, 1) := by decide +kernel
theorem dX5_barWord_0 : decode cX5_barWord 0 = .ok (.iconst 1, 1) := by decide +kernel
theorem dX5_barWord_1 : decode cX5_barWord 1 = .ok (.iload_n 0, 1) := by decide +kernel
theorem dX5_barWord_2 : decode cX5_barWord 2 = .ok (.ishl, 1) := by decide +kernel
theorem dX5_barWord_3 : decode cX5_barWord 3 = .ok (.iconst 1, 1) := by decide +kernel
theorem dX5_barWord_4 : decode cX5_barWord 4 = .ok (.if_icmp .ne 6, 3) := by decide +kernel
theorem dX5_barWord_7 : decode cX5_barWord 7 = .ok (.ldc 168, 2) := by decide +kernel
theorem dX5_barWord_9 : decode cX5_barWord 9 = .ok (.areturn, 1) := by decide +kernel
theorem dX5_barWord_10 : decode cX5_barWord 10 = .ok (.iconst 1, 1) := by decide +kernel
theorem dX5_barWord_11 : decode cX5_barWord 11 = .ok (.iload_n 0, 1) := by decide +kernel
theorem dX5_barWord_12 : decode cX5_barWord 12 = .ok (.ishl, 1) := by decide +kernel
theorem dX5_barWord_13 : decode cX5_barWord 13 = .ok (.iconst 2, 1) := by decide +kernel
theorem dX5_barWord_14 : decode cX5_barWord 14 = .ok (.if_icmp .ne 8, 3) := by decide +kernel
theorem dX5_barWord_17 : decode cX5_barWord 17 = .ok (.ldc 170, 2) := by decide +kernel
theorem dX5_barWord_19 : decode cX5_barWord 19 = .ok (.goto 5, 3) := by decide +kernel
theorem dX5_barWord_22 : decode cX5_barWord 22 = .ok (.ldc 172, 2) := by decide +kernel
theorem dX5_barWord_24 : decode cX5_barWord 24 = .ok (.areturn, 1) := by decide +kernel
theorem dX6_init_0 : decode cX6_init 0 = .ok (.aload_n 0, 1) := by decide +kernel
theorem dX6_init_1 : decode cX6_init 1 = .ok (.invokespecial 3, 3) := by decide +kernel
theorem dX6_init_4 : decode cX6_init 4 = .ok (.aload_n 0, 1) := by decide +kernel
theorem dX6_init_5 : decode cX6_init 5 = .ok (.bipush 20, 2) := by decide +kernel
theorem dX6_init_7 : decode cX6_init 7 = .ok (.bipush 12, 2) := by decide +kernel
theorem dX6_init_9 : decode cX6_init 9 = .ok (.multianewarray 9 2, 4) := by decide +kernel
theorem dX6_init_13 : decode cX6_init 13 = .ok (.putfield 11, 3) := by decide +kernel
theorem dX6_init_16 : decode cX6_init 16 = .ok (.return_, 1) := by decide +kernel
theorem dX6_add_0 : decode cX6_add 0 = .ok (.aload_n 1, 1) := by decide +kernel
theorem dX6_add_1 : decode cX6_add 1 = .ok (.iconst 0, 1) := by decide +kernel
theorem dX6_add_2 : decode cX6_add 2 = .ok (.aload_n 0, 1) := by decide +kernel
theorem dX6_add_3 : decode cX6_add 3 = .ok (.getfield 11, 3) := by decide +kernel
theorem dX6_add_6 : decode cX6_add 6 = .ok (.aload_n 0, 1) := by decide +kernel
theorem dX6_add_7 : decode cX6_add 7 = .ok (.getfield 16, 3) := by decide +kernel
theorem dX6_add_10 : decode cX6_add 10 = .ok (.aaload, 1) := by decide +kernel
theorem dX6_add_11 : decode cX6_add 11 = .ok (.iconst 0, 1) := by decide +kernel
theorem dX6_add_12 : decode cX6_add 12 = .ok (.bipush 12, 2) := by decide +kernel
theorem dX6_add_14 : decode cX6_add 14 = .ok (.invokestatic 20, 3) := by decide +kernel
theorem dX6_add_17 : decode cX6_add 17 = .ok (.aload_n 0, 1) := by decide +kernel
theorem dX6_add_18 : decode cX6_add 18 = .ok (.getfield 11, 3) := by decide +kernel
theorem dX6_add_21 : decode cX6_add 21 = .ok (.aload_n 0, 1) := by decide +kernel
theorem dX6_add_22 : decode cX6_add 22 = .ok (.getfield 16, 3) := by decide +kernel
theorem dX6_add_25 : decode cX6_add 25 = .ok (.aaload, 1) := by decide +kernel
theorem dX6_add_26 : decode cX6_add 26 = .ok (.bipush 11, 2) := by decide +kernel
theorem dX6_add_28 : decode cX6_add 28 = .ok (.iload_n 2, 1) := by decide +kernel
theorem dX6_add_29 : decode cX6_add 29 = .ok (.iastore, 1) := by decide +kernel
theorem dX6_add_30 : decode cX6_add 30 = .ok (.aload_n 0, 1) := by decide +kernel
theorem dX6_add_31 : decode cX6_add 31 = .ok (.dup, 1) := by decide +kernel
theorem dX6_add_32 : decode cX6_add 32 = .ok (.getfield 16, 3) := by decide +kernel
theorem dX6_add_35 : decode cX6_add 35 = .ok (.iconst 1, 1) := by decide +kernel
theorem dX6_add_36 : decode cX6_add 36 = .ok (.iadd, 1) := by decide +kernel
theorem dX6_add_37 : decode cX6_add 37 = .ok (.putfield 16, 3) := by decide +kernel
theorem dX6_add_40 : decode cX6_add 40 = .ok (.aload_n 0, 1) := by decide +kernel
theorem dX6_add_41 : decode cX6_add 41 = .ok (.getfield 16, 3) := by decide +kernel
theorem dX6_add_44 : decode cX6_add 44 = .ok (.iconst 1, 1) := by decide +kernel
theorem dX6_add_45 : decode cX6_add 45 = .ok (.isub, 1) := by decide +kernel
theorem dX6_add_46 : decode cX6_add 46 = .ok (.ireturn, 1) := by decide +kernel
theorem dX6_canKnow_0 : decode cX6_canKnow 0 = .ok (.iload_n 1, 1) := by decide +kernel
theorem dX6_canKnow_1 : decode cX6_canKnow 1 = .ok (.ifCond .lt 15, 3) := by decide +kernel
theorem dX6_canKnow_4 : decode cX6_canKnow 4 = .ok (.iload_n 1, 1) := by decide +kernel
theorem dX6_canKnow_5 : decode cX6_canKnow 5 = .ok (.aload_n 0, 1) := by decide +kernel
theorem dX6_canKnow_6 : decode cX6_canKnow 6 = .ok (.getfield 16, 3) := by decide +kernel
theorem dX6_canKnow_9 : decode cX6_canKnow 9 = .ok (.if_icmp .gt 7, 3) := by decide +kernel
theorem dX6_canKnow_12 : decode cX6_canKnow 12 = .ok (.iconst 1, 1) := by decide +kernel
theorem dX6_canKnow_13 : decode cX6_canKnow 13 = .ok (.goto 4, 3) := by decide +kernel
theorem dX6_canKnow_16 : decode cX6_canKnow 16 = .ok (.iconst 0, 1) := by decide +kernel
theorem dX6_canKnow_17 : decode cX6_canKnow 17 = .ok (.ireturn, 1) := by decide +kernel
theorem dX6_numberInForce_0 : decode cX6_numberInForce 0 = .ok (.iconst (-1), 1) := by decide +kernel
theorem dX6_numberInForce_1 : decode cX6_numberInForce 1 = .ok (.istore_n 3, 1) := by decide +kernel
theorem dX6_numberInForce_2 : decode cX6_numberInForce 2 = .ok (.iconst (-1), 1) := by decide +kernel
theorem dX6_numberInForce_3 : decode cX6_numberInForce 3 = .ok (.istore 4, 2) := by decide +kernel
theorem dX6_numberInForce_5 : decode cX6_numberInForce 5 = .ok (.iconst 0, 1) := by decide +kernel
theorem dX6_numberInForce_6 : decode cX6_numberInForce 6 = .ok (.istore 5, 2) := by decide +kernel
theorem dX6_numberInForce_8 : decode cX6_numberInForce 8 = .ok (.iload 5, 2) := by decide +kernel
theorem dX6_numberInForce_10 : decode cX6_numberInForce 10 = .ok (.iload_n 2, 1) := by decide +kernel
theorem dX6_numberInForce_11 : decode cX6_numberInForce 11 = .ok (.if_icmp .ge 50, 3) := by decide +kernel
theorem dX6_numberInForce_14 : decode cX6_numberInForce 14 = .ok (.iload 5, 2) := by decide +kernel
theorem dX6_numberInForce_16 : decode cX6_numberInForce 16 = .ok (.aload_n 0, 1) := by decide +kernel
theorem dX6_numberInForce_17 : decode cX6_numberInForce 17 = .ok (.getfield 16, 3) := by decide +kernel
theorem dX6_numberInForce_20 : decode cX6_numberInForce 20 = .ok (.if_icmp .ge 41, 3) := by decide +kernel
theorem dX6_numberInForce_23 : decode cX6_numberInForce 23 = .ok (.aload_n 0, 1) := by decide +kernel
theorem dX6_numberInForce_24 : decode cX6_numberInForce 24 = .ok (.getfield 11, 3) := by decide +kernel
theorem dX6_numberInForce_27 : decode cX6_numberInForce 27 = .ok (.iload 5, 2) := by decide +kernel
theorem dX6_numberInForce_29 : decode cX6_numberInForce 29 = .ok (.aaload, 1) := by decide +kernel
theorem dX6_numberInForce_30 : decode cX6_numberInForce 30 = .ok (.bipush 11, 2) := by decide +kernel
theorem dX6_numberInForce_32 : decode cX6_numberInForce 32 = .ok (.iaload, 1) := by decide +kernel
theorem dX6_numberInForce_33 : decode cX6_numberInForce 33 = .ok (.istore 6, 2) := by decide +kernel
theorem dX6_numberInForce_35 : decode cX6_numberInForce 35 = .ok (.iload 6, 2) := by decide +kernel
theorem dX6_numberInForce_37 : decode cX6_numberInForce 37 = .ok (.iload_n 1, 1) := by decide +kernel
theorem dX6_numberInForce_38 : decode cX6_numberInForce 38 = .ok (.if_icmp .gt 17, 3) := by decide +kernel
theorem dX6_numberInForce_41 : decode cX6_numberInForce 41 = .ok (.iload 6, 2) := by decide +kernel
theorem dX6_numberInForce_43 : decode cX6_numberInForce 43 = .ok (.iload 4, 2) := by decide +kernel
theorem dX6_numberInForce_45 : decode cX6_numberInForce 45 = .ok (.if_icmp .lt 10, 3) := by decide +kernel
theorem dX6_numberInForce_48 : decode cX6_numberInForce 48 = .ok (.iload 5, 2) := by decide +kernel
theorem dX6_numberInForce_50 : decode cX6_numberInForce 50 = .ok (.istore_n 3, 1) := by decide +kernel
theorem dX6_numberInForce_51 : decode cX6_numberInForce 51 = .ok (.iload 6, 2) := by decide +kernel
theorem dX6_numberInForce_53 : decode cX6_numberInForce 53 = .ok (.istore 4, 2) := by decide +kernel
theorem dX6_numberInForce_55 : decode cX6_numberInForce 55 = .ok (.iinc 5 1, 3) := by decide +kernel
theorem dX6_numberInForce_58 : decode cX6_numberInForce 58 = .ok (.goto (-50), 3) := by decide +kernel
theorem dX6_numberInForce_61 : decode cX6_numberInForce 61 = .ok (.iload_n 3, 1) := by decide +kernel
theorem dX6_numberInForce_62 : decode cX6_numberInForce 62 = .ok (.ireturn, 1) := by decide +kernel
theorem dX6_text_0 : decode cX6_text 0 = .ok (.iload_n 1, 1) := by decide +kernel
theorem dX6_text_1 : decode cX6_text 1 = .ok (.ifCond .lt 20, 3) := by decide +kernel
theorem dX6_text_4 : decode cX6_text 4 = .ok (.iload_n 1, 1) := by decide +kernel
theorem dX6_text_5 : decode cX6_text 5 = .ok (.aload_n 0, 1) := by decide +kernel
theorem dX6_text_6 : decode cX6_text 6 = .ok (.getfield 16, 3) := by decide +kernel
theorem dX6_text_9 : decode cX6_text 9 = .ok (.if_icmp .ge 12, 3) := by decide +kernel
theorem dX6_text_12 : decode cX6_text 12 = .ok (.aload_n 0, 1) := by decide +kernel
theorem dX6_text_13 : decode cX6_text 13 = .ok (.getfield 11, 3) := by decide +kernel
theorem dX6_text_16 : decode cX6_text 16 = .ok (.iload_n 1, 1) := by decide +kernel
theorem dX6_text_17 : decode cX6_text 17 = .ok (.aaload, 1) := by decide +kernel
theorem dX6_text_18 : decode cX6_text 18 = .ok (.goto 6, 3) := by decide +kernel
theorem dX6_text_21 : decode cX6_text 21 = .ok (.getstatic 26, 3) := by decide +kernel
theorem dX6_text_24 : decode cX6_text 24 = .ok (.areturn, 1) := by decide +kernel
set_option maxRecDepth 20000 in
theorem ggX6_textKnown_X6_numberInForce : GoodIn wsX6_textKnown wsX6_numberInForce := goodIn_r _ [5, 6, 7, 12, 13] (by decide +kernel) (by decide +kernel)
set_option maxRecDepth 20000 in
theorem gX6_textKnown_X6_numberInForce : GoodIn wsX6_textKnown (wsV RX6 30 RX6 yX6_numberInForce wsX6_numberInForce) := goodIn_app (goodIn_of _ (by decide +kernel)) ggX6_textKnown_X6_numberInForce
set_option maxRecDepth 20000 in
theorem ggX6_textKnown_X6_text : GoodIn wsX6_textKnown wsX6_text := goodIn_r _ [11, 6, 7, 12, 13] (by decide +kernel) (by decide +kernel)
set_option maxRecDepth 20000 in
theorem gX6_textKnown_X6_text : GoodIn wsX6_textKnown (wsV RX6 34 RX6 yX6_text wsX6_text) := goodIn_app (goodIn_of _ (by decide +kernel)) ggX6_textKnown_X6_text
theorem dX6_textKnown_0 : decode cX6_textKnown 0 = .ok (.aload_n 0, 1) := by decide +kernel
theorem dX6_textKnown_1 : decode cX6_textKnown 1 = .ok (.aload_n 0, 1) := by decide +kernel
theorem dX6_textKnown_2 : decode cX6_textKnown 2 = .ok (.iload_n 1, 1) := by decide +kernel
theorem dX6_textKnown_3 : decode cX6_textKnown 3 = .ok (.iload_n 2, 1) := by decide +kernel
theorem dX6_textKnown_4 : decode cX6_textKnown 4 = .ok (.invokevirtual 30, 3) := by decide +kernel
theorem dX6_textKnown_7 : decode cX6_textKnown 7 = .ok (.invokevirtual 34, 3) := by decide +kernel
theorem dX6_textKnown_10 : decode cX6_textKnown 10 = .ok (.areturn, 1) := by decide +kernel
set_option maxRecDepth 20000 in
theorem ggX6_textNow_X6_numberInForce : GoodIn wsX6_textNow wsX6_numberInForce := goodIn_r _ [6, 1, 7, 12, 13] (by decide +kernel) (by decide +kernel)
set_option maxRecDepth 20000 in
theorem gX6_textNow_X6_numberInForce : GoodIn wsX6_textNow (wsV RX6 30 RX6 yX6_numberInForce wsX6_numberInForce) := goodIn_app (goodIn_of _ (by decide +kernel)) ggX6_textNow_X6_numberInForce
set_option maxRecDepth 20000 in
theorem ggX6_textNow_X6_text : GoodIn wsX6_textNow wsX6_text := goodIn_r _ [11, 1, 7, 12, 13] (by decide +kernel) (by decide +kernel)
set_option maxRecDepth 20000 in
theorem gX6_textNow_X6_text : GoodIn wsX6_textNow (wsV RX6 34 RX6 yX6_text wsX6_text) := goodIn_app (goodIn_of _ (by decide +kernel)) ggX6_textNow_X6_text
theorem dX6_textNow_0 : decode cX6_textNow 0 = .ok (.aload_n 0, 1) := by decide +kernel
theorem dX6_textNow_1 : decode cX6_textNow 1 = .ok (.aload_n 0, 1) := by decide +kernel
theorem dX6_textNow_2 : decode cX6_textNow 2 = .ok (.iload_n 1, 1) := by decide +kernel
theorem dX6_textNow_3 : decode cX6_textNow 3 = .ok (.aload_n 0, 1) := by decide +kernel
theorem dX6_textNow_4 : decode cX6_textNow 4 = .ok (.getfield 16, 3) := by decide +kernel
theorem dX6_textNow_7 : decode cX6_textNow 7 = .ok (.invokevirtual 30, 3) := by decide +kernel
theorem dX6_textNow_10 : decode cX6_textNow 10 = .ok (.invokevirtual 34, 3) := by decide +kernel
theorem dX6_textNow_13 : decode cX6_textNow 13 = .ok (.areturn, 1) := by decide +kernel
set_option maxRecDepth 20000 in
theorem ggX7_init_X5_init : GoodIn wsX7_init wsX5_init := goodIn_r _ [29, 30, 2, 3, 31, 32, 33, 34, 35, 81, 82, 83, 84, 85, 86, 87, 88, 89, 90, 91, 92] (by decide +kernel) (by decide +kernel)
set_option maxRecDepth 20000 in
theorem gX7_init_X5_init_n9 : GoodIn wsX7_init (wsX5_init) := ggX7_init_X5_init
set_option maxRecDepth 20000 in
theorem ggX7_init_X6_init : GoodIn wsX7_init wsX6_init := goodIn_r _ [37, 38, 2, 3, 39, 33, 40, 99, 100] (by decide +kernel) (by decide +kernel)
set_option maxRecDepth 20000 in
theorem gX7_init_X6_init_n18 : GoodIn wsX7_init (wsX6_init) := ggX7_init_X6_init
set_option maxRecDepth 20000 in
theorem ggX7_init_X3_init : GoodIn wsX7_init wsX3_init := goodIn_r _ [42, 43, 2, 3, 33, 44, 45, 46, 47, 48, 49, 50, 51, 52, 53, 54, 101, 102, 103, 104, 105, 106, 107, 108] (by decide +kernel) (by decide +kernel)
set_option maxRecDepth 20000 in
theorem gX7_init_X3_init_n25 : GoodIn wsX7_init (wsX3_init) := ggX7_init_X3_init
set_option maxRecDepth 20000 in
theorem ggX7_init_X2_init : GoodIn wsX7_init wsX2_init := goodIn_r _ [56, 57, 2, 3, 33, 58, 59, 60, 61, 62, 63, 109, 110, 111, 112, 113, 114] (by decide +kernel) (by decide +kernel)
set_option maxRecDepth 20000 in
theorem gX7_init_X2_init_n32 : GoodIn wsX7_init (wsX2_init) := ggX7_init_X2_init
set_option maxRecDepth 20000 in
theorem ggX7_init_X4_init : GoodIn wsX7_init wsX4_init := goodIn_r _ [65, 66, 2, 3, 67, 68, 69, 70, 115, 116, 117] (by decide +kernel) (by decide +kernel)
set_option maxRecDepth 20000 in
theorem gX7_init_X4_init_n41 : GoodIn wsX7_init (wsX4_init) := ggX7_init_X4_init
set_option maxRecDepth 20000 in
theorem ggX7_init_X1_init : GoodIn wsX7_init wsX1_init := goodIn_r _ [72, 73, 2, 3, 74, 75, 33, 76, 77, 78, 79, 80, 118, 119, 120, 121, 122, 123, 124] (by decide +kernel) (by decide +kernel)
set_option maxRecDepth 20000 in
theorem gX7_init_X1_init_n50 : GoodIn wsX7_init (wsX1_init) := ggX7_init_X1_init
theorem dX7_init_0 : decode cX7_init 0 = .ok (.aload_n 0, 1) := by decide +kernel
theorem dX7_init_1 : decode cX7_init 1 = .ok (.invokespecial 1, 3) := by decide +kernel
theorem dX7_init_4 : decode cX7_init 4 = .ok (.aload_n 0, 1) := by decide +kernel
theorem dX7_init_5 : decode cX7_init 5 = .ok (.new 7, 3) := by decide +kernel
theorem dX7_init_8 : decode cX7_init 8 = .ok (.dup, 1) := by decide +kernel
theorem dX7_init_9 : decode cX7_init 9 = .ok (.invokespecial 9, 3) := by decide +kernel
theorem dX7_init_12 : decode cX7_init 12 = .ok (.putfield 10, 3) := by decide +kernel
theorem dX7_init_15 : decode cX7_init 15 = .ok (.aload_n 0, 1) := by decide +kernel
theorem dX7_init_16 : decode cX7_init 16 = .ok (.new 16, 3) := by decide +kernel
theorem dX7_init_19 : decode cX7_init 19 = .ok (.dup, 1) := by decide +kernel
theorem dX7_init_20 : decode cX7_init 20 = .ok (.invokespecial 18, 3) := by decide +kernel
theorem dX7_init_23 : decode cX7_init 23 = .ok (.putfield 19, 3) := by decide +kernel
theorem dX7_init_26 : decode cX7_init 26 = .ok (.aload_n 0, 1) := by decide +kernel
theorem dX7_init_27 : decode cX7_init 27 = .ok (.new 23, 3) := by decide +kernel
theorem dX7_init_30 : decode cX7_init 30 = .ok (.dup, 1) := by decide +kernel
theorem dX7_init_31 : decode cX7_init 31 = .ok (.invokespecial 25, 3) := by decide +kernel
theorem dX7_init_34 : decode cX7_init 34 = .ok (.putfield 26, 3) := by decide +kernel
theorem dX7_init_37 : decode cX7_init 37 = .ok (.aload_n 0, 1) := by decide +kernel
theorem dX7_init_38 : decode cX7_init 38 = .ok (.new 30, 3) := by decide +kernel
theorem dX7_init_41 : decode cX7_init 41 = .ok (.dup, 1) := by decide +kernel
theorem dX7_init_42 : decode cX7_init 42 = .ok (.aload_n 0, 1) := by decide +kernel
theorem dX7_init_43 : decode cX7_init 43 = .ok (.getfield 26, 3) := by decide +kernel
theorem dX7_init_46 : decode cX7_init 46 = .ok (.aload_n 0, 1) := by decide +kernel
theorem dX7_init_47 : decode cX7_init 47 = .ok (.getfield 19, 3) := by decide +kernel
theorem dX7_init_50 : decode cX7_init 50 = .ok (.invokespecial 32, 3) := by decide +kernel
theorem dX7_init_53 : decode cX7_init 53 = .ok (.putfield 35, 3) := by decide +kernel
theorem dX7_init_56 : decode cX7_init 56 = .ok (.aload_n 0, 1) := by decide +kernel
theorem dX7_init_57 : decode cX7_init 57 = .ok (.new 39, 3) := by decide +kernel
theorem dX7_init_60 : decode cX7_init 60 = .ok (.dup, 1) := by decide +kernel
theorem dX7_init_61 : decode cX7_init 61 = .ok (.aload_n 0, 1) := by decide +kernel
theorem dX7_init_62 : decode cX7_init 62 = .ok (.getfield 26, 3) := by decide +kernel
theorem dX7_init_65 : decode cX7_init 65 = .ok (.aload_n 0, 1) := by decide +kernel
theorem dX7_init_66 : decode cX7_init 66 = .ok (.getfield 35, 3) := by decide +kernel
theorem dX7_init_69 : decode cX7_init 69 = .ok (.invokespecial 41, 3) := by decide +kernel
theorem dX7_init_72 : decode cX7_init 72 = .ok (.putfield 44, 3) := by decide +kernel
theorem dX7_init_75 : decode cX7_init 75 = .ok (.aload_n 0, 1) := by decide +kernel
theorem dX7_init_76 : decode cX7_init 76 = .ok (.new 48, 3) := by decide +kernel
theorem dX7_init_79 : decode cX7_init 79 = .ok (.dup, 1) := by decide +kernel
theorem dX7_init_80 : decode cX7_init 80 = .ok (.aload_n 0, 1) := by decide +kernel
theorem dX7_init_81 : decode cX7_init 81 = .ok (.getfield 26, 3) := by decide +kernel
theorem dX7_init_84 : decode cX7_init 84 = .ok (.aload_n 0, 1) := by decide +kernel
theorem dX7_init_85 : decode cX7_init 85 = .ok (.getfield 19, 3) := by decide +kernel
theorem dX7_init_88 : decode cX7_init 88 = .ok (.aload_n 0, 1) := by decide +kernel
theorem dX7_init_89 : decode cX7_init 89 = .ok (.getfield 35, 3) := by decide +kernel
theorem dX7_init_92 : decode cX7_init 92 = .ok (.invokespecial 50, 3) := by decide +kernel
theorem dX7_init_95 : decode cX7_init 95 = .ok (.putfield 53, 3) := by decide +kernel
theorem dX7_init_98 : decode cX7_init 98 = .ok (.return_, 1) := by decide +kernel
set_option maxRecDepth 20000 in
theorem ggX7_feed_X5_append : GoodIn wsX7_feed wsX5_append := goodIn_r _ [5, 6, 7, 14, 15, 16, 17, 18, 19, 20, 21, 22, 23, 24, 25] (by decide +kernel) (by decide +kernel)
set_option maxRecDepth 20000 in
theorem gX7_feed_X5_append_n61 : GoodIn wsX7_feed (wsX5_append) := ggX7_feed_X5_append
theorem dX7_feed_0 : decode cX7_feed 0 = .ok (.aload_n 0, 1) := by decide +kernel
theorem dX7_feed_1 : decode cX7_feed 1 = .ok (.getfield 10, 3) := by decide +kernel
theorem dX7_feed_4 : decode cX7_feed 4 = .ok (.getfield 57, 3) := by decide +kernel
theorem dX7_feed_7 : decode cX7_feed 7 = .ok (.bipush 20, 2) := by decide +kernel
theorem dX7_feed_9 : decode cX7_feed 9 = .ok (.iadd, 1) := by decide +kernel
theorem dX7_feed_10 : decode cX7_feed 10 = .ok (.sipush 1000, 3) := by decide +kernel
theorem dX7_feed_13 : decode cX7_feed 13 = .ok (.if_icmp .le 6, 3) := by decide +kernel
theorem dX7_feed_16 : decode cX7_feed 16 = .ok (.bipush (-3), 2) := by decide +kernel
theorem dX7_feed_18 : decode cX7_feed 18 = .ok (.ireturn, 1) := by decide +kernel
theorem dX7_feed_19 : decode cX7_feed 19 = .ok (.aload_n 0, 1) := by decide +kernel
theorem dX7_feed_20 : decode cX7_feed 20 = .ok (.getfield 10, 3) := by decide +kernel
theorem dX7_feed_23 : decode cX7_feed 23 = .ok (.iload_n 1, 1) := by decide +kernel
theorem dX7_feed_24 : decode cX7_feed 24 = .ok (.invokevirtual 61, 3) := by decide +kernel
theorem dX7_feed_27 : decode cX7_feed 27 = .ok (.aload_n 0, 1) := by decide +kernel
theorem dX7_feed_28 : decode cX7_feed 28 = .ok (.getfield 10, 3) := by decide +kernel
theorem dX7_feed_31 : decode cX7_feed 31 = .ok (.iload_n 2, 1) := by decide +kernel
theorem dX7_feed_32 : decode cX7_feed 32 = .ok (.invokevirtual 61, 3) := by decide +kernel
theorem dX7_feed_35 : decode cX7_feed 35 = .ok (.aload_n 0, 1) := by decide +kernel
theorem dX7_feed_36 : decode cX7_feed 36 = .ok (.getfield 10, 3) := by decide +kernel
theorem dX7_feed_39 : decode cX7_feed 39 = .ok (.iload_n 3, 1) := by decide +kernel
theorem dX7_feed_40 : decode cX7_feed 40 = .ok (.invokevirtual 61, 3) := by decide +kernel
theorem dX7_feed_43 : decode cX7_feed 43 = .ok (.aload_n 0, 1) := by decide +kernel
theorem dX7_feed_44 : decode cX7_feed 44 = .ok (.getfield 10, 3) := by decide +kernel
theorem dX7_feed_47 : decode cX7_feed 47 = .ok (.iload 4, 2) := by decide +kernel
theorem dX7_feed_49 : decode cX7_feed 49 = .ok (.invokevirtual 61, 3) := by decide +kernel
theorem dX7_feed_52 : decode cX7_feed 52 = .ok (.aload_n 0, 1) := by decide +kernel
theorem dX7_feed_53 : decode cX7_feed 53 = .ok (.getfield 10, 3) := by decide +kernel
theorem dX7_feed_56 : decode cX7_feed 56 = .ok (.iload 5, 2) := by decide +kernel
theorem dX7_feed_58 : decode cX7_feed 58 = .ok (.invokevirtual 61, 3) := by decide +kernel
theorem dX7_feed_61 : decode cX7_feed 61 = .ok (.aload_n 0, 1) := by decide +kernel
theorem dX7_feed_62 : decode cX7_feed 62 = .ok (.getfield 10, 3) := by decide +kernel
theorem dX7_feed_65 : decode cX7_feed 65 = .ok (.getfield 57, 3) := by decide +kernel
theorem dX7_feed_68 : decode cX7_feed 68 = .ok (.ireturn, 1) := by decide +kernel
theorem dX7_end_0 : decode cX7_end 0 = .ok (.iload_n 1, 1) := by decide +kernel
theorem dX7_end_1 : decode cX7_end 1 = .ok (.ifCond .lt 14, 3) := by decide +kernel
theorem dX7_end_4 : decode cX7_end 4 = .ok (.iload_n 1, 1) := by decide +kernel
theorem dX7_end_5 : decode cX7_end 5 = .ok (.aload_n 0, 1) := by decide +kernel
theorem dX7_end_6 : decode cX7_end 6 = .ok (.getfield 10, 3) := by decide +kernel
theorem dX7_end_9 : decode cX7_end 9 = .ok (.getfield 57, 3) := by decide +kernel
theorem dX7_end_12 : decode cX7_end 12 = .ok (.if_icmp .le 5, 3) := by decide +kernel
theorem dX7_end_15 : decode cX7_end 15 = .ok (.iconst (-1), 1) := by decide +kernel
theorem dX7_end_16 : decode cX7_end 16 = .ok (.ireturn, 1) := by decide +kernel
theorem dX7_end_17 : decode cX7_end 17 = .ok (.aload_n 0, 1) := by decide +kernel
theorem dX7_end_18 : decode cX7_end 18 = .ok (.getfield 10, 3) := by decide +kernel
theorem dX7_end_21 : decode cX7_end 21 = .ok (.iload_n 1, 1) := by decide +kernel
theorem dX7_end_22 : decode cX7_end 22 = .ok (.putfield 57, 3) := by decide +kernel
theorem dX7_end_25 : decode cX7_end 25 = .ok (.iload_n 1, 1) := by decide +kernel
theorem dX7_end_26 : decode cX7_end 26 = .ok (.ireturn, 1) := by decide +kernel
set_option maxRecDepth 20000 in
theorem ggX7_enter_X7_isBelow : GoodIn wsX7_enter wsX7_isBelow := goodIn_r _ [5] (by decide +kernel) (by decide +kernel)
set_option maxRecDepth 20000 in
theorem gX7_enter_X7_isBelow : GoodIn wsX7_enter (va_wsS RX7 65 yX7_isBelow wsX7_isBelow) := goodIn_app (goodIn_of _ (by decide +kernel)) ggX7_enter_X7_isBelow
set_option maxRecDepth 20000 in
theorem ggX7_enter_X3_add : GoodIn wsX7_enter wsX3_add := goodIn_r _ [9, 10, 11, 12, 13, 20, 21, 22, 23, 24, 25, 26, 27] (by decide +kernel) (by decide +kernel)
set_option maxRecDepth 20000 in
theorem gX7_enter_X3_add_n72 : GoodIn wsX7_enter (wsX3_add) := ggX7_enter_X3_add
theorem dX7_enter_0 : decode cX7_enter 0 = .ok (.iload_n 1, 1) := by decide +kernel
theorem dX7_enter_1 : decode cX7_enter 1 = .ok (.bipush 10, 2) := by decide +kernel
theorem dX7_enter_3 : decode cX7_enter 3 = .ok (.invokestatic 65, 3) := by decide +kernel
theorem dX7_enter_6 : decode cX7_enter 6 = .ok (.ifCond .eq 22, 3) := by decide +kernel
theorem dX7_enter_9 : decode cX7_enter 9 = .ok (.iload_n 2, 1) := by decide +kernel
theorem dX7_enter_10 : decode cX7_enter 10 = .ok (.bipush 64, 2) := by decide +kernel
theorem dX7_enter_12 : decode cX7_enter 12 = .ok (.invokestatic 65, 3) := by decide +kernel
theorem dX7_enter_15 : decode cX7_enter 15 = .ok (.ifCond .eq 13, 3) := by decide +kernel
theorem dX7_enter_18 : decode cX7_enter 18 = .ok (.iload_n 3, 1) := by decide +kernel
theorem dX7_enter_19 : decode cX7_enter 19 = .ok (.sipush 256, 3) := by decide +kernel
theorem dX7_enter_22 : decode cX7_enter 22 = .ok (.invokestatic 65, 3) := by decide +kernel
theorem dX7_enter_25 : decode cX7_enter 25 = .ok (.ifCond .ne 6, 3) := by decide +kernel
theorem dX7_enter_28 : decode cX7_enter 28 = .ok (.bipush (-2), 2) := by decide +kernel
theorem dX7_enter_30 : decode cX7_enter 30 = .ok (.ireturn, 1) := by decide +kernel
theorem dX7_enter_31 : decode cX7_enter 31 = .ok (.aload_n 0, 1) := by decide +kernel
theorem dX7_enter_32 : decode cX7_enter 32 = .ok (.getfield 26, 3) := by decide +kernel
theorem dX7_enter_35 : decode cX7_enter 35 = .ok (.getfield 69, 3) := by decide +kernel
theorem dX7_enter_38 : decode cX7_enter 38 = .ok (.bipush 24, 2) := by decide +kernel
theorem dX7_enter_40 : decode cX7_enter 40 = .ok (.if_icmp .lt 6, 3) := by decide +kernel
theorem dX7_enter_43 : decode cX7_enter 43 = .ok (.bipush (-3), 2) := by decide +kernel
theorem dX7_enter_45 : decode cX7_enter 45 = .ok (.ireturn, 1) := by decide +kernel
theorem dX7_enter_46 : decode cX7_enter 46 = .ok (.aload_n 0, 1) := by decide +kernel
theorem dX7_enter_47 : decode cX7_enter 47 = .ok (.getfield 26, 3) := by decide +kernel
theorem dX7_enter_50 : decode cX7_enter 50 = .ok (.iload_n 1, 1) := by decide +kernel
theorem dX7_enter_51 : decode cX7_enter 51 = .ok (.iload_n 2, 1) := by decide +kernel
theorem dX7_enter_52 : decode cX7_enter 52 = .ok (.iload_n 3, 1) := by decide +kernel
theorem dX7_enter_53 : decode cX7_enter 53 = .ok (.invokevirtual 72, 3) := by decide +kernel
theorem dX7_enter_56 : decode cX7_enter 56 = .ok (.ireturn, 1) := by decide +kernel
set_option maxRecDepth 20000 in
theorem ggX7_away_X3_has : GoodIn wsX7_away wsX3_has := goodIn_r _ [5, 6, 7, 8, 9, 26, 27, 28, 29, 30, 31, 32, 33] (by decide +kernel) (by decide +kernel)
set_option maxRecDepth 20000 in
theorem gX7_away_X3_has_n76 : GoodIn wsX7_away (wsX3_has) := ggX7_away_X3_has
set_option maxRecDepth 20000 in
theorem ggX7_away_X7_isBelow : GoodIn wsX7_away wsX7_isBelow := goodIn_r _ [9] (by decide +kernel) (by decide +kernel)
set_option maxRecDepth 20000 in
theorem gX7_away_X7_isBelow : GoodIn wsX7_away (va_wsS RX7 65 yX7_isBelow wsX7_isBelow) := goodIn_app (goodIn_of _ (by decide +kernel)) ggX7_away_X7_isBelow
set_option maxRecDepth 20000 in
theorem ggX7_away_X3_isAway : GoodIn wsX7_away wsX3_isAway := goodIn_r _ [13, 14, 15, 8, 16, 26, 27, 28, 29, 30, 31, 32, 33] (by decide +kernel) (by decide +kernel)
set_option maxRecDepth 20000 in
theorem gX7_away_X3_isAway_n80 : GoodIn wsX7_away (wsX3_isAway) := ggX7_away_X3_isAway
set_option maxRecDepth 20000 in
theorem ggX7_away_X3_turnAway : GoodIn wsX7_away wsX3_turnAway := goodIn_r _ [19, 14, 26, 27, 28, 29, 30, 31, 32, 33] (by decide +kernel) (by decide +kernel)
set_option maxRecDepth 20000 in
theorem gX7_away_X3_turnAway_n83 : GoodIn wsX7_away (wsX3_turnAway) := ggX7_away_X3_turnAway
theorem dX7_away_0 : decode cX7_away 0 = .ok (.aload_n 0, 1) := by decide +kernel
theorem dX7_away_1 : decode cX7_away 1 = .ok (.getfield 26, 3) := by decide +kernel
theorem dX7_away_4 : decode cX7_away 4 = .ok (.iload_n 1, 1) := by decide +kernel
theorem dX7_away_5 : decode cX7_away 5 = .ok (.invokevirtual 76, 3) := by decide +kernel
theorem dX7_away_8 : decode cX7_away 8 = .ok (.ifCond .eq 13, 3) := by decide +kernel
theorem dX7_away_11 : decode cX7_away 11 = .ok (.iload_n 2, 1) := by decide +kernel
theorem dX7_away_12 : decode cX7_away 12 = .ok (.sipush 1000, 3) := by decide +kernel
theorem dX7_away_15 : decode cX7_away 15 = .ok (.invokestatic 65, 3) := by decide +kernel
theorem dX7_away_18 : decode cX7_away 18 = .ok (.ifCond .ne 6, 3) := by decide +kernel
theorem dX7_away_21 : decode cX7_away 21 = .ok (.bipush (-2), 2) := by decide +kernel
theorem dX7_away_23 : decode cX7_away 23 = .ok (.ireturn, 1) := by decide +kernel
theorem dX7_away_24 : decode cX7_away 24 = .ok (.aload_n 0, 1) := by decide +kernel
theorem dX7_away_25 : decode cX7_away 25 = .ok (.getfield 26, 3) := by decide +kernel
theorem dX7_away_28 : decode cX7_away 28 = .ok (.iload_n 1, 1) := by decide +kernel
theorem dX7_away_29 : decode cX7_away 29 = .ok (.iload_n 2, 1) := by decide +kernel
theorem dX7_away_30 : decode cX7_away 30 = .ok (.invokevirtual 80, 3) := by decide +kernel
theorem dX7_away_33 : decode cX7_away 33 = .ok (.iload_n 3, 1) := by decide +kernel
theorem dX7_away_34 : decode cX7_away 34 = .ok (.if_icmp .ne 5, 3) := by decide +kernel
theorem dX7_away_37 : decode cX7_away 37 = .ok (.iconst 0, 1) := by decide +kernel
theorem dX7_away_38 : decode cX7_away 38 = .ok (.ireturn, 1) := by decide +kernel
theorem dX7_away_39 : decode cX7_away 39 = .ok (.aload_n 0, 1) := by decide +kernel
theorem dX7_away_40 : decode cX7_away 40 = .ok (.getfield 26, 3) := by decide +kernel
