theorem dX2_nameOf_20 : decode cX2_nameOf 20 = .ok (.ireturn, 1) := by decide +kernel
theorem dX2_nameOf_21 : decode cX2_nameOf 21 = .ok (.aload_n 0, 1) := by decide +kernel
theorem dX2_nameOf_22 : decode cX2_nameOf 22 = .ok (.iload_n 1, 1) := by decide +kernel
theorem dX2_nameOf_23 : decode cX2_nameOf 23 = .ok (.invokevirtual 150, 3) := by decide +kernel
theorem dX2_nameOf_26 : decode cX2_nameOf 26 = .ok (.ifCond .eq 11, 3) := by decide +kernel
theorem dX2_nameOf_29 : decode cX2_nameOf 29 = .ok (.aload_n 0, 1) := by decide +kernel
theorem dX2_nameOf_30 : decode cX2_nameOf 30 = .ok (.iload_n 1, 1) := by decide +kernel
theorem dX2_nameOf_31 : decode cX2_nameOf 31 = .ok (.invokevirtual 221, 3) := by decide +kernel
theorem dX2_nameOf_34 : decode cX2_nameOf 34 = .ok (.goto 4, 3) := by decide +kernel
theorem dX2_nameOf_37 : decode cX2_nameOf 37 = .ok (.iconst (-1), 1) := by decide +kernel
theorem dX2_nameOf_38 : decode cX2_nameOf 38 = .ok (.ireturn, 1) := by decide +kernel
set_option maxRecDepth 20000 in
theorem ggX2_numberInTens_X1_at : GoodIn wsX2_numberInTens wsX1_at := goodIn_r _ [6, 7, 35, 36] (by decide +kernel) (by decide +kernel)
set_option maxRecDepth 20000 in
theorem gX2_numberInTens_X1_at : GoodIn wsX2_numberInTens (wsV RX2 84 RX1 yX1_at wsX1_at) := goodIn_app (goodIn_of _ (by decide +kernel)) ggX2_numberInTens_X1_at
set_option maxRecDepth 20000 in
theorem ggX2_numberInTens_X2_elementOf : GoodIn wsX2_numberInTens wsX2_elementOf := goodIn_r _ [12, 13, 14, 2, 3, 4, 5, 6, 7, 15, 16, 17, 11, 18, 19, 20, 21, 25, 26, 27, 28, 29, 30, 31, 32, 33, 34, 35, 36, 37, 38, 39, 40, 41, 42, 43] (by decide +kernel) (by decide +kernel)
set_option maxRecDepth 20000 in
theorem gX2_numberInTens_X2_elementOf : GoodIn wsX2_numberInTens (wsV RX2 114 RX2 yX2_elementOf wsX2_elementOf) := goodIn_app (goodIn_of _ (by decide +kernel)) ggX2_numberInTens_X2_elementOf
set_option maxRecDepth 20000 in
theorem ggX2_numberInTens_X2_within : GoodIn wsX2_numberInTens wsX2_within := goodIn_r _ [24] (by decide +kernel) (by decide +kernel)
set_option maxRecDepth 20000 in
theorem gX2_numberInTens_X2_within : GoodIn wsX2_numberInTens (va_wsS RX2 90 yX2_within wsX2_within) := goodIn_app (goodIn_of _ (by decide +kernel)) ggX2_numberInTens_X2_within
theorem dX2_numberInTens_0 : decode cX2_numberInTens 0 = .ok (.aload_n 0, 1) := by decide +kernel
theorem dX2_numberInTens_1 : decode cX2_numberInTens 1 = .ok (.getfield 25, 3) := by decide +kernel
theorem dX2_numberInTens_4 : decode cX2_numberInTens 4 = .ok (.iload_n 1, 1) := by decide +kernel
theorem dX2_numberInTens_5 : decode cX2_numberInTens 5 = .ok (.invokevirtual 84, 3) := by decide +kernel
theorem dX2_numberInTens_8 : decode cX2_numberInTens 8 = .ok (.istore_n 2, 1) := by decide +kernel
theorem dX2_numberInTens_9 : decode cX2_numberInTens 9 = .ok (.iload_n 2, 1) := by decide +kernel
theorem dX2_numberInTens_10 : decode cX2_numberInTens 10 = .ok (.iconst 1, 1) := by decide +kernel
theorem dX2_numberInTens_11 : decode cX2_numberInTens 11 = .ok (.if_icmp .lt 8, 3) := by decide +kernel
theorem dX2_numberInTens_14 : decode cX2_numberInTens 14 = .ok (.iload_n 2, 1) := by decide +kernel
theorem dX2_numberInTens_15 : decode cX2_numberInTens 15 = .ok (.iconst 3, 1) := by decide +kernel
theorem dX2_numberInTens_16 : decode cX2_numberInTens 16 = .ok (.if_icmp .le 5, 3) := by decide +kernel
theorem dX2_numberInTens_19 : decode cX2_numberInTens 19 = .ok (.iconst (-1), 1) := by decide +kernel
theorem dX2_numberInTens_20 : decode cX2_numberInTens 20 = .ok (.ireturn, 1) := by decide +kernel
theorem dX2_numberInTens_21 : decode cX2_numberInTens 21 = .ok (.iconst 0, 1) := by decide +kernel
theorem dX2_numberInTens_22 : decode cX2_numberInTens 22 = .ok (.istore_n 3, 1) := by decide +kernel
theorem dX2_numberInTens_23 : decode cX2_numberInTens 23 = .ok (.iconst 0, 1) := by decide +kernel
theorem dX2_numberInTens_24 : decode cX2_numberInTens 24 = .ok (.istore 4, 2) := by decide +kernel
theorem dX2_numberInTens_26 : decode cX2_numberInTens 26 = .ok (.iload 4, 2) := by decide +kernel
theorem dX2_numberInTens_28 : decode cX2_numberInTens 28 = .ok (.iload_n 2, 1) := by decide +kernel
theorem dX2_numberInTens_29 : decode cX2_numberInTens 29 = .ok (.if_icmp .ge 62, 3) := by decide +kernel
theorem dX2_numberInTens_32 : decode cX2_numberInTens 32 = .ok (.aload_n 0, 1) := by decide +kernel
theorem dX2_numberInTens_33 : decode cX2_numberInTens 33 = .ok (.iload_n 1, 1) := by decide +kernel
theorem dX2_numberInTens_34 : decode cX2_numberInTens 34 = .ok (.iload 4, 2) := by decide +kernel
theorem dX2_numberInTens_36 : decode cX2_numberInTens 36 = .ok (.invokevirtual 114, 3) := by decide +kernel
theorem dX2_numberInTens_39 : decode cX2_numberInTens 39 = .ok (.bipush 48, 2) := by decide +kernel
theorem dX2_numberInTens_41 : decode cX2_numberInTens 41 = .ok (.isub, 1) := by decide +kernel
theorem dX2_numberInTens_42 : decode cX2_numberInTens 42 = .ok (.istore 5, 2) := by decide +kernel
theorem dX2_numberInTens_44 : decode cX2_numberInTens 44 = .ok (.iload 4, 2) := by decide +kernel
theorem dX2_numberInTens_46 : decode cX2_numberInTens 46 = .ok (.ifCond .le 11, 3) := by decide +kernel
theorem dX2_numberInTens_49 : decode cX2_numberInTens 49 = .ok (.iload_n 3, 1) := by decide +kernel
theorem dX2_numberInTens_50 : decode cX2_numberInTens 50 = .ok (.ifCond .ne 7, 3) := by decide +kernel
theorem dX2_numberInTens_53 : decode cX2_numberInTens 53 = .ok (.iconst 1, 1) := by decide +kernel
theorem dX2_numberInTens_54 : decode cX2_numberInTens 54 = .ok (.goto 4, 3) := by decide +kernel
theorem dX2_numberInTens_57 : decode cX2_numberInTens 57 = .ok (.iconst 0, 1) := by decide +kernel
theorem dX2_numberInTens_58 : decode cX2_numberInTens 58 = .ok (.istore 6, 2) := by decide +kernel
theorem dX2_numberInTens_60 : decode cX2_numberInTens 60 = .ok (.iload 5, 2) := by decide +kernel
theorem dX2_numberInTens_62 : decode cX2_numberInTens 62 = .ok (.bipush 9, 2) := by decide +kernel
theorem dX2_numberInTens_64 : decode cX2_numberInTens 64 = .ok (.invokestatic 90, 3) := by decide +kernel
theorem dX2_numberInTens_67 : decode cX2_numberInTens 67 = .ok (.ifCond .eq 8, 3) := by decide +kernel
theorem dX2_numberInTens_70 : decode cX2_numberInTens 70 = .ok (.iload 6, 2) := by decide +kernel
theorem dX2_numberInTens_72 : decode cX2_numberInTens 72 = .ok (.ifCond .eq 5, 3) := by decide +kernel
theorem dX2_numberInTens_75 : decode cX2_numberInTens 75 = .ok (.iconst (-1), 1) := by decide +kernel
theorem dX2_numberInTens_76 : decode cX2_numberInTens 76 = .ok (.ireturn, 1) := by decide +kernel
theorem dX2_numberInTens_77 : decode cX2_numberInTens 77 = .ok (.iload_n 3, 1) := by decide +kernel
theorem dX2_numberInTens_78 : decode cX2_numberInTens 78 = .ok (.bipush 10, 2) := by decide +kernel
theorem dX2_numberInTens_80 : decode cX2_numberInTens 80 = .ok (.imul, 1) := by decide +kernel
theorem dX2_numberInTens_81 : decode cX2_numberInTens 81 = .ok (.iload 5, 2) := by decide +kernel
theorem dX2_numberInTens_83 : decode cX2_numberInTens 83 = .ok (.iadd, 1) := by decide +kernel
theorem dX2_numberInTens_84 : decode cX2_numberInTens 84 = .ok (.istore_n 3, 1) := by decide +kernel
theorem dX2_numberInTens_85 : decode cX2_numberInTens 85 = .ok (.iinc 4 1, 3) := by decide +kernel
theorem dX2_numberInTens_88 : decode cX2_numberInTens 88 = .ok (.goto (-62), 3) := by decide +kernel
theorem dX2_numberInTens_91 : decode cX2_numberInTens 91 = .ok (.iload_n 3, 1) := by decide +kernel
theorem dX2_numberInTens_92 : decode cX2_numberInTens 92 = .ok (.ireturn, 1) := by decide +kernel
set_option maxRecDepth 20000 in
theorem ggX2_keyFor_X1_at : GoodIn wsX2_keyFor wsX1_at := goodIn_r _ [6, 7, 58, 59] (by decide +kernel) (by decide +kernel)
set_option maxRecDepth 20000 in
theorem gX2_keyFor_X1_at : GoodIn wsX2_keyFor (wsV RX2 84 RX1 yX1_at wsX1_at) := goodIn_app (goodIn_of _ (by decide +kernel)) ggX2_keyFor_X1_at
set_option maxRecDepth 20000 in
theorem ggX2_keyFor_X2_nameOf : GoodIn wsX2_keyFor wsX2_nameOf := goodIn_r _ [12, 1, 13, 2, 3, 4, 5, 6, 7, 14, 15, 16, 11, 17, 18, 19, 20, 21, 22, 23, 24, 25, 26, 27, 28, 29, 30, 31, 32, 33, 34, 35, 36, 37, 38, 39, 40, 41, 42, 43, 44, 45, 46, 47, 48, 49, 50, 51, 52, 53, 54, 55, 56, 57, 58, 59, 60, 61, 62, 63, 64, 65, 66] (by decide +kernel) (by decide +kernel)
set_option maxRecDepth 20000 in
theorem gX2_keyFor_X2_nameOf : GoodIn wsX2_keyFor (wsV RX2 212 RX2 yX2_nameOf wsX2_nameOf) := goodIn_app (goodIn_of _ (by decide +kernel)) ggX2_keyFor_X2_nameOf
theorem dX2_keyFor_0 : decode cX2_keyFor 0 = .ok (.aload_n 0, 1) := by decide +kernel
theorem dX2_keyFor_1 : decode cX2_keyFor 1 = .ok (.getfield 12, 3) := by decide +kernel
theorem dX2_keyFor_4 : decode cX2_keyFor 4 = .ok (.iload_n 1, 1) := by decide +kernel
theorem dX2_keyFor_5 : decode cX2_keyFor 5 = .ok (.invokevirtual 84, 3) := by decide +kernel
theorem dX2_keyFor_8 : decode cX2_keyFor 8 = .ok (.istore_n 2, 1) := by decide +kernel
theorem dX2_keyFor_9 : decode cX2_keyFor 9 = .ok (.iload_n 2, 1) := by decide +kernel
theorem dX2_keyFor_10 : decode cX2_keyFor 10 = .ok (.ifCond .ne 5, 3) := by decide +kernel
theorem dX2_keyFor_13 : decode cX2_keyFor 13 = .ok (.iconst (-1), 1) := by decide +kernel
theorem dX2_keyFor_14 : decode cX2_keyFor 14 = .ok (.ireturn, 1) := by decide +kernel
theorem dX2_keyFor_15 : decode cX2_keyFor 15 = .ok (.iload_n 2, 1) := by decide +kernel
theorem dX2_keyFor_16 : decode cX2_keyFor 16 = .ok (.iconst 4, 1) := by decide +kernel
theorem dX2_keyFor_17 : decode cX2_keyFor 17 = .ok (.if_icmp .eq 10, 3) := by decide +kernel
theorem dX2_keyFor_20 : decode cX2_keyFor 20 = .ok (.iload_n 2, 1) := by decide +kernel
theorem dX2_keyFor_21 : decode cX2_keyFor 21 = .ok (.iconst 3, 1) := by decide +kernel
theorem dX2_keyFor_22 : decode cX2_keyFor 22 = .ok (.if_icmp .eq 5, 3) := by decide +kernel
theorem dX2_keyFor_25 : decode cX2_keyFor 25 = .ok (.iload_n 1, 1) := by decide +kernel
theorem dX2_keyFor_26 : decode cX2_keyFor 26 = .ok (.ireturn, 1) := by decide +kernel
theorem dX2_keyFor_27 : decode cX2_keyFor 27 = .ok (.aload_n 0, 1) := by decide +kernel
theorem dX2_keyFor_28 : decode cX2_keyFor 28 = .ok (.iload_n 1, 1) := by decide +kernel
theorem dX2_keyFor_29 : decode cX2_keyFor 29 = .ok (.invokevirtual 212, 3) := by decide +kernel
theorem dX2_keyFor_32 : decode cX2_keyFor 32 = .ok (.istore_n 3, 1) := by decide +kernel
theorem dX2_keyFor_33 : decode cX2_keyFor 33 = .ok (.iload_n 3, 1) := by decide +kernel
theorem dX2_keyFor_34 : decode cX2_keyFor 34 = .ok (.iconst (-1), 1) := by decide +kernel
theorem dX2_keyFor_35 : decode cX2_keyFor 35 = .ok (.if_icmp .ne 7, 3) := by decide +kernel
theorem dX2_keyFor_38 : decode cX2_keyFor 38 = .ok (.iconst (-1), 1) := by decide +kernel
theorem dX2_keyFor_39 : decode cX2_keyFor 39 = .ok (.goto 7, 3) := by decide +kernel
theorem dX2_keyFor_42 : decode cX2_keyFor 42 = .ok (.bipush 100, 2) := by decide +kernel
theorem dX2_keyFor_44 : decode cX2_keyFor 44 = .ok (.iload_n 3, 1) := by decide +kernel
theorem dX2_keyFor_45 : decode cX2_keyFor 45 = .ok (.iadd, 1) := by decide +kernel
theorem dX2_keyFor_46 : decode cX2_keyFor 46 = .ok (.ireturn, 1) := by decide +kernel
set_option maxRecDepth 20000 in
theorem ggX2_alikeKeys_X2_alikeButStrings : GoodIn wsX2_alikeKeys wsX2_alikeButStrings := goodIn_r _ [5, 6, 7, 8, 9, 10, 11, 12, 13, 14, 15, 4, 16, 17, 18, 19, 20, 21, 22, 23, 24, 25, 26, 27, 28, 29, 30, 31, 32, 33, 34, 35] (by decide +kernel) (by decide +kernel)
set_option maxRecDepth 20000 in
theorem gX2_alikeKeys_X2_alikeButStrings : GoodIn wsX2_alikeKeys (wsV RX2 215 RX2 yX2_alikeButStrings wsX2_alikeButStrings) := goodIn_app (goodIn_of _ (by decide +kernel)) ggX2_alikeKeys_X2_alikeButStrings
theorem dX2_alikeKeys_0 : decode cX2_alikeKeys 0 = .ok (.iload_n 1, 1) := by decide +kernel
theorem dX2_alikeKeys_1 : decode cX2_alikeKeys 1 = .ok (.bipush 100, 2) := by decide +kernel
theorem dX2_alikeKeys_3 : decode cX2_alikeKeys 3 = .ok (.if_icmp .ge 9, 3) := by decide +kernel
theorem dX2_alikeKeys_6 : decode cX2_alikeKeys 6 = .ok (.iload_n 2, 1) := by decide +kernel
theorem dX2_alikeKeys_7 : decode cX2_alikeKeys 7 = .ok (.bipush 100, 2) := by decide +kernel
theorem dX2_alikeKeys_9 : decode cX2_alikeKeys 9 = .ok (.if_icmp .lt 14, 3) := by decide +kernel
theorem dX2_alikeKeys_12 : decode cX2_alikeKeys 12 = .ok (.iload_n 1, 1) := by decide +kernel
theorem dX2_alikeKeys_13 : decode cX2_alikeKeys 13 = .ok (.iload_n 2, 1) := by decide +kernel
theorem dX2_alikeKeys_14 : decode cX2_alikeKeys 14 = .ok (.if_icmp .ne 7, 3) := by decide +kernel
theorem dX2_alikeKeys_17 : decode cX2_alikeKeys 17 = .ok (.iconst 1, 1) := by decide +kernel
theorem dX2_alikeKeys_18 : decode cX2_alikeKeys 18 = .ok (.goto 4, 3) := by decide +kernel
theorem dX2_alikeKeys_21 : decode cX2_alikeKeys 21 = .ok (.iconst 0, 1) := by decide +kernel
theorem dX2_alikeKeys_22 : decode cX2_alikeKeys 22 = .ok (.ireturn, 1) := by decide +kernel
theorem dX2_alikeKeys_23 : decode cX2_alikeKeys 23 = .ok (.aload_n 0, 1) := by decide +kernel
theorem dX2_alikeKeys_24 : decode cX2_alikeKeys 24 = .ok (.iload_n 1, 1) := by decide +kernel
theorem dX2_alikeKeys_25 : decode cX2_alikeKeys 25 = .ok (.iload_n 2, 1) := by decide +kernel
theorem dX2_alikeKeys_26 : decode cX2_alikeKeys 26 = .ok (.invokevirtual 215, 3) := by decide +kernel
theorem dX2_alikeKeys_29 : decode cX2_alikeKeys 29 = .ok (.ireturn, 1) := by decide +kernel
set_option maxRecDepth 20000 in
theorem ggX2_keyCell_X1_at : GoodIn wsX2_keyCell wsX1_at := goodIn_r _ [6, 7, 18, 19] (by decide +kernel) (by decide +kernel)
set_option maxRecDepth 20000 in
theorem gX2_keyCell_X1_at : GoodIn wsX2_keyCell (wsV RX2 84 RX1 yX1_at wsX1_at) := goodIn_app (goodIn_of _ (by decide +kernel)) ggX2_keyCell_X1_at
theorem dX2_keyCell_0 : decode cX2_keyCell 0 = .ok (.aload_n 0, 1) := by decide +kernel
theorem dX2_keyCell_1 : decode cX2_keyCell 1 = .ok (.getfield 22, 3) := by decide +kernel
theorem dX2_keyCell_4 : decode cX2_keyCell 4 = .ok (.iload_n 1, 1) := by decide +kernel
theorem dX2_keyCell_5 : decode cX2_keyCell 5 = .ok (.invokevirtual 84, 3) := by decide +kernel
theorem dX2_keyCell_8 : decode cX2_keyCell 8 = .ok (.iload_n 2, 1) := by decide +kernel
theorem dX2_keyCell_9 : decode cX2_keyCell 9 = .ok (.iadd, 1) := by decide +kernel
theorem dX2_keyCell_10 : decode cX2_keyCell 10 = .ok (.ireturn, 1) := by decide +kernel
set_option maxRecDepth 20000 in
theorem ggX2_valueCell_X1_at : GoodIn wsX2_valueCell wsX1_at := goodIn_r _ [6, 7, 18, 19] (by decide +kernel) (by decide +kernel)
set_option maxRecDepth 20000 in
theorem gX2_valueCell_X1_at : GoodIn wsX2_valueCell (wsV RX2 84 RX1 yX1_at wsX1_at) := goodIn_app (goodIn_of _ (by decide +kernel)) ggX2_valueCell_X1_at
theorem dX2_valueCell_0 : decode cX2_valueCell 0 = .ok (.aload_n 0, 1) := by decide +kernel
theorem dX2_valueCell_1 : decode cX2_valueCell 1 = .ok (.getfield 22, 3) := by decide +kernel
theorem dX2_valueCell_4 : decode cX2_valueCell 4 = .ok (.iload_n 1, 1) := by decide +kernel
theorem dX2_valueCell_5 : decode cX2_valueCell 5 = .ok (.invokevirtual 84, 3) := by decide +kernel
theorem dX2_valueCell_8 : decode cX2_valueCell 8 = .ok (.bipush 32, 2) := by decide +kernel
theorem dX2_valueCell_10 : decode cX2_valueCell 10 = .ok (.iadd, 1) := by decide +kernel
theorem dX2_valueCell_11 : decode cX2_valueCell 11 = .ok (.iload_n 2, 1) := by decide +kernel
theorem dX2_valueCell_12 : decode cX2_valueCell 12 = .ok (.iadd, 1) := by decide +kernel
theorem dX2_valueCell_13 : decode cX2_valueCell 13 = .ok (.ireturn, 1) := by decide +kernel
set_option maxRecDepth 20000 in
theorem ggX2_placeOf_X1_at : GoodIn wsX2_placeOf wsX1_at := goodIn_r _ [9, 10, 52, 53] (by decide +kernel) (by decide +kernel)
set_option maxRecDepth 20000 in
theorem gX2_placeOf_X1_at : GoodIn wsX2_placeOf (wsV RX2 84 RX1 yX1_at wsX1_at) := goodIn_app (goodIn_of _ (by decide +kernel)) ggX2_placeOf_X1_at
set_option maxRecDepth 20000 in
theorem ggX2_placeOf_X2_keyCell : GoodIn wsX2_placeOf wsX2_keyCell := goodIn_r _ [15, 16, 5, 6, 7, 8, 9, 10, 35, 36, 37, 38, 39, 40, 41, 42, 43, 44, 52, 53] (by decide +kernel) (by decide +kernel)
set_option maxRecDepth 20000 in
theorem gX2_placeOf_X2_keyCell : GoodIn wsX2_placeOf (wsV RX2 224 RX2 yX2_keyCell wsX2_keyCell) := goodIn_app (goodIn_of _ (by decide +kernel)) ggX2_placeOf_X2_keyCell
set_option maxRecDepth 20000 in
theorem ggX2_placeOf_X2_alikeKeys : GoodIn wsX2_placeOf wsX2_alikeKeys := goodIn_r _ [20, 21, 22, 23, 14, 24, 25, 26, 5, 6, 7, 8, 9, 10, 27, 28, 29, 30, 31, 32, 33, 3, 16, 34, 35, 36, 37, 38, 39, 40, 41, 42, 43, 44, 52, 53] (by decide +kernel) (by decide +kernel)
set_option maxRecDepth 20000 in
theorem gX2_placeOf_X2_alikeKeys : GoodIn wsX2_placeOf (wsV RX2 227 RX2 yX2_alikeKeys wsX2_alikeKeys) := goodIn_app (goodIn_of _ (by decide +kernel)) ggX2_placeOf_X2_alikeKeys
theorem dX2_placeOf_0 : decode cX2_placeOf 0 = .ok (.aload_n 0, 1) := by decide +kernel
theorem dX2_placeOf_1 : decode cX2_placeOf 1 = .ok (.getfield 34, 3) := by decide +kernel
theorem dX2_placeOf_4 : decode cX2_placeOf 4 = .ok (.getfield 159, 3) := by decide +kernel
theorem dX2_placeOf_7 : decode cX2_placeOf 7 = .ok (.aload_n 0, 1) := by decide +kernel
theorem dX2_placeOf_8 : decode cX2_placeOf 8 = .ok (.getfield 19, 3) := by decide +kernel
theorem dX2_placeOf_11 : decode cX2_placeOf 11 = .ok (.iload_n 1, 1) := by decide +kernel
theorem dX2_placeOf_12 : decode cX2_placeOf 12 = .ok (.invokevirtual 84, 3) := by decide +kernel
theorem dX2_placeOf_15 : decode cX2_placeOf 15 = .ok (.invokevirtual 84, 3) := by decide +kernel
theorem dX2_placeOf_18 : decode cX2_placeOf 18 = .ok (.istore_n 3, 1) := by decide +kernel
theorem dX2_placeOf_19 : decode cX2_placeOf 19 = .ok (.iconst 0, 1) := by decide +kernel
theorem dX2_placeOf_20 : decode cX2_placeOf 20 = .ok (.istore 4, 2) := by decide +kernel
theorem dX2_placeOf_22 : decode cX2_placeOf 22 = .ok (.iload 4, 2) := by decide +kernel
theorem dX2_placeOf_24 : decode cX2_placeOf 24 = .ok (.iload_n 3, 1) := by decide +kernel
theorem dX2_placeOf_25 : decode cX2_placeOf 25 = .ok (.if_icmp .ge 37, 3) := by decide +kernel
theorem dX2_placeOf_28 : decode cX2_placeOf 28 = .ok (.aload_n 0, 1) := by decide +kernel
theorem dX2_placeOf_29 : decode cX2_placeOf 29 = .ok (.aload_n 0, 1) := by decide +kernel
theorem dX2_placeOf_30 : decode cX2_placeOf 30 = .ok (.getfield 34, 3) := by decide +kernel
theorem dX2_placeOf_33 : decode cX2_placeOf 33 = .ok (.getfield 67, 3) := by decide +kernel
theorem dX2_placeOf_36 : decode cX2_placeOf 36 = .ok (.aload_n 0, 1) := by decide +kernel
theorem dX2_placeOf_37 : decode cX2_placeOf 37 = .ok (.iload_n 1, 1) := by decide +kernel
theorem dX2_placeOf_38 : decode cX2_placeOf 38 = .ok (.iload 4, 2) := by decide +kernel
theorem dX2_placeOf_40 : decode cX2_placeOf 40 = .ok (.invokevirtual 224, 3) := by decide +kernel
theorem dX2_placeOf_43 : decode cX2_placeOf 43 = .ok (.invokevirtual 84, 3) := by decide +kernel
theorem dX2_placeOf_46 : decode cX2_placeOf 46 = .ok (.iload_n 2, 1) := by decide +kernel
theorem dX2_placeOf_47 : decode cX2_placeOf 47 = .ok (.invokevirtual 227, 3) := by decide +kernel
theorem dX2_placeOf_50 : decode cX2_placeOf 50 = .ok (.ifCond .eq 6, 3) := by decide +kernel
theorem dX2_placeOf_53 : decode cX2_placeOf 53 = .ok (.iload 4, 2) := by decide +kernel
theorem dX2_placeOf_55 : decode cX2_placeOf 55 = .ok (.ireturn, 1) := by decide +kernel
theorem dX2_placeOf_56 : decode cX2_placeOf 56 = .ok (.iinc 4 1, 3) := by decide +kernel
theorem dX2_placeOf_59 : decode cX2_placeOf 59 = .ok (.goto (-37), 3) := by decide +kernel
theorem dX2_placeOf_62 : decode cX2_placeOf 62 = .ok (.iconst (-1), 1) := by decide +kernel
theorem dX2_placeOf_63 : decode cX2_placeOf 63 = .ok (.ireturn, 1) := by decide +kernel
set_option maxRecDepth 20000 in
theorem ggX2_addKey_X1_at : GoodIn wsX2_addKey wsX1_at := goodIn_r _ [10, 11, 52, 53] (by decide +kernel) (by decide +kernel)
set_option maxRecDepth 20000 in
theorem gX2_addKey_X1_at : GoodIn wsX2_addKey (wsV RX2 84 RX1 yX1_at wsX1_at) := goodIn_app (goodIn_of _ (by decide +kernel)) ggX2_addKey_X1_at
set_option maxRecDepth 20000 in
theorem ggX2_addKey_X2_grow : GoodIn wsX2_addKey wsX2_grow := goodIn_r _ [16, 2, 4, 17, 18, 19, 20, 21, 22, 6, 7, 8, 9, 10, 11, 23, 24, 25, 26, 27, 28, 15, 29, 35, 36, 37, 38, 39, 40, 41, 42, 43, 44, 45, 46, 47, 48, 49, 50, 51, 52, 53] (by decide +kernel) (by decide +kernel)
set_option maxRecDepth 20000 in
theorem gX2_addKey_X2_grow : GoodIn wsX2_addKey (wsV RX2 230 RX2 yX2_grow wsX2_grow) := goodIn_app (goodIn_of _ (by decide +kernel)) ggX2_addKey_X2_grow
set_option maxRecDepth 20000 in
theorem ggX2_addKey_X2_keyCell : GoodIn wsX2_addKey wsX2_keyCell := goodIn_r _ [33, 34, 6, 7, 8, 9, 10, 11, 35, 36, 37, 38, 39, 40, 41, 42, 43, 44, 52, 53] (by decide +kernel) (by decide +kernel)
set_option maxRecDepth 20000 in
theorem gX2_addKey_X2_keyCell : GoodIn wsX2_addKey (wsV RX2 224 RX2 yX2_keyCell wsX2_keyCell) := goodIn_app (goodIn_of _ (by decide +kernel)) ggX2_addKey_X2_keyCell
set_option maxRecDepth 20000 in
theorem ggX2_addKey_X1_set : GoodIn wsX2_addKey wsX1_set := goodIn_r _ [26, 11, 52, 53] (by decide +kernel) (by decide +kernel)
set_option maxRecDepth 20000 in
theorem gX2_addKey_X1_set : GoodIn wsX2_addKey (wsV RX2 100 RX1 yX1_set wsX1_set) := goodIn_app (goodIn_of _ (by decide +kernel)) ggX2_addKey_X1_set
theorem dX2_addKey_0 : decode cX2_addKey 0 = .ok (.aload_n 0, 1) := by decide +kernel
theorem dX2_addKey_1 : decode cX2_addKey 1 = .ok (.getfield 19, 3) := by decide +kernel
theorem dX2_addKey_4 : decode cX2_addKey 4 = .ok (.iload_n 1, 1) := by decide +kernel
theorem dX2_addKey_5 : decode cX2_addKey 5 = .ok (.invokevirtual 84, 3) := by decide +kernel
theorem dX2_addKey_8 : decode cX2_addKey 8 = .ok (.istore_n 3, 1) := by decide +kernel
theorem dX2_addKey_9 : decode cX2_addKey 9 = .ok (.aload_n 0, 1) := by decide +kernel
theorem dX2_addKey_10 : decode cX2_addKey 10 = .ok (.getfield 34, 3) := by decide +kernel
theorem dX2_addKey_13 : decode cX2_addKey 13 = .ok (.getfield 159, 3) := by decide +kernel
theorem dX2_addKey_16 : decode cX2_addKey 16 = .ok (.iload_n 3, 1) := by decide +kernel
theorem dX2_addKey_17 : decode cX2_addKey 17 = .ok (.invokevirtual 84, 3) := by decide +kernel
theorem dX2_addKey_20 : decode cX2_addKey 20 = .ok (.istore 4, 2) := by decide +kernel
theorem dX2_addKey_22 : decode cX2_addKey 22 = .ok (.iload 4, 2) := by decide +kernel
theorem dX2_addKey_24 : decode cX2_addKey 24 = .ok (.aload_n 0, 1) := by decide +kernel
theorem dX2_addKey_25 : decode cX2_addKey 25 = .ok (.getfield 34, 3) := by decide +kernel
theorem dX2_addKey_28 : decode cX2_addKey 28 = .ok (.getfield 141, 3) := by decide +kernel
theorem dX2_addKey_31 : decode cX2_addKey 31 = .ok (.iload_n 3, 1) := by decide +kernel
theorem dX2_addKey_32 : decode cX2_addKey 32 = .ok (.invokevirtual 84, 3) := by decide +kernel
theorem dX2_addKey_35 : decode cX2_addKey 35 = .ok (.if_icmp .lt 13, 3) := by decide +kernel
theorem dX2_addKey_38 : decode cX2_addKey 38 = .ok (.aload_n 0, 1) := by decide +kernel
theorem dX2_addKey_39 : decode cX2_addKey 39 = .ok (.iload_n 3, 1) := by decide +kernel
theorem dX2_addKey_40 : decode cX2_addKey 40 = .ok (.invokevirtual 230, 3) := by decide +kernel
theorem dX2_addKey_43 : decode cX2_addKey 43 = .ok (.ifCond .ne 5, 3) := by decide +kernel
theorem dX2_addKey_46 : decode cX2_addKey 46 = .ok (.iconst (-1), 1) := by decide +kernel
theorem dX2_addKey_47 : decode cX2_addKey 47 = .ok (.ireturn, 1) := by decide +kernel
theorem dX2_addKey_48 : decode cX2_addKey 48 = .ok (.aload_n 0, 1) := by decide +kernel
theorem dX2_addKey_49 : decode cX2_addKey 49 = .ok (.getfield 34, 3) := by decide +kernel
theorem dX2_addKey_52 : decode cX2_addKey 52 = .ok (.getfield 67, 3) := by decide +kernel
theorem dX2_addKey_55 : decode cX2_addKey 55 = .ok (.aload_n 0, 1) := by decide +kernel
theorem dX2_addKey_56 : decode cX2_addKey 56 = .ok (.iload_n 1, 1) := by decide +kernel
theorem dX2_addKey_57 : decode cX2_addKey 57 = .ok (.iload 4, 2) := by decide +kernel
theorem dX2_addKey_59 : decode cX2_addKey 59 = .ok (.invokevirtual 224, 3) := by decide +kernel
theorem dX2_addKey_62 : decode cX2_addKey 62 = .ok (.iload_n 2, 1) := by decide +kernel
theorem dX2_addKey_63 : decode cX2_addKey 63 = .ok (.invokevirtual 100, 3) := by decide +kernel
theorem dX2_addKey_66 : decode cX2_addKey 66 = .ok (.aload_n 0, 1) := by decide +kernel
theorem dX2_addKey_67 : decode cX2_addKey 67 = .ok (.getfield 34, 3) := by decide +kernel
theorem dX2_addKey_70 : decode cX2_addKey 70 = .ok (.getfield 159, 3) := by decide +kernel
theorem dX2_addKey_73 : decode cX2_addKey 73 = .ok (.iload_n 3, 1) := by decide +kernel
theorem dX2_addKey_74 : decode cX2_addKey 74 = .ok (.iload 4, 2) := by decide +kernel
theorem dX2_addKey_76 : decode cX2_addKey 76 = .ok (.iconst 1, 1) := by decide +kernel
theorem dX2_addKey_77 : decode cX2_addKey 77 = .ok (.iadd, 1) := by decide +kernel
theorem dX2_addKey_78 : decode cX2_addKey 78 = .ok (.invokevirtual 100, 3) := by decide +kernel
theorem dX2_addKey_81 : decode cX2_addKey 81 = .ok (.iload 4, 2) := by decide +kernel
theorem dX2_addKey_83 : decode cX2_addKey 83 = .ok (.ireturn, 1) := by decide +kernel
set_option maxRecDepth 20000 in
theorem ggX2_grow_X1_at : GoodIn wsX2_grow wsX1_at := goodIn_r _ [13, 14, 40, 41] (by decide +kernel) (by decide +kernel)
set_option maxRecDepth 20000 in
theorem gX2_grow_X1_at : GoodIn wsX2_grow (wsV RX2 84 RX1 yX1_at wsX1_at) := goodIn_app (goodIn_of _ (by decide +kernel)) ggX2_grow_X1_at
set_option maxRecDepth 20000 in
theorem ggX2_grow_X1_set : GoodIn wsX2_grow wsX1_set := goodIn_r _ [18, 14, 40, 41] (by decide +kernel) (by decide +kernel)
set_option maxRecDepth 20000 in
theorem gX2_grow_X1_set : GoodIn wsX2_grow (wsV RX2 100 RX1 yX1_set wsX1_set) := goodIn_app (goodIn_of _ (by decide +kernel)) ggX2_grow_X1_set
set_option maxRecDepth 20000 in
theorem ggX2_grow_X2_placeStorage : GoodIn wsX2_grow wsX2_placeStorage := goodIn_r _ [22] (by decide +kernel) (by decide +kernel)
set_option maxRecDepth 20000 in
theorem gX2_grow_X2_placeStorage : GoodIn wsX2_grow (va_wsS RX2 60 yX2_placeStorage wsX2_placeStorage) := goodIn_app (goodIn_of _ (by decide +kernel)) ggX2_grow_X2_placeStorage
theorem dX2_grow_0 : decode cX2_grow 0 = .ok (.aload_n 0, 1) := by decide +kernel
theorem dX2_grow_1 : decode cX2_grow 1 = .ok (.getfield 34, 3) := by decide +kernel
theorem dX2_grow_4 : decode cX2_grow 4 = .ok (.getfield 141, 3) := by decide +kernel
theorem dX2_grow_7 : decode cX2_grow 7 = .ok (.iload_n 1, 1) := by decide +kernel
theorem dX2_grow_8 : decode cX2_grow 8 = .ok (.invokevirtual 84, 3) := by decide +kernel
theorem dX2_grow_11 : decode cX2_grow 11 = .ok (.istore_n 2, 1) := by decide +kernel
theorem dX2_grow_12 : decode cX2_grow 12 = .ok (.aload_n 0, 1) := by decide +kernel
theorem dX2_grow_13 : decode cX2_grow 13 = .ok (.getfield 34, 3) := by decide +kernel
theorem dX2_grow_16 : decode cX2_grow 16 = .ok (.getfield 135, 3) := by decide +kernel
theorem dX2_grow_19 : decode cX2_grow 19 = .ok (.iload_n 1, 1) := by decide +kernel
theorem dX2_grow_20 : decode cX2_grow 20 = .ok (.invokevirtual 84, 3) := by decide +kernel
theorem dX2_grow_23 : decode cX2_grow 23 = .ok (.ifCond .eq 9, 3) := by decide +kernel
theorem dX2_grow_26 : decode cX2_grow 26 = .ok (.iload_n 2, 1) := by decide +kernel
theorem dX2_grow_27 : decode cX2_grow 27 = .ok (.bipush 32, 2) := by decide +kernel
theorem dX2_grow_29 : decode cX2_grow 29 = .ok (.if_icmp .lt 5, 3) := by decide +kernel
theorem dX2_grow_32 : decode cX2_grow 32 = .ok (.iconst 0, 1) := by decide +kernel
theorem dX2_grow_33 : decode cX2_grow 33 = .ok (.ireturn, 1) := by decide +kernel
theorem dX2_grow_34 : decode cX2_grow 34 = .ok (.iconst 2, 1) := by decide +kernel
theorem dX2_grow_35 : decode cX2_grow 35 = .ok (.iload_n 2, 1) := by decide +kernel
theorem dX2_grow_36 : decode cX2_grow 36 = .ok (.imul, 1) := by decide +kernel
theorem dX2_grow_37 : decode cX2_grow 37 = .ok (.iconst 1, 1) := by decide +kernel
theorem dX2_grow_38 : decode cX2_grow 38 = .ok (.iadd, 1) := by decide +kernel
theorem dX2_grow_39 : decode cX2_grow 39 = .ok (.bipush 32, 2) := by decide +kernel
theorem dX2_grow_41 : decode cX2_grow 41 = .ok (.invokestatic 186, 3) := by decide +kernel
theorem dX2_grow_44 : decode cX2_grow 44 = .ok (.istore_n 3, 1) := by decide +kernel
theorem dX2_grow_45 : decode cX2_grow 45 = .ok (.aload_n 0, 1) := by decide +kernel
theorem dX2_grow_46 : decode cX2_grow 46 = .ok (.getfield 34, 3) := by decide +kernel
theorem dX2_grow_49 : decode cX2_grow 49 = .ok (.getfield 141, 3) := by decide +kernel
theorem dX2_grow_52 : decode cX2_grow 52 = .ok (.iload_n 1, 1) := by decide +kernel
theorem dX2_grow_53 : decode cX2_grow 53 = .ok (.iload_n 3, 1) := by decide +kernel
theorem dX2_grow_54 : decode cX2_grow 54 = .ok (.invokevirtual 100, 3) := by decide +kernel
theorem dX2_grow_57 : decode cX2_grow 57 = .ok (.aload_n 0, 1) := by decide +kernel
theorem dX2_grow_58 : decode cX2_grow 58 = .ok (.getfield 34, 3) := by decide +kernel
theorem dX2_grow_61 : decode cX2_grow 61 = .ok (.dup, 1) := by decide +kernel
theorem dX2_grow_62 : decode cX2_grow 62 = .ok (.getfield 57, 3) := by decide +kernel
theorem dX2_grow_65 : decode cX2_grow 65 = .ok (.iload_n 3, 1) := by decide +kernel
theorem dX2_grow_66 : decode cX2_grow 66 = .ok (.iload_n 2, 1) := by decide +kernel
theorem dX2_grow_67 : decode cX2_grow 67 = .ok (.isub, 1) := by decide +kernel
theorem dX2_grow_68 : decode cX2_grow 68 = .ok (.bipush 7, 2) := by decide +kernel
theorem dX2_grow_70 : decode cX2_grow 70 = .ok (.invokestatic 60, 3) := by decide +kernel
theorem dX2_grow_73 : decode cX2_grow 73 = .ok (.imul, 1) := by decide +kernel
theorem dX2_grow_74 : decode cX2_grow 74 = .ok (.iadd, 1) := by decide +kernel
theorem dX2_grow_75 : decode cX2_grow 75 = .ok (.putfield 57, 3) := by decide +kernel
theorem dX2_grow_78 : decode cX2_grow 78 = .ok (.iconst 1, 1) := by decide +kernel
theorem dX2_grow_79 : decode cX2_grow 79 = .ok (.ireturn, 1) := by decide +kernel
theorem dX3_init_0 : decode cX3_init 0 = .ok (.aload_n 0, 1) := by decide +kernel
theorem dX3_init_1 : decode cX3_init 1 = .ok (.invokespecial 1, 3) := by decide +kernel
theorem dX3_init_4 : decode cX3_init 4 = .ok (.aload_n 0, 1) := by decide +kernel
theorem dX3_init_5 : decode cX3_init 5 = .ok (.iconst 1, 1) := by decide +kernel
theorem dX3_init_6 : decode cX3_init 6 = .ok (.putfield 7, 3) := by decide +kernel
theorem dX3_init_9 : decode cX3_init 9 = .ok (.aload_n 0, 1) := by decide +kernel
theorem dX3_init_10 : decode cX3_init 10 = .ok (.bipush 8, 2) := by decide +kernel
theorem dX3_init_12 : decode cX3_init 12 = .ok (.putfield 13, 3) := by decide +kernel
theorem dX3_init_15 : decode cX3_init 15 = .ok (.aload_n 0, 1) := by decide +kernel
theorem dX3_init_16 : decode cX3_init 16 = .ok (.bipush 100, 2) := by decide +kernel
theorem dX3_init_18 : decode cX3_init 18 = .ok (.newarray .int, 2) := by decide +kernel
theorem dX3_init_20 : decode cX3_init 20 = .ok (.putfield 16, 3) := by decide +kernel
theorem dX3_init_23 : decode cX3_init 23 = .ok (.aload_n 0, 1) := by decide +kernel
theorem dX3_init_24 : decode cX3_init 24 = .ok (.bipush 100, 2) := by decide +kernel
theorem dX3_init_26 : decode cX3_init 26 = .ok (.newarray .int, 2) := by decide +kernel
theorem dX3_init_28 : decode cX3_init 28 = .ok (.putfield 20, 3) := by decide +kernel
theorem dX3_init_31 : decode cX3_init 31 = .ok (.aload_n 0, 1) := by decide +kernel
theorem dX3_init_32 : decode cX3_init 32 = .ok (.bipush 100, 2) := by decide +kernel
theorem dX3_init_34 : decode cX3_init 34 = .ok (.newarray .int, 2) := by decide +kernel
theorem dX3_init_36 : decode cX3_init 36 = .ok (.putfield 23, 3) := by decide +kernel
theorem dX3_init_39 : decode cX3_init 39 = .ok (.aload_n 0, 1) := by decide +kernel
theorem dX3_init_40 : decode cX3_init 40 = .ok (.bipush 100, 2) := by decide +kernel
theorem dX3_init_42 : decode cX3_init 42 = .ok (.newarray .int, 2) := by decide +kernel
theorem dX3_init_44 : decode cX3_init 44 = .ok (.putfield 26, 3) := by decide +kernel
theorem dX3_init_47 : decode cX3_init 47 = .ok (.aload_n 0, 1) := by decide +kernel
theorem dX3_init_48 : decode cX3_init 48 = .ok (.sipush 6400, 3) := by decide +kernel
theorem dX3_init_51 : decode cX3_init 51 = .ok (.newarray .byte, 2) := by decide +kernel
theorem dX3_init_53 : decode cX3_init 53 = .ok (.putfield 29, 3) := by decide +kernel
theorem dX3_init_56 : decode cX3_init 56 = .ok (.aload_n 0, 1) := by decide +kernel
theorem dX3_init_57 : decode cX3_init 57 = .ok (.sipush 400, 3) := by decide +kernel
theorem dX3_init_60 : decode cX3_init 60 = .ok (.newarray .boolean, 2) := by decide +kernel
theorem dX3_init_62 : decode cX3_init 62 = .ok (.putfield 33, 3) := by decide +kernel
theorem dX3_init_65 : decode cX3_init 65 = .ok (.aload_n 0, 1) := by decide +kernel
theorem dX3_init_66 : decode cX3_init 66 = .ok (.sipush 400, 3) := by decide +kernel
theorem dX3_init_69 : decode cX3_init 69 = .ok (.newarray .int, 2) := by decide +kernel
theorem dX3_init_71 : decode cX3_init 71 = .ok (.putfield 37, 3) := by decide +kernel
theorem dX3_init_74 : decode cX3_init 74 = .ok (.aload_n 0, 1) := by decide +kernel
theorem dX3_init_75 : decode cX3_init 75 = .ok (.sipush 12800, 3) := by decide +kernel
theorem dX3_init_78 : decode cX3_init 78 = .ok (.newarray .int, 2) := by decide +kernel
theorem dX3_init_80 : decode cX3_init 80 = .ok (.putfield 40, 3) := by decide +kernel
theorem dX3_init_83 : decode cX3_init 83 = .ok (.aload_n 0, 1) := by decide +kernel
theorem dX3_init_84 : decode cX3_init 84 = .ok (.sipush 400, 3) := by decide +kernel
theorem dX3_init_87 : decode cX3_init 87 = .ok (.newarray .int, 2) := by decide +kernel
theorem dX3_init_89 : decode cX3_init 89 = .ok (.putfield 43, 3) := by decide +kernel
theorem dX3_init_92 : decode cX3_init 92 = .ok (.aload_n 0, 1) := by decide +kernel
theorem dX3_init_93 : decode cX3_init 93 = .ok (.sipush 400, 3) := by decide +kernel
theorem dX3_init_96 : decode cX3_init 96 = .ok (.newarray .boolean, 2) := by decide +kernel
theorem dX3_init_98 : decode cX3_init 98 = .ok (.putfield 46, 3) := by decide +kernel
theorem dX3_init_101 : decode cX3_init 101 = .ok (.aload_n 0, 1) := by decide +kernel
theorem dX3_init_102 : decode cX3_init 102 = .ok (.sipush 400, 3) := by decide +kernel
theorem dX3_init_105 : decode cX3_init 105 = .ok (.newarray .int, 2) := by decide +kernel
theorem dX3_init_107 : decode cX3_init 107 = .ok (.putfield 49, 3) := by decide +kernel
theorem dX3_init_110 : decode cX3_init 110 = .ok (.aload_n 0, 1) := by decide +kernel
theorem dX3_init_111 : decode cX3_init 111 = .ok (.sipush 12800, 3) := by decide +kernel
theorem dX3_init_114 : decode cX3_init 114 = .ok (.newarray .long, 2) := by decide +kernel
theorem dX3_init_116 : decode cX3_init 116 = .ok (.putfield 52, 3) := by decide +kernel
theorem dX3_init_119 : decode cX3_init 119 = .ok (.aload_n 0, 1) := by decide +kernel
theorem dX3_init_120 : decode cX3_init 120 = .ok (.sipush 12800, 3) := by decide +kernel
theorem dX3_init_123 : decode cX3_init 123 = .ok (.newarray .int, 2) := by decide +kernel
theorem dX3_init_125 : decode cX3_init 125 = .ok (.putfield 56, 3) := by decide +kernel
theorem dX3_init_128 : decode cX3_init 128 = .ok (.aload_n 0, 1) := by decide +kernel
theorem dX3_init_129 : decode cX3_init 129 = .ok (.iconst 4, 1) := by decide +kernel
theorem dX3_init_130 : decode cX3_init 130 = .ok (.newarray .int, 2) := by decide +kernel
theorem dX3_init_132 : decode cX3_init 132 = .ok (.putfield 59, 3) := by decide +kernel
theorem dX3_init_135 : decode cX3_init 135 = .ok (.aload_n 0, 1) := by decide +kernel
theorem dX3_init_136 : decode cX3_init 136 = .ok (.iconst 4, 1) := by decide +kernel
theorem dX3_init_137 : decode cX3_init 137 = .ok (.newarray .int, 2) := by decide +kernel
theorem dX3_init_139 : decode cX3_init 139 = .ok (.putfield 62, 3) := by decide +kernel
theorem dX3_init_142 : decode cX3_init 142 = .ok (.return_, 1) := by decide +kernel
theorem dX3_thrown_0 : decode cX3_thrown 0 = .ok (.aload_n 0, 1) := by decide +kernel
theorem dX3_thrown_1 : decode cX3_thrown 1 = .ok (.getfield 65, 3) := by decide +kernel
theorem dX3_thrown_4 : decode cX3_thrown 4 = .ok (.ireturn, 1) := by decide +kernel
theorem dX3_isObject_0 : decode cX3_isObject 0 = .ok (.iload_n 1, 1) := by decide +kernel
theorem dX3_isObject_1 : decode cX3_isObject 1 = .ok (.ifCond .lt 15, 3) := by decide +kernel
theorem dX3_isObject_4 : decode cX3_isObject 4 = .ok (.iload_n 1, 1) := by decide +kernel
theorem dX3_isObject_5 : decode cX3_isObject 5 = .ok (.aload_n 0, 1) := by decide +kernel
theorem dX3_isObject_6 : decode cX3_isObject 6 = .ok (.getfield 7, 3) := by decide +kernel
theorem dX3_isObject_9 : decode cX3_isObject 9 = .ok (.if_icmp .ge 7, 3) := by decide +kernel
theorem dX3_isObject_12 : decode cX3_isObject 12 = .ok (.iconst 1, 1) := by decide +kernel
theorem dX3_isObject_13 : decode cX3_isObject 13 = .ok (.goto 4, 3) := by decide +kernel
theorem dX3_isObject_16 : decode cX3_isObject 16 = .ok (.iconst 0, 1) := by decide +kernel
theorem dX3_isObject_17 : decode cX3_isObject 17 = .ok (.ireturn, 1) := by decide +kernel
theorem dX3_within_0 : decode cX3_within 0 = .ok (.iload_n 0, 1) := by decide +kernel
theorem dX3_within_1 : decode cX3_within 1 = .ok (.iload_n 1, 1) := by decide +kernel
theorem dX3_within_2 : decode cX3_within 2 = .ok (.if_icmp .lt 12, 3) := by decide +kernel
theorem dX3_within_5 : decode cX3_within 5 = .ok (.iload_n 0, 1) := by decide +kernel
theorem dX3_within_6 : decode cX3_within 6 = .ok (.iload_n 2, 1) := by decide +kernel
theorem dX3_within_7 : decode cX3_within 7 = .ok (.if_icmp .gt 7, 3) := by decide +kernel
theorem dX3_within_10 : decode cX3_within 10 = .ok (.iconst 1, 1) := by decide +kernel
theorem dX3_within_11 : decode cX3_within 11 = .ok (.goto 4, 3) := by decide +kernel
theorem dX3_within_14 : decode cX3_within 14 = .ok (.iconst 0, 1) := by decide +kernel
theorem dX3_within_15 : decode cX3_within 15 = .ok (.ireturn, 1) := by decide +kernel
set_option maxRecDepth 20000 in
theorem ggX3_isView_X3_within : GoodIn wsX3_isView wsX3_within := goodIn_r _ [5] (by decide +kernel) (by decide +kernel)
set_option maxRecDepth 20000 in
theorem gX3_isView_X3_within : GoodIn wsX3_isView (va_wsS RX3 68 yX3_within wsX3_within) := goodIn_app (goodIn_of _ (by decide +kernel)) ggX3_isView_X3_within
theorem dX3_isView_0 : decode cX3_isView 0 = .ok (.aload_n 0, 1) := by decide +kernel
theorem dX3_isView_1 : decode cX3_isView 1 = .ok (.getfield 16, 3) := by decide +kernel
theorem dX3_isView_4 : decode cX3_isView 4 = .ok (.iload_n 1, 1) := by decide +kernel
theorem dX3_isView_5 : decode cX3_isView 5 = .ok (.iaload, 1) := by decide +kernel
theorem dX3_isView_6 : decode cX3_isView 6 = .ok (.iconst 4, 1) := by decide +kernel
theorem dX3_isView_7 : decode cX3_isView 7 = .ok (.bipush 6, 2) := by decide +kernel
theorem dX3_isView_9 : decode cX3_isView 9 = .ok (.invokestatic 68, 3) := by decide +kernel
theorem dX3_isView_12 : decode cX3_isView 12 = .ok (.ireturn, 1) := by decide +kernel
theorem dX3_holder_0 : decode cX3_holder 0 = .ok (.aload_n 0, 1) := by decide +kernel
theorem dX3_holder_1 : decode cX3_holder 1 = .ok (.getfield 16, 3) := by decide +kernel
theorem dX3_holder_4 : decode cX3_holder 4 = .ok (.iload_n 1, 1) := by decide +kernel
theorem dX3_holder_5 : decode cX3_holder 5 = .ok (.iaload, 1) := by decide +kernel
theorem dX3_holder_6 : decode cX3_holder 6 = .ok (.bipush 7, 2) := by decide +kernel
theorem dX3_holder_8 : decode cX3_holder 8 = .ok (.if_icmp .ne 12, 3) := by decide +kernel
theorem dX3_holder_11 : decode cX3_holder 11 = .ok (.aload_n 0, 1) := by decide +kernel
theorem dX3_holder_12 : decode cX3_holder 12 = .ok (.getfield 20, 3) := by decide +kernel
theorem dX3_holder_15 : decode cX3_holder 15 = .ok (.iload_n 1, 1) := by decide +kernel
theorem dX3_holder_16 : decode cX3_holder 16 = .ok (.iaload, 1) := by decide +kernel
theorem dX3_holder_17 : decode cX3_holder 17 = .ok (.goto 4, 3) := by decide +kernel
theorem dX3_holder_20 : decode cX3_holder 20 = .ok (.iload_n 1, 1) := by decide +kernel
theorem dX3_holder_21 : decode cX3_holder 21 = .ok (.ireturn, 1) := by decide +kernel
set_option maxRecDepth 20000 in
theorem ggX3_hasAccess_X3_within : GoodIn wsX3_hasAccess wsX3_within := goodIn_r _ [5] (by decide +kernel) (by decide +kernel)
set_option maxRecDepth 20000 in
theorem gX3_hasAccess_X3_within : GoodIn wsX3_hasAccess (va_wsS RX3 68 yX3_within wsX3_within) := goodIn_app (goodIn_of _ (by decide +kernel)) ggX3_hasAccess_X3_within
theorem dX3_hasAccess_0 : decode cX3_hasAccess 0 = .ok (.aload_n 0, 1) := by decide +kernel
theorem dX3_hasAccess_1 : decode cX3_hasAccess 1 = .ok (.getfield 16, 3) := by decide +kernel
theorem dX3_hasAccess_4 : decode cX3_hasAccess 4 = .ok (.iload_n 1, 1) := by decide +kernel
theorem dX3_hasAccess_5 : decode cX3_hasAccess 5 = .ok (.iaload, 1) := by decide +kernel
theorem dX3_hasAccess_6 : decode cX3_hasAccess 6 = .ok (.iconst 4, 1) := by decide +kernel
theorem dX3_hasAccess_7 : decode cX3_hasAccess 7 = .ok (.bipush 7, 2) := by decide +kernel
theorem dX3_hasAccess_9 : decode cX3_hasAccess 9 = .ok (.invokestatic 68, 3) := by decide +kernel
theorem dX3_hasAccess_12 : decode cX3_hasAccess 12 = .ok (.ifCond .ne 14, 3) := by decide +kernel
theorem dX3_hasAccess_15 : decode cX3_hasAccess 15 = .ok (.aload_n 0, 1) := by decide +kernel
theorem dX3_hasAccess_16 : decode cX3_hasAccess 16 = .ok (.getfield 16, 3) := by decide +kernel
theorem dX3_hasAccess_19 : decode cX3_hasAccess 19 = .ok (.iload_n 1, 1) := by decide +kernel
theorem dX3_hasAccess_20 : decode cX3_hasAccess 20 = .ok (.iaload, 1) := by decide +kernel
theorem dX3_hasAccess_21 : decode cX3_hasAccess 21 = .ok (.bipush 9, 2) := by decide +kernel
theorem dX3_hasAccess_23 : decode cX3_hasAccess 23 = .ok (.if_icmp .ne 7, 3) := by decide +kernel
theorem dX3_hasAccess_26 : decode cX3_hasAccess 26 = .ok (.iconst 1, 1) := by decide +kernel
theorem dX3_hasAccess_27 : decode cX3_hasAccess 27 = .ok (.goto 4, 3) := by decide +kernel
theorem dX3_hasAccess_30 : decode cX3_hasAccess 30 = .ok (.iconst 0, 1) := by decide +kernel
theorem dX3_hasAccess_31 : decode cX3_hasAccess 31 = .ok (.ireturn, 1) := by decide +kernel
set_option maxRecDepth 20000 in
theorem ggX3_accessOf_X3_holder : GoodIn wsX3_accessOf wsX3_holder := goodIn_r _ [6, 7, 8, 9, 10, 11, 12, 13, 14, 15, 16, 17, 18, 19, 20, 21, 22, 23, 24, 25, 26, 27] (by decide +kernel) (by decide +kernel)
set_option maxRecDepth 20000 in
theorem gX3_accessOf_X3_holder : GoodIn wsX3_accessOf (wsV RX3 72 RX3 yX3_holder wsX3_holder) := goodIn_app (goodIn_of _ (by decide +kernel)) ggX3_accessOf_X3_holder
theorem dX3_accessOf_0 : decode cX3_accessOf 0 = .ok (.aload_n 0, 1) := by decide +kernel
theorem dX3_accessOf_1 : decode cX3_accessOf 1 = .ok (.getfield 37, 3) := by decide +kernel
theorem dX3_accessOf_4 : decode cX3_accessOf 4 = .ok (.aload_n 0, 1) := by decide +kernel
theorem dX3_accessOf_5 : decode cX3_accessOf 5 = .ok (.iload_n 1, 1) := by decide +kernel
theorem dX3_accessOf_6 : decode cX3_accessOf 6 = .ok (.invokevirtual 72, 3) := by decide +kernel
theorem dX3_accessOf_9 : decode cX3_accessOf 9 = .ok (.iaload, 1) := by decide +kernel
theorem dX3_accessOf_10 : decode cX3_accessOf 10 = .ok (.ireturn, 1) := by decide +kernel
set_option maxRecDepth 20000 in
theorem ggX3_isSize_X3_within : GoodIn wsX3_isSize wsX3_within := goodIn_r _ [5] (by decide +kernel) (by decide +kernel)
set_option maxRecDepth 20000 in
theorem gX3_isSize_X3_within : GoodIn wsX3_isSize (va_wsS RX3 68 yX3_within wsX3_within) := goodIn_app (goodIn_of _ (by decide +kernel)) ggX3_isSize_X3_within
theorem dX3_isSize_0 : decode cX3_isSize 0 = .ok (.iload_n 1, 1) := by decide +kernel
theorem dX3_isSize_1 : decode cX3_isSize 1 = .ok (.tableswitch 95 2 7 #[39, 46, 55, 63, 71, 63], 39) := by decide +kernel
theorem dX3_isSize_40 : decode cX3_isSize 40 = .ok (.iload_n 2, 1) := by decide +kernel
theorem dX3_isSize_41 : decode cX3_isSize 41 = .ok (.iconst 0, 1) := by decide +kernel
theorem dX3_isSize_42 : decode cX3_isSize 42 = .ok (.iconst 1, 1) := by decide +kernel
theorem dX3_isSize_43 : decode cX3_isSize 43 = .ok (.invokestatic 68, 3) := by decide +kernel
theorem dX3_isSize_46 : decode cX3_isSize 46 = .ok (.ireturn, 1) := by decide +kernel
theorem dX3_isSize_47 : decode cX3_isSize 47 = .ok (.iload_n 2, 1) := by decide +kernel
theorem dX3_isSize_48 : decode cX3_isSize 48 = .ok (.iconst 0, 1) := by decide +kernel
theorem dX3_isSize_49 : decode cX3_isSize 49 = .ok (.sipush 999, 3) := by decide +kernel
theorem dX3_isSize_52 : decode cX3_isSize 52 = .ok (.invokestatic 68, 3) := by decide +kernel
theorem dX3_isSize_55 : decode cX3_isSize 55 = .ok (.ireturn, 1) := by decide +kernel
theorem dX3_isSize_56 : decode cX3_isSize 56 = .ok (.iload_n 2, 1) := by decide +kernel
theorem dX3_isSize_57 : decode cX3_isSize 57 = .ok (.iconst 0, 1) := by decide +kernel
theorem dX3_isSize_58 : decode cX3_isSize 58 = .ok (.bipush 64, 2) := by decide +kernel
theorem dX3_isSize_60 : decode cX3_isSize 60 = .ok (.invokestatic 68, 3) := by decide +kernel
theorem dX3_isSize_63 : decode cX3_isSize 63 = .ok (.ireturn, 1) := by decide +kernel
theorem dX3_isSize_64 : decode cX3_isSize 64 = .ok (.iload_n 2, 1) := by decide +kernel
theorem dX3_isSize_65 : decode cX3_isSize 65 = .ok (.iconst 0, 1) := by decide +kernel
theorem dX3_isSize_66 : decode cX3_isSize 66 = .ok (.bipush 32, 2) := by decide +kernel
theorem dX3_isSize_68 : decode cX3_isSize 68 = .ok (.invokestatic 68, 3) := by decide +kernel
theorem dX3_isSize_71 : decode cX3_isSize 71 = .ok (.ireturn, 1) := by decide +kernel
theorem dX3_isSize_72 : decode cX3_isSize 72 = .ok (.iload_n 2, 1) := by decide +kernel
theorem dX3_isSize_73 : decode cX3_isSize 73 = .ok (.iconst 0, 1) := by decide +kernel
theorem dX3_isSize_74 : decode cX3_isSize 74 = .ok (.bipush 32, 2) := by decide +kernel
theorem dX3_isSize_76 : decode cX3_isSize 76 = .ok (.invokestatic 68, 3) := by decide +kernel
theorem dX3_isSize_79 : decode cX3_isSize 79 = .ok (.ifCond .eq 15, 3) := by decide +kernel
theorem dX3_isSize_82 : decode cX3_isSize 82 = .ok (.iload_n 2, 1) := by decide +kernel
theorem dX3_isSize_83 : decode cX3_isSize 83 = .ok (.aload_n 0, 1) := by decide +kernel
theorem dX3_isSize_84 : decode cX3_isSize 84 = .ok (.getfield 7, 3) := by decide +kernel
theorem dX3_isSize_87 : decode cX3_isSize 87 = .ok (.if_icmp .gt 7, 3) := by decide +kernel
theorem dX3_isSize_90 : decode cX3_isSize 90 = .ok (.iconst 1, 1) := by decide +kernel
theorem dX3_isSize_91 : decode cX3_isSize 91 = .ok (.goto 4, 3) := by decide +kernel
theorem dX3_isSize_94 : decode cX3_isSize 94 = .ok (.iconst 0, 1) := by decide +kernel
theorem dX3_isSize_95 : decode cX3_isSize 95 = .ok (.ireturn, 1) := by decide +kernel
theorem dX3_isSize_96 : decode cX3_isSize 96 = .ok (.iconst 1, 1) := by decide +kernel
theorem dX3_isSize_97 : decode cX3_isSize 97 = .ok (.ireturn, 1) := by decide +kernel
theorem dX3_blank_0 : decode cX3_blank 0 = .ok (.aload_n 0, 1) := by decide +kernel
theorem dX3_blank_1 : decode cX3_blank 1 = .ok (.getfield 16, 3) := by decide +kernel
theorem dX3_blank_4 : decode cX3_blank 4 = .ok (.iload_n 1, 1) := by decide +kernel
theorem dX3_blank_5 : decode cX3_blank 5 = .ok (.iload_n 2, 1) := by decide +kernel
theorem dX3_blank_6 : decode cX3_blank 6 = .ok (.iastore, 1) := by decide +kernel
theorem dX3_blank_7 : decode cX3_blank 7 = .ok (.aload_n 0, 1) := by decide +kernel
theorem dX3_blank_8 : decode cX3_blank 8 = .ok (.getfield 20, 3) := by decide +kernel
theorem dX3_blank_11 : decode cX3_blank 11 = .ok (.iload_n 1, 1) := by decide +kernel
theorem dX3_blank_12 : decode cX3_blank 12 = .ok (.iconst 0, 1) := by decide +kernel
theorem dX3_blank_13 : decode cX3_blank 13 = .ok (.iastore, 1) := by decide +kernel
theorem dX3_blank_14 : decode cX3_blank 14 = .ok (.aload_n 0, 1) := by decide +kernel
theorem dX3_blank_15 : decode cX3_blank 15 = .ok (.getfield 23, 3) := by decide +kernel
theorem dX3_blank_18 : decode cX3_blank 18 = .ok (.iload_n 1, 1) := by decide +kernel
theorem dX3_blank_19 : decode cX3_blank 19 = .ok (.iconst 0, 1) := by decide +kernel
theorem dX3_blank_20 : decode cX3_blank 20 = .ok (.iastore, 1) := by decide +kernel
theorem dX3_blank_21 : decode cX3_blank 21 = .ok (.aload_n 0, 1) := by decide +kernel
theorem dX3_blank_22 : decode cX3_blank 22 = .ok (.getfield 26, 3) := by decide +kernel
theorem dX3_blank_25 : decode cX3_blank 25 = .ok (.iload_n 1, 1) := by decide +kernel
theorem dX3_blank_26 : decode cX3_blank 26 = .ok (.iconst 0, 1) := by decide +kernel
theorem dX3_blank_27 : decode cX3_blank 27 = .ok (.iastore, 1) := by decide +kernel
theorem dX3_blank_28 : decode cX3_blank 28 = .ok (.aload_n 0, 1) := by decide +kernel
theorem dX3_blank_29 : decode cX3_blank 29 = .ok (.getfield 33, 3) := by decide +kernel
theorem dX3_blank_32 : decode cX3_blank 32 = .ok (.iload_n 1, 1) := by decide +kernel
theorem dX3_blank_33 : decode cX3_blank 33 = .ok (.iconst 0, 1) := by decide +kernel
theorem dX3_blank_34 : decode cX3_blank 34 = .ok (.bastore, 1) := by decide +kernel
theorem dX3_blank_35 : decode cX3_blank 35 = .ok (.aload_n 0, 1) := by decide +kernel
theorem dX3_blank_36 : decode cX3_blank 36 = .ok (.getfield 37, 3) := by decide +kernel
theorem dX3_blank_39 : decode cX3_blank 39 = .ok (.iload_n 1, 1) := by decide +kernel
theorem dX3_blank_40 : decode cX3_blank 40 = .ok (.iload_n 2, 1) := by decide +kernel
theorem dX3_blank_41 : decode cX3_blank 41 = .ok (.bipush 6, 2) := by decide +kernel
theorem dX3_blank_43 : decode cX3_blank 43 = .ok (.if_icmp .ne 7, 3) := by decide +kernel
theorem dX3_blank_46 : decode cX3_blank 46 = .ok (.iconst 2, 1) := by decide +kernel
theorem dX3_blank_47 : decode cX3_blank 47 = .ok (.goto 4, 3) := by decide +kernel
theorem dX3_blank_50 : decode cX3_blank 50 = .ok (.iconst 3, 1) := by decide +kernel
theorem dX3_blank_51 : decode cX3_blank 51 = .ok (.iastore, 1) := by decide +kernel
theorem dX3_blank_52 : decode cX3_blank 52 = .ok (.return_, 1) := by decide +kernel
set_option maxRecDepth 20000 in
theorem ggX3_make_X3_within : GoodIn wsX3_make wsX3_within := goodIn_r _ [17] (by decide +kernel) (by decide +kernel)
set_option maxRecDepth 20000 in
theorem gX3_make_X3_within : GoodIn wsX3_make (va_wsS RX3 68 yX3_within wsX3_within) := goodIn_app (goodIn_of _ (by decide +kernel)) ggX3_make_X3_within
set_option maxRecDepth 20000 in
theorem ggX3_make_X3_isSize : GoodIn wsX3_make wsX3_isSize := goodIn_r _ [21, 2, 14, 15, 16, 17, 36, 37, 38, 39, 40, 41, 42, 43, 44, 45, 46, 47, 48, 49, 50, 51, 52, 53, 54] (by decide +kernel) (by decide +kernel)
set_option maxRecDepth 20000 in
theorem gX3_make_X3_isSize : GoodIn wsX3_make (wsV RX3 76 RX3 yX3_isSize wsX3_isSize) := goodIn_app (goodIn_of _ (by decide +kernel)) ggX3_make_X3_isSize
set_option maxRecDepth 20000 in
theorem ggX3_make_X3_copy : GoodIn wsX3_make wsX3_copy := goodIn_r _ [25, 26, 27, 11, 12, 13, 10, 28, 29, 36, 37, 38, 39, 40, 41, 42, 43, 44, 45, 46, 47, 48, 49, 50, 51, 52, 53, 54] (by decide +kernel) (by decide +kernel)
set_option maxRecDepth 20000 in
theorem gX3_make_X3_copy : GoodIn wsX3_make (wsV RX3 83 RX3 yX3_copy wsX3_copy) := goodIn_app (goodIn_of _ (by decide +kernel)) ggX3_make_X3_copy
set_option maxRecDepth 20000 in
theorem ggX3_make_X3_blank : GoodIn wsX3_make wsX3_blank := goodIn_r _ [33, 34, 7, 35, 8, 26, 27, 36, 37, 38, 39, 40, 41, 42, 43, 44, 45, 46, 47, 48, 49, 50, 51, 52, 53, 54] (by decide +kernel) (by decide +kernel)
set_option maxRecDepth 20000 in
theorem gX3_make_X3_blank : GoodIn wsX3_make (wsV RX3 87 RX3 yX3_blank wsX3_blank) := goodIn_app (goodIn_of _ (by decide +kernel)) ggX3_make_X3_blank
theorem dX3_make_0 : decode cX3_make 0 = .ok (.aload_n 0, 1) := by decide +kernel
theorem dX3_make_1 : decode cX3_make 1 = .ok (.iconst 0, 1) := by decide +kernel
theorem dX3_make_2 : decode cX3_make 2 = .ok (.putfield 65, 3) := by decide +kernel
theorem dX3_make_5 : decode cX3_make 5 = .ok (.iload_n 1, 1) := by decide +kernel
theorem dX3_make_6 : decode cX3_make 6 = .ok (.iconst 0, 1) := by decide +kernel
theorem dX3_make_7 : decode cX3_make 7 = .ok (.bipush 11, 2) := by decide +kernel
theorem dX3_make_9 : decode cX3_make 9 = .ok (.invokestatic 68, 3) := by decide +kernel
theorem dX3_make_12 : decode cX3_make 12 = .ok (.ifCond .ne 5, 3) := by decide +kernel
theorem dX3_make_15 : decode cX3_make 15 = .ok (.iconst (-1), 1) := by decide +kernel
theorem dX3_make_16 : decode cX3_make 16 = .ok (.ireturn, 1) := by decide +kernel
theorem dX3_make_17 : decode cX3_make 17 = .ok (.aload_n 0, 1) := by decide +kernel
theorem dX3_make_18 : decode cX3_make 18 = .ok (.iload_n 1, 1) := by decide +kernel
theorem dX3_make_19 : decode cX3_make 19 = .ok (.iload_n 2, 1) := by decide +kernel
theorem dX3_make_20 : decode cX3_make 20 = .ok (.invokevirtual 76, 3) := by decide +kernel
theorem dX3_make_23 : decode cX3_make 23 = .ok (.ifCond .ne 6, 3) := by decide +kernel
theorem dX3_make_26 : decode cX3_make 26 = .ok (.bipush (-2), 2) := by decide +kernel
theorem dX3_make_28 : decode cX3_make 28 = .ok (.ireturn, 1) := by decide +kernel
theorem dX3_make_29 : decode cX3_make 29 = .ok (.aload_n 0, 1) := by decide +kernel
theorem dX3_make_30 : decode cX3_make 30 = .ok (.getfield 7, 3) := by decide +kernel
theorem dX3_make_33 : decode cX3_make 33 = .ok (.bipush 100, 2) := by decide +kernel
theorem dX3_make_35 : decode cX3_make 35 = .ok (.if_icmp .eq 17, 3) := by decide +kernel
theorem dX3_make_38 : decode cX3_make 38 = .ok (.iload_n 1, 1) := by decide +kernel
theorem dX3_make_39 : decode cX3_make 39 = .ok (.bipush 11, 2) := by decide +kernel
theorem dX3_make_41 : decode cX3_make 41 = .ok (.if_icmp .ne 14, 3) := by decide +kernel
theorem dX3_make_44 : decode cX3_make 44 = .ok (.aload_n 0, 1) := by decide +kernel
theorem dX3_make_45 : decode cX3_make 45 = .ok (.getfield 80, 3) := by decide +kernel
theorem dX3_make_48 : decode cX3_make 48 = .ok (.iconst 3, 1) := by decide +kernel
theorem dX3_make_49 : decode cX3_make 49 = .ok (.if_icmp .ne 6, 3) := by decide +kernel
theorem dX3_make_52 : decode cX3_make 52 = .ok (.bipush (-4), 2) := by decide +kernel
theorem dX3_make_54 : decode cX3_make 54 = .ok (.ireturn, 1) := by decide +kernel
theorem dX3_make_55 : decode cX3_make 55 = .ok (.iload_n 1, 1) := by decide +kernel
theorem dX3_make_56 : decode cX3_make 56 = .ok (.bipush 11, 2) := by decide +kernel
theorem dX3_make_58 : decode cX3_make 58 = .ok (.if_icmp .ne 48, 3) := by decide +kernel
theorem dX3_make_61 : decode cX3_make 61 = .ok (.aload_n 0, 1) := by decide +kernel
theorem dX3_make_62 : decode cX3_make 62 = .ok (.dup, 1) := by decide +kernel
theorem dX3_make_63 : decode cX3_make 63 = .ok (.getfield 80, 3) := by decide +kernel
theorem dX3_make_66 : decode cX3_make 66 = .ok (.iconst 1, 1) := by decide +kernel
theorem dX3_make_67 : decode cX3_make 67 = .ok (.iadd, 1) := by decide +kernel
theorem dX3_make_68 : decode cX3_make 68 = .ok (.putfield 80, 3) := by decide +kernel
theorem dX3_make_71 : decode cX3_make 71 = .ok (.aload_n 0, 1) := by decide +kernel
theorem dX3_make_72 : decode cX3_make 72 = .ok (.getfield 59, 3) := by decide +kernel
theorem dX3_make_75 : decode cX3_make 75 = .ok (.aload_n 0, 1) := by decide +kernel
theorem dX3_make_76 : decode cX3_make 76 = .ok (.getfield 80, 3) := by decide +kernel
theorem dX3_make_79 : decode cX3_make 79 = .ok (.aload_n 0, 1) := by decide +kernel
theorem dX3_make_80 : decode cX3_make 80 = .ok (.getfield 7, 3) := by decide +kernel
theorem dX3_make_83 : decode cX3_make 83 = .ok (.iastore, 1) := by decide +kernel
theorem dX3_make_84 : decode cX3_make 84 = .ok (.aload_n 0, 1) := by decide +kernel
theorem dX3_make_85 : decode cX3_make 85 = .ok (.getfield 62, 3) := by decide +kernel
theorem dX3_make_88 : decode cX3_make 88 = .ok (.aload_n 0, 1) := by decide +kernel
theorem dX3_make_89 : decode cX3_make 89 = .ok (.getfield 80, 3) := by decide +kernel
theorem dX3_make_92 : decode cX3_make 92 = .ok (.aload_n 0, 1) := by decide +kernel
theorem dX3_make_93 : decode cX3_make 93 = .ok (.getfield 13, 3) := by decide +kernel
theorem dX3_make_96 : decode cX3_make 96 = .ok (.iastore, 1) := by decide +kernel
theorem dX3_make_97 : decode cX3_make 97 = .ok (.aload_n 0, 1) := by decide +kernel
theorem dX3_make_98 : decode cX3_make 98 = .ok (.iconst 0, 1) := by decide +kernel
theorem dX3_make_99 : decode cX3_make 99 = .ok (.aload_n 0, 1) := by decide +kernel
theorem dX3_make_100 : decode cX3_make 100 = .ok (.getfield 80, 3) := by decide +kernel
theorem dX3_make_103 : decode cX3_make 103 = .ok (.invokevirtual 83, 3) := by decide +kernel
theorem dX3_make_106 : decode cX3_make 106 = .ok (.aload_n 0, 1) := by decide +kernel
theorem dX3_make_107 : decode cX3_make 107 = .ok (.getfield 7, 3) := by decide +kernel
theorem dX3_make_110 : decode cX3_make 110 = .ok (.istore_n 3, 1) := by decide +kernel
theorem dX3_make_111 : decode cX3_make 111 = .ok (.aload_n 0, 1) := by decide +kernel
theorem dX3_make_112 : decode cX3_make 112 = .ok (.iload_n 3, 1) := by decide +kernel
theorem dX3_make_113 : decode cX3_make 113 = .ok (.iload_n 1, 1) := by decide +kernel
theorem dX3_make_114 : decode cX3_make 114 = .ok (.invokevirtual 87, 3) := by decide +kernel
theorem dX3_make_117 : decode cX3_make 117 = .ok (.iload_n 1, 1) := by decide +kernel
theorem dX3_make_118 : decode cX3_make 118 = .ok (.iconst 1, 1) := by decide +kernel
theorem dX3_make_119 : decode cX3_make 119 = .ok (.iconst 3, 1) := by decide +kernel
theorem dX3_make_120 : decode cX3_make 120 = .ok (.invokestatic 68, 3) := by decide +kernel
theorem dX3_make_123 : decode cX3_make 123 = .ok (.ifCond .ne 15, 3) := by decide +kernel
theorem dX3_make_126 : decode cX3_make 126 = .ok (.iload_n 1, 1) := by decide +kernel
theorem dX3_make_127 : decode cX3_make 127 = .ok (.bipush 9, 2) := by decide +kernel
theorem dX3_make_129 : decode cX3_make 129 = .ok (.if_icmp .eq 9, 3) := by decide +kernel
theorem dX3_make_132 : decode cX3_make 132 = .ok (.iload_n 1, 1) := by decide +kernel
theorem dX3_make_133 : decode cX3_make 133 = .ok (.bipush 10, 2) := by decide +kernel
theorem dX3_make_135 : decode cX3_make 135 = .ok (.if_icmp .ne 7, 3) := by decide +kernel
theorem dX3_make_138 : decode cX3_make 138 = .ok (.iconst 1, 1) := by decide +kernel
theorem dX3_make_139 : decode cX3_make 139 = .ok (.goto 4, 3) := by decide +kernel
theorem dX3_make_142 : decode cX3_make 142 = .ok (.iconst 0, 1) := by decide +kernel
theorem dX3_make_143 : decode cX3_make 143 = .ok (.istore 4, 2) := by decide +kernel
theorem dX3_make_145 : decode cX3_make 145 = .ok (.aload_n 0, 1) := by decide +kernel
theorem dX3_make_146 : decode cX3_make 146 = .ok (.getfield 20, 3) := by decide +kernel
theorem dX3_make_149 : decode cX3_make 149 = .ok (.iload_n 3, 1) := by decide +kernel
theorem dX3_make_150 : decode cX3_make 150 = .ok (.iload 4, 2) := by decide +kernel
theorem dX3_make_152 : decode cX3_make 152 = .ok (.ifCond .eq 7, 3) := by decide +kernel
theorem dX3_make_155 : decode cX3_make 155 = .ok (.iload_n 2, 1) := by decide +kernel
theorem dX3_make_156 : decode cX3_make 156 = .ok (.goto 4, 3) := by decide +kernel
theorem dX3_make_159 : decode cX3_make 159 = .ok (.iload_n 3, 1) := by decide +kernel
theorem dX3_make_160 : decode cX3_make 160 = .ok (.iastore, 1) := by decide +kernel
theorem dX3_make_161 : decode cX3_make 161 = .ok (.aload_n 0, 1) := by decide +kernel
theorem dX3_make_162 : decode cX3_make 162 = .ok (.getfield 26, 3) := by decide +kernel
theorem dX3_make_165 : decode cX3_make 165 = .ok (.iload_n 3, 1) := by decide +kernel
theorem dX3_make_166 : decode cX3_make 166 = .ok (.iload_n 1, 1) := by decide +kernel
theorem dX3_make_167 : decode cX3_make 167 = .ok (.iconst 4, 1) := by decide +kernel
theorem dX3_make_168 : decode cX3_make 168 = .ok (.bipush 6, 2) := by decide +kernel
theorem dX3_make_170 : decode cX3_make 170 = .ok (.invokestatic 68, 3) := by decide +kernel
theorem dX3_make_173 : decode cX3_make 173 = .ok (.ifCond .eq 7, 3) := by decide +kernel
theorem dX3_make_176 : decode cX3_make 176 = .ok (.iload_n 2, 1) := by decide +kernel
theorem dX3_make_177 : decode cX3_make 177 = .ok (.goto 4, 3) := by decide +kernel
theorem dX3_make_180 : decode cX3_make 180 = .ok (.iconst 0, 1) := by decide +kernel
theorem dX3_make_181 : decode cX3_make 181 = .ok (.iastore, 1) := by decide +kernel
theorem dX3_make_182 : decode cX3_make 182 = .ok (.iconst 0, 1) := by decide +kernel
theorem dX3_make_183 : decode cX3_make 183 = .ok (.istore 5, 2) := by decide +kernel
theorem dX3_make_185 : decode cX3_make 185 = .ok (.iload 5, 2) := by decide +kernel
theorem dX3_make_187 : decode cX3_make 187 = .ok (.bipush 64, 2) := by decide +kernel
theorem dX3_make_189 : decode cX3_make 189 = .ok (.if_icmp .ge 22, 3) := by decide +kernel
theorem dX3_make_192 : decode cX3_make 192 = .ok (.aload_n 0, 1) := by decide +kernel
theorem dX3_make_193 : decode cX3_make 193 = .ok (.getfield 29, 3) := by decide +kernel
theorem dX3_make_196 : decode cX3_make 196 = .ok (.bipush 64, 2) := by decide +kernel
theorem dX3_make_198 : decode cX3_make 198 = .ok (.iload_n 3, 1) := by decide +kernel
theorem dX3_make_199 : decode cX3_make 199 = .ok (.imul, 1) := by decide +kernel
theorem dX3_make_200 : decode cX3_make 200 = .ok (.iload 5, 2) := by decide +kernel
theorem dX3_make_202 : decode cX3_make 202 = .ok (.iadd, 1) := by decide +kernel
theorem dX3_make_203 : decode cX3_make 203 = .ok (.iconst 0, 1) := by decide +kernel
theorem dX3_make_204 : decode cX3_make 204 = .ok (.bastore, 1) := by decide +kernel
theorem dX3_make_205 : decode cX3_make 205 = .ok (.iinc 5 1, 3) := by decide +kernel
theorem dX3_make_208 : decode cX3_make 208 = .ok (.goto (-23), 3) := by decide +kernel
theorem dX3_make_211 : decode cX3_make 211 = .ok (.iconst 0, 1) := by decide +kernel
theorem dX3_make_212 : decode cX3_make 212 = .ok (.istore 5, 2) := by decide +kernel
theorem dX3_make_214 : decode cX3_make 214 = .ok (.iload 5, 2) := by decide +kernel
theorem dX3_make_216 : decode cX3_make 216 = .ok (.bipush 32, 2) := by decide +kernel
theorem dX3_make_218 : decode cX3_make 218 = .ok (.if_icmp .ge 43, 3) := by decide +kernel
theorem dX3_make_221 : decode cX3_make 221 = .ok (.aload_n 0, 1) := by decide +kernel
theorem dX3_make_222 : decode cX3_make 222 = .ok (.getfield 40, 3) := by decide +kernel
theorem dX3_make_225 : decode cX3_make 225 = .ok (.bipush 32, 2) := by decide +kernel
theorem dX3_make_227 : decode cX3_make 227 = .ok (.iload_n 3, 1) := by decide +kernel
theorem dX3_make_228 : decode cX3_make 228 = .ok (.imul, 1) := by decide +kernel
theorem dX3_make_229 : decode cX3_make 229 = .ok (.iload 5, 2) := by decide +kernel
theorem dX3_make_231 : decode cX3_make 231 = .ok (.iadd, 1) := by decide +kernel
theorem dX3_make_232 : decode cX3_make 232 = .ok (.iload_n 1, 1) := by decide +kernel
theorem dX3_make_233 : decode cX3_make 233 = .ok (.bipush 6, 2) := by decide +kernel
theorem dX3_make_235 : decode cX3_make 235 = .ok (.if_icmp .ne 18, 3) := by decide +kernel
theorem dX3_make_238 : decode cX3_make 238 = .ok (.iload 5, 2) := by decide +kernel
theorem dX3_make_240 : decode cX3_make 240 = .ok (.iload_n 2, 1) := by decide +kernel
theorem dX3_make_241 : decode cX3_make 241 = .ok (.if_icmp .ge 12, 3) := by decide +kernel
theorem dX3_make_244 : decode cX3_make 244 = .ok (.iload_n 3, 1) := by decide +kernel
theorem dX3_make_245 : decode cX3_make 245 = .ok (.iload_n 2, 1) := by decide +kernel
