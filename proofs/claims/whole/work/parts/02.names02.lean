theorem dX2_makePacked_42 : decode cX2_makePacked 42 = .ok (.iadd, 1) := by decide +kernel
theorem dX2_makePacked_43 : decode cX2_makePacked 43 = .ok (.invokevirtual 100, 3) := by decide +kernel
theorem dX2_makePacked_46 : decode cX2_makePacked 46 = .ok (.iinc 4 1, 3) := by decide +kernel
theorem dX2_makePacked_49 : decode cX2_makePacked 49 = .ok (.goto (-27), 3) := by decide +kernel
theorem dX2_makePacked_52 : decode cX2_makePacked 52 = .ok (.aload_n 0, 1) := by decide +kernel
theorem dX2_makePacked_53 : decode cX2_makePacked 53 = .ok (.bipush 6, 2) := by decide +kernel
theorem dX2_makePacked_55 : decode cX2_makePacked 55 = .ok (.iconst 0, 1) := by decide +kernel
theorem dX2_makePacked_56 : decode cX2_makePacked 56 = .ok (.iload_n 3, 1) := by decide +kernel
theorem dX2_makePacked_57 : decode cX2_makePacked 57 = .ok (.iload_n 1, 1) := by decide +kernel
theorem dX2_makePacked_58 : decode cX2_makePacked 58 = .ok (.invokevirtual 42, 3) := by decide +kernel
theorem dX2_makePacked_61 : decode cX2_makePacked 61 = .ok (.ireturn, 1) := by decide +kernel
set_option maxRecDepth 20000 in
theorem ggX2_makeDictionary_X1_addZeros : GoodIn wsX2_makeDictionary wsX1_addZeros := goodIn_r _ [8, 9, 10, 11, 12, 7, 13, 14, 15, 16, 17, 18, 19, 20, 21, 22, 23, 24, 25, 26, 27, 28, 29, 30, 31, 32, 33, 34, 35, 36, 37, 38, 39, 40, 89, 90] (by decide +kernel) (by decide +kernel)
set_option maxRecDepth 20000 in
theorem gX2_makeDictionary_X1_addZeros : GoodIn wsX2_makeDictionary (wsV RX2 64 RX1 yX1_addZeros wsX1_addZeros) := goodIn_app (goodIn_of _ (by decide +kernel)) ggX2_makeDictionary_X1_addZeros
set_option maxRecDepth 20000 in
theorem ggX2_makeDictionary_X2_addObject : GoodIn wsX2_makeDictionary wsX2_addObject := goodIn_r _ [45, 46, 47, 48, 49, 50, 51, 1, 52, 53, 54, 55, 7, 56, 9, 10, 11, 12, 13, 14, 15, 16, 17, 18, 19, 20, 21, 22, 23, 24, 25, 26, 27, 28, 29, 30, 31, 32, 33, 34, 35, 36, 37, 38, 39, 40, 57, 58, 44, 59, 60, 61, 62, 63, 64, 65, 66, 67, 68, 69, 70, 72, 73, 74, 75, 76, 77, 78, 79, 80, 81, 82, 83, 84, 85, 86, 87, 88, 89, 90] (by decide +kernel) (by decide +kernel)
set_option maxRecDepth 20000 in
theorem gX2_makeDictionary_X2_addObject : GoodIn wsX2_makeDictionary (wsV RX2 42 RX2 yX2_addObject wsX2_addObject) := goodIn_app (goodIn_of _ (by decide +kernel)) ggX2_makeDictionary_X2_addObject
set_option maxRecDepth 20000 in
theorem ggX2_makeDictionary_X1_set : GoodIn wsX2_makeDictionary wsX1_set := goodIn_r _ [40, 14, 89, 90] (by decide +kernel) (by decide +kernel)
set_option maxRecDepth 20000 in
theorem gX2_makeDictionary_X1_set : GoodIn wsX2_makeDictionary (wsV RX2 100 RX1 yX1_set wsX1_set) := goodIn_app (goodIn_of _ (by decide +kernel)) ggX2_makeDictionary_X1_set
theorem dX2_makeDictionary_0 : decode cX2_makeDictionary 0 = .ok (.aload_n 0, 1) := by decide +kernel
theorem dX2_makeDictionary_1 : decode cX2_makeDictionary 1 = .ok (.bipush 7, 2) := by decide +kernel
theorem dX2_makeDictionary_3 : decode cX2_makeDictionary 3 = .ok (.iconst 0, 1) := by decide +kernel
theorem dX2_makeDictionary_4 : decode cX2_makeDictionary 4 = .ok (.aload_n 0, 1) := by decide +kernel
theorem dX2_makeDictionary_5 : decode cX2_makeDictionary 5 = .ok (.getfield 34, 3) := by decide +kernel
theorem dX2_makeDictionary_8 : decode cX2_makeDictionary 8 = .ok (.getfield 67, 3) := by decide +kernel
theorem dX2_makeDictionary_11 : decode cX2_makeDictionary 11 = .ok (.bipush 64, 2) := by decide +kernel
theorem dX2_makeDictionary_13 : decode cX2_makeDictionary 13 = .ok (.invokevirtual 64, 3) := by decide +kernel
theorem dX2_makeDictionary_16 : decode cX2_makeDictionary 16 = .ok (.iconst 0, 1) := by decide +kernel
theorem dX2_makeDictionary_17 : decode cX2_makeDictionary 17 = .ok (.invokevirtual 42, 3) := by decide +kernel
theorem dX2_makeDictionary_20 : decode cX2_makeDictionary 20 = .ok (.istore_n 2, 1) := by decide +kernel
theorem dX2_makeDictionary_21 : decode cX2_makeDictionary 21 = .ok (.aload_n 0, 1) := by decide +kernel
theorem dX2_makeDictionary_22 : decode cX2_makeDictionary 22 = .ok (.getfield 34, 3) := by decide +kernel
theorem dX2_makeDictionary_25 : decode cX2_makeDictionary 25 = .ok (.getfield 141, 3) := by decide +kernel
theorem dX2_makeDictionary_28 : decode cX2_makeDictionary 28 = .ok (.iload_n 2, 1) := by decide +kernel
theorem dX2_makeDictionary_29 : decode cX2_makeDictionary 29 = .ok (.iload_n 1, 1) := by decide +kernel
theorem dX2_makeDictionary_30 : decode cX2_makeDictionary 30 = .ok (.invokevirtual 100, 3) := by decide +kernel
theorem dX2_makeDictionary_33 : decode cX2_makeDictionary 33 = .ok (.iload_n 2, 1) := by decide +kernel
theorem dX2_makeDictionary_34 : decode cX2_makeDictionary 34 = .ok (.ireturn, 1) := by decide +kernel
set_option maxRecDepth 20000 in
theorem ggX2_makeSave_X0_init : GoodIn wsX2_makeSave wsX0_init := goodIn_r _ [9, 10, 11, 12, 13, 14, 15, 16, 17, 18, 19, 20, 21, 22, 23, 24, 25, 26, 113, 114, 106, 107, 108, 109, 110, 111, 112] (by decide +kernel) (by decide +kernel)
set_option maxRecDepth 20000 in
theorem gX2_makeSave_X0_init_n33 : GoodIn wsX2_makeSave (wsX0_init) := ggX2_makeSave_X0_init
set_option maxRecDepth 20000 in
theorem ggX2_makeSave_X0_become : GoodIn wsX2_makeSave wsX0_become := goodIn_r _ [30, 16, 17, 18, 19, 20, 21, 31, 32, 33, 34, 15, 35, 36, 26, 37, 38, 39, 40, 41, 42, 43, 44, 45, 46, 47, 48, 49, 50, 51, 52, 53, 54, 55, 56, 57, 58, 59, 60, 61, 25, 62, 63, 106, 107, 108, 109, 110, 111, 112, 113, 114] (by decide +kernel) (by decide +kernel)
set_option maxRecDepth 20000 in
theorem gX2_makeSave_X0_become : GoodIn wsX2_makeSave (wsV RX2 182 RX0 yX0_become wsX0_become) := goodIn_app (goodIn_of _ (by decide +kernel)) ggX2_makeSave_X0_become
set_option maxRecDepth 20000 in
theorem ggX2_makeSave_X1_size : GoodIn wsX2_makeSave wsX1_size := goodIn_r _ [67, 36, 113, 114] (by decide +kernel) (by decide +kernel)
set_option maxRecDepth 20000 in
theorem gX2_makeSave_X1_size : GoodIn wsX2_makeSave (wsV RX2 203 RX1 yX1_size wsX1_size) := goodIn_app (goodIn_of _ (by decide +kernel)) ggX2_makeSave_X1_size
set_option maxRecDepth 20000 in
theorem ggX2_makeSave_X2_addObject : GoodIn wsX2_makeSave wsX2_addObject := goodIn_r _ [72, 73, 74, 75, 76, 77, 78, 6, 79, 80, 81, 82, 15, 83, 36, 45, 46, 47, 48, 26, 49, 50, 39, 51, 52, 53, 54, 55, 56, 57, 58, 59, 60, 61, 25, 62, 38, 40, 63, 42, 43, 44, 84, 85, 86, 87, 88, 89, 71, 90, 91, 92, 93, 5, 94, 16, 17, 18, 19, 20, 95, 96, 97, 98, 99, 100, 101, 102, 103, 104, 105, 106, 107, 108, 109, 110, 111, 112, 113, 114] (by decide +kernel) (by decide +kernel)
set_option maxRecDepth 20000 in
theorem gX2_makeSave_X2_addObject : GoodIn wsX2_makeSave (wsV RX2 42 RX2 yX2_addObject wsX2_addObject) := goodIn_app (goodIn_of _ (by decide +kernel)) ggX2_makeSave_X2_addObject
theorem dX2_makeSave_0 : decode cX2_makeSave 0 = .ok (.aload_n 0, 1) := by decide +kernel
theorem dX2_makeSave_1 : decode cX2_makeSave 1 = .ok (.getfield 54, 3) := by decide +kernel
theorem dX2_makeSave_4 : decode cX2_makeSave 4 = .ok (.istore_n 1, 1) := by decide +kernel
theorem dX2_makeSave_5 : decode cX2_makeSave 5 = .ok (.iload_n 1, 1) := by decide +kernel
theorem dX2_makeSave_6 : decode cX2_makeSave 6 = .ok (.ifCond .lt 47, 3) := by decide +kernel
theorem dX2_makeSave_9 : decode cX2_makeSave 9 = .ok (.iload_n 1, 1) := by decide +kernel
theorem dX2_makeSave_10 : decode cX2_makeSave 10 = .ok (.aload_n 0, 1) := by decide +kernel
theorem dX2_makeSave_11 : decode cX2_makeSave 11 = .ok (.getfield 38, 3) := by decide +kernel
theorem dX2_makeSave_14 : decode cX2_makeSave 14 = .ok (.arraylength, 1) := by decide +kernel
theorem dX2_makeSave_15 : decode cX2_makeSave 15 = .ok (.if_icmp .ge 38, 3) := by decide +kernel
theorem dX2_makeSave_18 : decode cX2_makeSave 18 = .ok (.aload_n 0, 1) := by decide +kernel
theorem dX2_makeSave_19 : decode cX2_makeSave 19 = .ok (.getfield 38, 3) := by decide +kernel
theorem dX2_makeSave_22 : decode cX2_makeSave 22 = .ok (.iload_n 1, 1) := by decide +kernel
theorem dX2_makeSave_23 : decode cX2_makeSave 23 = .ok (.aaload, 1) := by decide +kernel
theorem dX2_makeSave_24 : decode cX2_makeSave 24 = .ok (.ifnonnull 16, 3) := by decide +kernel
theorem dX2_makeSave_27 : decode cX2_makeSave 27 = .ok (.aload_n 0, 1) := by decide +kernel
theorem dX2_makeSave_28 : decode cX2_makeSave 28 = .ok (.getfield 38, 3) := by decide +kernel
theorem dX2_makeSave_31 : decode cX2_makeSave 31 = .ok (.iload_n 1, 1) := by decide +kernel
theorem dX2_makeSave_32 : decode cX2_makeSave 32 = .ok (.new 31, 3) := by decide +kernel
theorem dX2_makeSave_35 : decode cX2_makeSave 35 = .ok (.dup, 1) := by decide +kernel
theorem dX2_makeSave_36 : decode cX2_makeSave 36 = .ok (.invokespecial 33, 3) := by decide +kernel
theorem dX2_makeSave_39 : decode cX2_makeSave 39 = .ok (.aastore, 1) := by decide +kernel
theorem dX2_makeSave_40 : decode cX2_makeSave 40 = .ok (.aload_n 0, 1) := by decide +kernel
theorem dX2_makeSave_41 : decode cX2_makeSave 41 = .ok (.getfield 38, 3) := by decide +kernel
theorem dX2_makeSave_44 : decode cX2_makeSave 44 = .ok (.iload_n 1, 1) := by decide +kernel
theorem dX2_makeSave_45 : decode cX2_makeSave 45 = .ok (.aaload, 1) := by decide +kernel
theorem dX2_makeSave_46 : decode cX2_makeSave 46 = .ok (.aload_n 0, 1) := by decide +kernel
theorem dX2_makeSave_47 : decode cX2_makeSave 47 = .ok (.getfield 34, 3) := by decide +kernel
theorem dX2_makeSave_50 : decode cX2_makeSave 50 = .ok (.invokevirtual 182, 3) := by decide +kernel
theorem dX2_makeSave_53 : decode cX2_makeSave 53 = .ok (.aload_n 0, 1) := by decide +kernel
theorem dX2_makeSave_54 : decode cX2_makeSave 54 = .ok (.iload_n 1, 1) := by decide +kernel
theorem dX2_makeSave_55 : decode cX2_makeSave 55 = .ok (.iconst 1, 1) := by decide +kernel
theorem dX2_makeSave_56 : decode cX2_makeSave 56 = .ok (.iadd, 1) := by decide +kernel
theorem dX2_makeSave_57 : decode cX2_makeSave 57 = .ok (.putfield 54, 3) := by decide +kernel
theorem dX2_makeSave_60 : decode cX2_makeSave 60 = .ok (.aload_n 0, 1) := by decide +kernel
theorem dX2_makeSave_61 : decode cX2_makeSave 61 = .ok (.bipush 11, 2) := by decide +kernel
theorem dX2_makeSave_63 : decode cX2_makeSave 63 = .ok (.iload_n 1, 1) := by decide +kernel
theorem dX2_makeSave_64 : decode cX2_makeSave 64 = .ok (.aload_n 0, 1) := by decide +kernel
theorem dX2_makeSave_65 : decode cX2_makeSave 65 = .ok (.getfield 28, 3) := by decide +kernel
theorem dX2_makeSave_68 : decode cX2_makeSave 68 = .ok (.invokevirtual 203, 3) := by decide +kernel
theorem dX2_makeSave_71 : decode cX2_makeSave 71 = .ok (.iconst 0, 1) := by decide +kernel
theorem dX2_makeSave_72 : decode cX2_makeSave 72 = .ok (.invokevirtual 42, 3) := by decide +kernel
theorem dX2_makeSave_75 : decode cX2_makeSave 75 = .ok (.ireturn, 1) := by decide +kernel
set_option maxRecDepth 20000 in
theorem ggX2_keptBy_X1_at : GoodIn wsX2_keptBy wsX1_at := goodIn_r _ [8, 9, 20, 21] (by decide +kernel) (by decide +kernel)
set_option maxRecDepth 20000 in
theorem gX2_keptBy_X1_at : GoodIn wsX2_keptBy (wsV RX2 84 RX1 yX1_at wsX1_at) := goodIn_app (goodIn_of _ (by decide +kernel)) ggX2_keptBy_X1_at
theorem dX2_keptBy_0 : decode cX2_keptBy 0 = .ok (.aload_n 0, 1) := by decide +kernel
theorem dX2_keptBy_1 : decode cX2_keptBy 1 = .ok (.getfield 16, 3) := by decide +kernel
theorem dX2_keptBy_4 : decode cX2_keptBy 4 = .ok (.iload_n 1, 1) := by decide +kernel
theorem dX2_keptBy_5 : decode cX2_keptBy 5 = .ok (.invokevirtual 84, 3) := by decide +kernel
theorem dX2_keptBy_8 : decode cX2_keptBy 8 = .ok (.istore_n 2, 1) := by decide +kernel
theorem dX2_keptBy_9 : decode cX2_keptBy 9 = .ok (.aload_n 0, 1) := by decide +kernel
theorem dX2_keptBy_10 : decode cX2_keptBy 10 = .ok (.getfield 12, 3) := by decide +kernel
theorem dX2_keptBy_13 : decode cX2_keptBy 13 = .ok (.iload_n 1, 1) := by decide +kernel
theorem dX2_keptBy_14 : decode cX2_keptBy 14 = .ok (.invokevirtual 84, 3) := by decide +kernel
theorem dX2_keptBy_17 : decode cX2_keptBy 17 = .ok (.bipush 11, 2) := by decide +kernel
theorem dX2_keptBy_19 : decode cX2_keptBy 19 = .ok (.if_icmp .ne 20, 3) := by decide +kernel
theorem dX2_keptBy_22 : decode cX2_keptBy 22 = .ok (.iload_n 2, 1) := by decide +kernel
theorem dX2_keptBy_23 : decode cX2_keptBy 23 = .ok (.ifCond .lt 16, 3) := by decide +kernel
theorem dX2_keptBy_26 : decode cX2_keptBy 26 = .ok (.iload_n 2, 1) := by decide +kernel
theorem dX2_keptBy_27 : decode cX2_keptBy 27 = .ok (.aload_n 0, 1) := by decide +kernel
theorem dX2_keptBy_28 : decode cX2_keptBy 28 = .ok (.getfield 38, 3) := by decide +kernel
theorem dX2_keptBy_31 : decode cX2_keptBy 31 = .ok (.arraylength, 1) := by decide +kernel
theorem dX2_keptBy_32 : decode cX2_keptBy 32 = .ok (.if_icmp .ge 7, 3) := by decide +kernel
theorem dX2_keptBy_35 : decode cX2_keptBy 35 = .ok (.iconst 1, 1) := by decide +kernel
theorem dX2_keptBy_36 : decode cX2_keptBy 36 = .ok (.goto 4, 3) := by decide +kernel
theorem dX2_keptBy_39 : decode cX2_keptBy 39 = .ok (.iconst 0, 1) := by decide +kernel
theorem dX2_keptBy_40 : decode cX2_keptBy 40 = .ok (.istore_n 3, 1) := by decide +kernel
theorem dX2_keptBy_41 : decode cX2_keptBy 41 = .ok (.iload_n 3, 1) := by decide +kernel
theorem dX2_keptBy_42 : decode cX2_keptBy 42 = .ok (.ifCond .eq 12, 3) := by decide +kernel
theorem dX2_keptBy_45 : decode cX2_keptBy 45 = .ok (.aload_n 0, 1) := by decide +kernel
theorem dX2_keptBy_46 : decode cX2_keptBy 46 = .ok (.getfield 38, 3) := by decide +kernel
theorem dX2_keptBy_49 : decode cX2_keptBy 49 = .ok (.iload_n 2, 1) := by decide +kernel
theorem dX2_keptBy_50 : decode cX2_keptBy 50 = .ok (.aaload, 1) := by decide +kernel
theorem dX2_keptBy_51 : decode cX2_keptBy 51 = .ok (.goto 4, 3) := by decide +kernel
theorem dX2_keptBy_54 : decode cX2_keptBy 54 = .ok (.aconst_null, 1) := by decide +kernel
theorem dX2_keptBy_55 : decode cX2_keptBy 55 = .ok (.areturn, 1) := by decide +kernel
set_option maxRecDepth 20000 in
theorem ggX2_addPart_X1_at : GoodIn wsX2_addPart wsX1_at := goodIn_r _ [11, 12, 89, 90] (by decide +kernel) (by decide +kernel)
set_option maxRecDepth 20000 in
theorem gX2_addPart_X1_at : GoodIn wsX2_addPart (wsV RX2 84 RX1 yX1_at wsX1_at) := goodIn_app (goodIn_of _ (by decide +kernel)) ggX2_addPart_X1_at
set_option maxRecDepth 20000 in
theorem ggX2_addPart_X2_addObject : GoodIn wsX2_addPart wsX2_addObject := goodIn_r _ [17, 18, 1, 19, 3, 2, 20, 4, 21, 22, 23, 24, 10, 25, 26, 27, 28, 29, 30, 12, 31, 32, 33, 34, 35, 36, 37, 38, 39, 40, 41, 42, 43, 44, 45, 46, 47, 48, 49, 50, 51, 52, 53, 54, 55, 56, 57, 58, 16, 59, 60, 61, 62, 63, 64, 65, 66, 67, 68, 69, 70, 72, 73, 74, 75, 76, 77, 78, 79, 80, 81, 82, 83, 84, 85, 86, 87, 88, 89, 90] (by decide +kernel) (by decide +kernel)
set_option maxRecDepth 20000 in
theorem gX2_addPart_X2_addObject : GoodIn wsX2_addPart (wsV RX2 42 RX2 yX2_addObject wsX2_addObject) := goodIn_app (goodIn_of _ (by decide +kernel)) ggX2_addPart_X2_addObject
set_option maxRecDepth 20000 in
theorem ggX2_addPart_X1_set : GoodIn wsX2_addPart wsX1_set := goodIn_r _ [56, 12, 89, 90] (by decide +kernel) (by decide +kernel)
set_option maxRecDepth 20000 in
theorem gX2_addPart_X1_set : GoodIn wsX2_addPart (wsV RX2 100 RX1 yX1_set wsX1_set) := goodIn_app (goodIn_of _ (by decide +kernel)) ggX2_addPart_X1_set
theorem dX2_addPart_0 : decode cX2_addPart 0 = .ok (.aload_n 0, 1) := by decide +kernel
theorem dX2_addPart_1 : decode cX2_addPart 1 = .ok (.aload_n 0, 1) := by decide +kernel
theorem dX2_addPart_2 : decode cX2_addPart 2 = .ok (.getfield 12, 3) := by decide +kernel
theorem dX2_addPart_5 : decode cX2_addPart 5 = .ok (.iload_n 1, 1) := by decide +kernel
theorem dX2_addPart_6 : decode cX2_addPart 6 = .ok (.invokevirtual 84, 3) := by decide +kernel
theorem dX2_addPart_9 : decode cX2_addPart 9 = .ok (.iconst 0, 1) := by decide +kernel
theorem dX2_addPart_10 : decode cX2_addPart 10 = .ok (.aload_n 0, 1) := by decide +kernel
theorem dX2_addPart_11 : decode cX2_addPart 11 = .ok (.getfield 22, 3) := by decide +kernel
theorem dX2_addPart_14 : decode cX2_addPart 14 = .ok (.iload_n 1, 1) := by decide +kernel
theorem dX2_addPart_15 : decode cX2_addPart 15 = .ok (.invokevirtual 84, 3) := by decide +kernel
theorem dX2_addPart_18 : decode cX2_addPart 18 = .ok (.iload_n 2, 1) := by decide +kernel
theorem dX2_addPart_19 : decode cX2_addPart 19 = .ok (.iadd, 1) := by decide +kernel
theorem dX2_addPart_20 : decode cX2_addPart 20 = .ok (.iload_n 3, 1) := by decide +kernel
theorem dX2_addPart_21 : decode cX2_addPart 21 = .ok (.invokevirtual 42, 3) := by decide +kernel
theorem dX2_addPart_24 : decode cX2_addPart 24 = .ok (.istore 4, 2) := by decide +kernel
theorem dX2_addPart_26 : decode cX2_addPart 26 = .ok (.aload_n 0, 1) := by decide +kernel
theorem dX2_addPart_27 : decode cX2_addPart 27 = .ok (.getfield 19, 3) := by decide +kernel
theorem dX2_addPart_30 : decode cX2_addPart 30 = .ok (.iload 4, 2) := by decide +kernel
theorem dX2_addPart_32 : decode cX2_addPart 32 = .ok (.aload_n 0, 1) := by decide +kernel
theorem dX2_addPart_33 : decode cX2_addPart 33 = .ok (.getfield 19, 3) := by decide +kernel
theorem dX2_addPart_36 : decode cX2_addPart 36 = .ok (.iload_n 1, 1) := by decide +kernel
theorem dX2_addPart_37 : decode cX2_addPart 37 = .ok (.invokevirtual 84, 3) := by decide +kernel
theorem dX2_addPart_40 : decode cX2_addPart 40 = .ok (.invokevirtual 100, 3) := by decide +kernel
theorem dX2_addPart_43 : decode cX2_addPart 43 = .ok (.aload_n 0, 1) := by decide +kernel
theorem dX2_addPart_44 : decode cX2_addPart 44 = .ok (.getfield 34, 3) := by decide +kernel
theorem dX2_addPart_47 : decode cX2_addPart 47 = .ok (.getfield 206, 3) := by decide +kernel
theorem dX2_addPart_50 : decode cX2_addPart 50 = .ok (.iload 4, 2) := by decide +kernel
theorem dX2_addPart_52 : decode cX2_addPart 52 = .ok (.aload_n 0, 1) := by decide +kernel
theorem dX2_addPart_53 : decode cX2_addPart 53 = .ok (.getfield 34, 3) := by decide +kernel
theorem dX2_addPart_56 : decode cX2_addPart 56 = .ok (.getfield 206, 3) := by decide +kernel
theorem dX2_addPart_59 : decode cX2_addPart 59 = .ok (.iload_n 1, 1) := by decide +kernel
theorem dX2_addPart_60 : decode cX2_addPart 60 = .ok (.invokevirtual 84, 3) := by decide +kernel
theorem dX2_addPart_63 : decode cX2_addPart 63 = .ok (.invokevirtual 100, 3) := by decide +kernel
theorem dX2_addPart_66 : decode cX2_addPart 66 = .ok (.aload_n 0, 1) := by decide +kernel
theorem dX2_addPart_67 : decode cX2_addPart 67 = .ok (.getfield 34, 3) := by decide +kernel
theorem dX2_addPart_70 : decode cX2_addPart 70 = .ok (.getfield 126, 3) := by decide +kernel
theorem dX2_addPart_73 : decode cX2_addPart 73 = .ok (.iload 4, 2) := by decide +kernel
theorem dX2_addPart_75 : decode cX2_addPart 75 = .ok (.aload_n 0, 1) := by decide +kernel
theorem dX2_addPart_76 : decode cX2_addPart 76 = .ok (.getfield 34, 3) := by decide +kernel
theorem dX2_addPart_79 : decode cX2_addPart 79 = .ok (.getfield 126, 3) := by decide +kernel
theorem dX2_addPart_82 : decode cX2_addPart 82 = .ok (.iload_n 1, 1) := by decide +kernel
theorem dX2_addPart_83 : decode cX2_addPart 83 = .ok (.invokevirtual 84, 3) := by decide +kernel
theorem dX2_addPart_86 : decode cX2_addPart 86 = .ok (.invokevirtual 100, 3) := by decide +kernel
theorem dX2_addPart_89 : decode cX2_addPart 89 = .ok (.iload 4, 2) := by decide +kernel
theorem dX2_addPart_91 : decode cX2_addPart 91 = .ok (.ireturn, 1) := by decide +kernel
set_option maxRecDepth 20000 in
theorem ggX2_hasElement_X1_at : GoodIn wsX2_hasElement wsX1_at := goodIn_r _ [6, 7, 18, 19] (by decide +kernel) (by decide +kernel)
set_option maxRecDepth 20000 in
theorem gX2_hasElement_X1_at : GoodIn wsX2_hasElement (wsV RX2 84 RX1 yX1_at wsX1_at) := goodIn_app (goodIn_of _ (by decide +kernel)) ggX2_hasElement_X1_at
theorem dX2_hasElement_0 : decode cX2_hasElement 0 = .ok (.iload_n 2, 1) := by decide +kernel
theorem dX2_hasElement_1 : decode cX2_hasElement 1 = .ok (.ifCond .lt 19, 3) := by decide +kernel
theorem dX2_hasElement_4 : decode cX2_hasElement 4 = .ok (.iload_n 2, 1) := by decide +kernel
theorem dX2_hasElement_5 : decode cX2_hasElement 5 = .ok (.aload_n 0, 1) := by decide +kernel
theorem dX2_hasElement_6 : decode cX2_hasElement 6 = .ok (.getfield 25, 3) := by decide +kernel
theorem dX2_hasElement_9 : decode cX2_hasElement 9 = .ok (.iload_n 1, 1) := by decide +kernel
theorem dX2_hasElement_10 : decode cX2_hasElement 10 = .ok (.invokevirtual 84, 3) := by decide +kernel
theorem dX2_hasElement_13 : decode cX2_hasElement 13 = .ok (.if_icmp .ge 7, 3) := by decide +kernel
theorem dX2_hasElement_16 : decode cX2_hasElement 16 = .ok (.iconst 1, 1) := by decide +kernel
theorem dX2_hasElement_17 : decode cX2_hasElement 17 = .ok (.goto 4, 3) := by decide +kernel
theorem dX2_hasElement_20 : decode cX2_hasElement 20 = .ok (.iconst 0, 1) := by decide +kernel
theorem dX2_hasElement_21 : decode cX2_hasElement 21 = .ok (.ireturn, 1) := by decide +kernel
set_option maxRecDepth 20000 in
theorem ggX2_hasPart_X1_at : GoodIn wsX2_hasPart wsX1_at := goodIn_r _ [6, 7, 22, 23] (by decide +kernel) (by decide +kernel)
set_option maxRecDepth 20000 in
theorem gX2_hasPart_X1_at : GoodIn wsX2_hasPart (wsV RX2 84 RX1 yX1_at wsX1_at) := goodIn_app (goodIn_of _ (by decide +kernel)) ggX2_hasPart_X1_at
set_option maxRecDepth 20000 in
theorem ggX2_hasPart_X2_within : GoodIn wsX2_hasPart wsX2_within := goodIn_r _ [11] (by decide +kernel) (by decide +kernel)
set_option maxRecDepth 20000 in
theorem gX2_hasPart_X2_within : GoodIn wsX2_hasPart (va_wsS RX2 90 yX2_within wsX2_within) := goodIn_app (goodIn_of _ (by decide +kernel)) ggX2_hasPart_X2_within
theorem dX2_hasPart_0 : decode cX2_hasPart 0 = .ok (.aload_n 0, 1) := by decide +kernel
theorem dX2_hasPart_1 : decode cX2_hasPart 1 = .ok (.getfield 25, 3) := by decide +kernel
theorem dX2_hasPart_4 : decode cX2_hasPart 4 = .ok (.iload_n 1, 1) := by decide +kernel
theorem dX2_hasPart_5 : decode cX2_hasPart 5 = .ok (.invokevirtual 84, 3) := by decide +kernel
theorem dX2_hasPart_8 : decode cX2_hasPart 8 = .ok (.istore 4, 2) := by decide +kernel
theorem dX2_hasPart_10 : decode cX2_hasPart 10 = .ok (.iload_n 2, 1) := by decide +kernel
theorem dX2_hasPart_11 : decode cX2_hasPart 11 = .ok (.iload 4, 2) := by decide +kernel
theorem dX2_hasPart_13 : decode cX2_hasPart 13 = .ok (.invokestatic 90, 3) := by decide +kernel
theorem dX2_hasPart_16 : decode cX2_hasPart 16 = .ok (.ifCond .eq 18, 3) := by decide +kernel
theorem dX2_hasPart_19 : decode cX2_hasPart 19 = .ok (.iload_n 3, 1) := by decide +kernel
theorem dX2_hasPart_20 : decode cX2_hasPart 20 = .ok (.iload 4, 2) := by decide +kernel
theorem dX2_hasPart_22 : decode cX2_hasPart 22 = .ok (.iload_n 2, 1) := by decide +kernel
theorem dX2_hasPart_23 : decode cX2_hasPart 23 = .ok (.isub, 1) := by decide +kernel
theorem dX2_hasPart_24 : decode cX2_hasPart 24 = .ok (.invokestatic 90, 3) := by decide +kernel
theorem dX2_hasPart_27 : decode cX2_hasPart 27 = .ok (.ifCond .eq 7, 3) := by decide +kernel
theorem dX2_hasPart_30 : decode cX2_hasPart 30 = .ok (.iconst 1, 1) := by decide +kernel
theorem dX2_hasPart_31 : decode cX2_hasPart 31 = .ok (.goto 4, 3) := by decide +kernel
theorem dX2_hasPart_34 : decode cX2_hasPart 34 = .ok (.iconst 0, 1) := by decide +kernel
theorem dX2_hasPart_35 : decode cX2_hasPart 35 = .ok (.ireturn, 1) := by decide +kernel
theorem dX2_storeRow_0 : decode cX2_storeRow 0 = .ok (.iload_n 1, 1) := by decide +kernel
theorem dX2_storeRow_1 : decode cX2_storeRow 1 = .ok (.iconst 4, 1) := by decide +kernel
theorem dX2_storeRow_2 : decode cX2_storeRow 2 = .ok (.if_icmp .ne 10, 3) := by decide +kernel
theorem dX2_storeRow_5 : decode cX2_storeRow 5 = .ok (.aload_n 0, 1) := by decide +kernel
theorem dX2_storeRow_6 : decode cX2_storeRow 6 = .ok (.getfield 28, 3) := by decide +kernel
theorem dX2_storeRow_9 : decode cX2_storeRow 9 = .ok (.goto 10, 3) := by decide +kernel
theorem dX2_storeRow_12 : decode cX2_storeRow 12 = .ok (.aload_n 0, 1) := by decide +kernel
theorem dX2_storeRow_13 : decode cX2_storeRow 13 = .ok (.getfield 34, 3) := by decide +kernel
theorem dX2_storeRow_16 : decode cX2_storeRow 16 = .ok (.getfield 67, 3) := by decide +kernel
theorem dX2_storeRow_19 : decode cX2_storeRow 19 = .ok (.areturn, 1) := by decide +kernel
set_option maxRecDepth 20000 in
theorem ggX2_elementOf_X1_at : GoodIn wsX2_elementOf wsX1_at := goodIn_r _ [7, 8, 27, 28] (by decide +kernel) (by decide +kernel)
set_option maxRecDepth 20000 in
theorem gX2_elementOf_X1_at : GoodIn wsX2_elementOf (wsV RX2 84 RX1 yX1_at wsX1_at) := goodIn_app (goodIn_of _ (by decide +kernel)) ggX2_elementOf_X1_at
set_option maxRecDepth 20000 in
theorem ggX2_elementOf_X2_storeRow : GoodIn wsX2_elementOf wsX2_storeRow := goodIn_r _ [13, 14, 15, 16, 17, 18, 19, 20, 21, 22, 23, 24, 25, 26, 29, 30, 31, 32, 33, 34, 35] (by decide +kernel) (by decide +kernel)
set_option maxRecDepth 20000 in
theorem gX2_elementOf_X2_storeRow : GoodIn wsX2_elementOf (wsV RX2 96 RX2 yX2_storeRow wsX2_storeRow) := goodIn_app (goodIn_of _ (by decide +kernel)) ggX2_elementOf_X2_storeRow
theorem dX2_elementOf_0 : decode cX2_elementOf 0 = .ok (.aload_n 0, 1) := by decide +kernel
theorem dX2_elementOf_1 : decode cX2_elementOf 1 = .ok (.aload_n 0, 1) := by decide +kernel
theorem dX2_elementOf_2 : decode cX2_elementOf 2 = .ok (.getfield 12, 3) := by decide +kernel
theorem dX2_elementOf_5 : decode cX2_elementOf 5 = .ok (.iload_n 1, 1) := by decide +kernel
theorem dX2_elementOf_6 : decode cX2_elementOf 6 = .ok (.invokevirtual 84, 3) := by decide +kernel
theorem dX2_elementOf_9 : decode cX2_elementOf 9 = .ok (.invokevirtual 96, 3) := by decide +kernel
theorem dX2_elementOf_12 : decode cX2_elementOf 12 = .ok (.aload_n 0, 1) := by decide +kernel
theorem dX2_elementOf_13 : decode cX2_elementOf 13 = .ok (.getfield 22, 3) := by decide +kernel
theorem dX2_elementOf_16 : decode cX2_elementOf 16 = .ok (.iload_n 1, 1) := by decide +kernel
theorem dX2_elementOf_17 : decode cX2_elementOf 17 = .ok (.invokevirtual 84, 3) := by decide +kernel
theorem dX2_elementOf_20 : decode cX2_elementOf 20 = .ok (.iload_n 2, 1) := by decide +kernel
theorem dX2_elementOf_21 : decode cX2_elementOf 21 = .ok (.iadd, 1) := by decide +kernel
theorem dX2_elementOf_22 : decode cX2_elementOf 22 = .ok (.invokevirtual 84, 3) := by decide +kernel
theorem dX2_elementOf_25 : decode cX2_elementOf 25 = .ok (.ireturn, 1) := by decide +kernel
set_option maxRecDepth 20000 in
theorem ggX2_accessHolder_X1_at : GoodIn wsX2_accessHolder wsX1_at := goodIn_r _ [7, 8, 19, 20] (by decide +kernel) (by decide +kernel)
set_option maxRecDepth 20000 in
theorem gX2_accessHolder_X1_at : GoodIn wsX2_accessHolder (wsV RX2 84 RX1 yX1_at wsX1_at) := goodIn_app (goodIn_of _ (by decide +kernel)) ggX2_accessHolder_X1_at
theorem dX2_accessHolder_0 : decode cX2_accessHolder 0 = .ok (.aload_n 0, 1) := by decide +kernel
theorem dX2_accessHolder_1 : decode cX2_accessHolder 1 = .ok (.getfield 12, 3) := by decide +kernel
theorem dX2_accessHolder_4 : decode cX2_accessHolder 4 = .ok (.iload_n 1, 1) := by decide +kernel
theorem dX2_accessHolder_5 : decode cX2_accessHolder 5 = .ok (.invokevirtual 84, 3) := by decide +kernel
theorem dX2_accessHolder_8 : decode cX2_accessHolder 8 = .ok (.bipush 7, 2) := by decide +kernel
theorem dX2_accessHolder_10 : decode cX2_accessHolder 10 = .ok (.if_icmp .ne 14, 3) := by decide +kernel
theorem dX2_accessHolder_13 : decode cX2_accessHolder 13 = .ok (.aload_n 0, 1) := by decide +kernel
theorem dX2_accessHolder_14 : decode cX2_accessHolder 14 = .ok (.getfield 19, 3) := by decide +kernel
theorem dX2_accessHolder_17 : decode cX2_accessHolder 17 = .ok (.iload_n 1, 1) := by decide +kernel
theorem dX2_accessHolder_18 : decode cX2_accessHolder 18 = .ok (.invokevirtual 84, 3) := by decide +kernel
theorem dX2_accessHolder_21 : decode cX2_accessHolder 21 = .ok (.goto 4, 3) := by decide +kernel
theorem dX2_accessHolder_24 : decode cX2_accessHolder 24 = .ok (.iload_n 1, 1) := by decide +kernel
theorem dX2_accessHolder_25 : decode cX2_accessHolder 25 = .ok (.ireturn, 1) := by decide +kernel
set_option maxRecDepth 20000 in
theorem ggX2_accessOf_X2_accessHolder : GoodIn wsX2_accessOf wsX2_accessHolder := goodIn_r _ [7, 8, 9, 10, 11, 12, 13, 14, 15, 16, 17, 18, 19, 20, 21, 22, 23, 24, 25, 33, 34] (by decide +kernel) (by decide +kernel)
set_option maxRecDepth 20000 in
theorem gX2_accessOf_X2_accessHolder : GoodIn wsX2_accessOf (wsV RX2 209 RX2 yX2_accessHolder wsX2_accessHolder) := goodIn_app (goodIn_of _ (by decide +kernel)) ggX2_accessOf_X2_accessHolder
set_option maxRecDepth 20000 in
theorem ggX2_accessOf_X1_at : GoodIn wsX2_accessOf wsX1_at := goodIn_r _ [14, 15, 33, 34] (by decide +kernel) (by decide +kernel)
set_option maxRecDepth 20000 in
theorem gX2_accessOf_X1_at : GoodIn wsX2_accessOf (wsV RX2 84 RX1 yX1_at wsX1_at) := goodIn_app (goodIn_of _ (by decide +kernel)) ggX2_accessOf_X1_at
theorem dX2_accessOf_0 : decode cX2_accessOf 0 = .ok (.aload_n 0, 1) := by decide +kernel
theorem dX2_accessOf_1 : decode cX2_accessOf 1 = .ok (.getfield 34, 3) := by decide +kernel
theorem dX2_accessOf_4 : decode cX2_accessOf 4 = .ok (.getfield 206, 3) := by decide +kernel
theorem dX2_accessOf_7 : decode cX2_accessOf 7 = .ok (.aload_n 0, 1) := by decide +kernel
theorem dX2_accessOf_8 : decode cX2_accessOf 8 = .ok (.iload_n 1, 1) := by decide +kernel
theorem dX2_accessOf_9 : decode cX2_accessOf 9 = .ok (.invokevirtual 209, 3) := by decide +kernel
theorem dX2_accessOf_12 : decode cX2_accessOf 12 = .ok (.invokevirtual 84, 3) := by decide +kernel
theorem dX2_accessOf_15 : decode cX2_accessOf 15 = .ok (.ireturn, 1) := by decide +kernel
set_option maxRecDepth 20000 in
theorem ggX2_lowerAccess_X1_at : GoodIn wsX2_lowerAccess wsX1_at := goodIn_r _ [8, 9, 44, 45] (by decide +kernel) (by decide +kernel)
set_option maxRecDepth 20000 in
theorem gX2_lowerAccess_X1_at : GoodIn wsX2_lowerAccess (wsV RX2 84 RX1 yX1_at wsX1_at) := goodIn_app (goodIn_of _ (by decide +kernel)) ggX2_lowerAccess_X1_at
set_option maxRecDepth 20000 in
theorem ggX2_lowerAccess_X2_firstAccess : GoodIn wsX2_lowerAccess wsX2_firstAccess := goodIn_r _ [13] (by decide +kernel) (by decide +kernel)
set_option maxRecDepth 20000 in
theorem gX2_lowerAccess_X2_firstAccess : GoodIn wsX2_lowerAccess (va_wsS RX2 197 yX2_firstAccess wsX2_firstAccess) := goodIn_app (goodIn_of _ (by decide +kernel)) ggX2_lowerAccess_X2_firstAccess
set_option maxRecDepth 20000 in
theorem ggX2_lowerAccess_X2_accessOf : GoodIn wsX2_lowerAccess wsX2_accessOf := goodIn_r _ [17, 2, 3, 18, 19, 20, 12, 21, 1, 22, 4, 5, 6, 7, 8, 9, 27, 28, 29, 30, 31, 32, 33, 34, 35, 36, 37, 38, 39, 40, 41, 42, 43, 44, 45] (by decide +kernel) (by decide +kernel)
set_option maxRecDepth 20000 in
theorem gX2_lowerAccess_X2_accessOf : GoodIn wsX2_lowerAccess (wsV RX2 93 RX2 yX2_accessOf wsX2_accessOf) := goodIn_app (goodIn_of _ (by decide +kernel)) ggX2_lowerAccess_X2_accessOf
set_option maxRecDepth 20000 in
theorem ggX2_lowerAccess_X2_accessHolder : GoodIn wsX2_lowerAccess wsX2_accessHolder := goodIn_r _ [21, 1, 22, 4, 5, 6, 7, 8, 9, 27, 28, 29, 30, 31, 32, 33, 34, 35, 36, 44, 45] (by decide +kernel) (by decide +kernel)
set_option maxRecDepth 20000 in
theorem gX2_lowerAccess_X2_accessHolder : GoodIn wsX2_lowerAccess (wsV RX2 209 RX2 yX2_accessHolder wsX2_accessHolder) := goodIn_app (goodIn_of _ (by decide +kernel)) ggX2_lowerAccess_X2_accessHolder
set_option maxRecDepth 20000 in
theorem ggX2_lowerAccess_X1_set : GoodIn wsX2_lowerAccess wsX1_set := goodIn_r _ [26, 9, 44, 45] (by decide +kernel) (by decide +kernel)
set_option maxRecDepth 20000 in
theorem gX2_lowerAccess_X1_set : GoodIn wsX2_lowerAccess (wsV RX2 100 RX1 yX1_set wsX1_set) := goodIn_app (goodIn_of _ (by decide +kernel)) ggX2_lowerAccess_X1_set
theorem dX2_lowerAccess_0 : decode cX2_lowerAccess 0 = .ok (.aload_n 0, 1) := by decide +kernel
theorem dX2_lowerAccess_1 : decode cX2_lowerAccess 1 = .ok (.getfield 12, 3) := by decide +kernel
theorem dX2_lowerAccess_4 : decode cX2_lowerAccess 4 = .ok (.iload_n 1, 1) := by decide +kernel
theorem dX2_lowerAccess_5 : decode cX2_lowerAccess 5 = .ok (.invokevirtual 84, 3) := by decide +kernel
theorem dX2_lowerAccess_8 : decode cX2_lowerAccess 8 = .ok (.invokestatic 197, 3) := by decide +kernel
theorem dX2_lowerAccess_11 : decode cX2_lowerAccess 11 = .ok (.ifCond .eq 12, 3) := by decide +kernel
theorem dX2_lowerAccess_14 : decode cX2_lowerAccess 14 = .ok (.iload_n 2, 1) := by decide +kernel
theorem dX2_lowerAccess_15 : decode cX2_lowerAccess 15 = .ok (.aload_n 0, 1) := by decide +kernel
theorem dX2_lowerAccess_16 : decode cX2_lowerAccess 16 = .ok (.iload_n 1, 1) := by decide +kernel
theorem dX2_lowerAccess_17 : decode cX2_lowerAccess 17 = .ok (.invokevirtual 93, 3) := by decide +kernel
theorem dX2_lowerAccess_20 : decode cX2_lowerAccess 20 = .ok (.if_icmp .le 6, 3) := by decide +kernel
theorem dX2_lowerAccess_23 : decode cX2_lowerAccess 23 = .ok (.bipush (-3), 2) := by decide +kernel
theorem dX2_lowerAccess_25 : decode cX2_lowerAccess 25 = .ok (.ireturn, 1) := by decide +kernel
theorem dX2_lowerAccess_26 : decode cX2_lowerAccess 26 = .ok (.aload_n 0, 1) := by decide +kernel
theorem dX2_lowerAccess_27 : decode cX2_lowerAccess 27 = .ok (.getfield 34, 3) := by decide +kernel
theorem dX2_lowerAccess_30 : decode cX2_lowerAccess 30 = .ok (.getfield 206, 3) := by decide +kernel
theorem dX2_lowerAccess_33 : decode cX2_lowerAccess 33 = .ok (.aload_n 0, 1) := by decide +kernel
theorem dX2_lowerAccess_34 : decode cX2_lowerAccess 34 = .ok (.iload_n 1, 1) := by decide +kernel
theorem dX2_lowerAccess_35 : decode cX2_lowerAccess 35 = .ok (.invokevirtual 209, 3) := by decide +kernel
theorem dX2_lowerAccess_38 : decode cX2_lowerAccess 38 = .ok (.iload_n 2, 1) := by decide +kernel
theorem dX2_lowerAccess_39 : decode cX2_lowerAccess 39 = .ok (.invokevirtual 100, 3) := by decide +kernel
theorem dX2_lowerAccess_42 : decode cX2_lowerAccess 42 = .ok (.iconst 1, 1) := by decide +kernel
theorem dX2_lowerAccess_43 : decode cX2_lowerAccess 43 = .ok (.ireturn, 1) := by decide +kernel
set_option maxRecDepth 20000 in
theorem ggX2_letGrow_X1_at : GoodIn wsX2_letGrow wsX1_at := goodIn_r _ [9, 10, 32, 33] (by decide +kernel) (by decide +kernel)
set_option maxRecDepth 20000 in
theorem gX2_letGrow_X1_at : GoodIn wsX2_letGrow (wsV RX2 84 RX1 yX1_at wsX1_at) := goodIn_app (goodIn_of _ (by decide +kernel)) ggX2_letGrow_X1_at
set_option maxRecDepth 20000 in
theorem ggX2_letGrow_X1_set : GoodIn wsX2_letGrow wsX1_set := goodIn_r _ [14, 10, 32, 33] (by decide +kernel) (by decide +kernel)
set_option maxRecDepth 20000 in
theorem gX2_letGrow_X1_set : GoodIn wsX2_letGrow (wsV RX2 100 RX1 yX1_set wsX1_set) := goodIn_app (goodIn_of _ (by decide +kernel)) ggX2_letGrow_X1_set
theorem dX2_letGrow_0 : decode cX2_letGrow 0 = .ok (.aload_n 0, 1) := by decide +kernel
theorem dX2_letGrow_1 : decode cX2_letGrow 1 = .ok (.getfield 12, 3) := by decide +kernel
theorem dX2_letGrow_4 : decode cX2_letGrow 4 = .ok (.iload_n 1, 1) := by decide +kernel
theorem dX2_letGrow_5 : decode cX2_letGrow 5 = .ok (.invokevirtual 84, 3) := by decide +kernel
theorem dX2_letGrow_8 : decode cX2_letGrow 8 = .ok (.bipush 7, 2) := by decide +kernel
theorem dX2_letGrow_10 : decode cX2_letGrow 10 = .ok (.if_icmp .eq 6, 3) := by decide +kernel
theorem dX2_letGrow_13 : decode cX2_letGrow 13 = .ok (.bipush (-3), 2) := by decide +kernel
theorem dX2_letGrow_15 : decode cX2_letGrow 15 = .ok (.ireturn, 1) := by decide +kernel
theorem dX2_letGrow_16 : decode cX2_letGrow 16 = .ok (.aload_n 0, 1) := by decide +kernel
theorem dX2_letGrow_17 : decode cX2_letGrow 17 = .ok (.getfield 34, 3) := by decide +kernel
theorem dX2_letGrow_20 : decode cX2_letGrow 20 = .ok (.getfield 135, 3) := by decide +kernel
theorem dX2_letGrow_23 : decode cX2_letGrow 23 = .ok (.aload_n 0, 1) := by decide +kernel
theorem dX2_letGrow_24 : decode cX2_letGrow 24 = .ok (.getfield 19, 3) := by decide +kernel
theorem dX2_letGrow_27 : decode cX2_letGrow 27 = .ok (.iload_n 1, 1) := by decide +kernel
theorem dX2_letGrow_28 : decode cX2_letGrow 28 = .ok (.invokevirtual 84, 3) := by decide +kernel
theorem dX2_letGrow_31 : decode cX2_letGrow 31 = .ok (.iload_n 2, 1) := by decide +kernel
theorem dX2_letGrow_32 : decode cX2_letGrow 32 = .ok (.invokevirtual 100, 3) := by decide +kernel
theorem dX2_letGrow_35 : decode cX2_letGrow 35 = .ok (.iconst 1, 1) := by decide +kernel
theorem dX2_letGrow_36 : decode cX2_letGrow 36 = .ok (.ireturn, 1) := by decide +kernel
set_option maxRecDepth 20000 in
theorem ggX2_alike_X1_at : GoodIn wsX2_alike wsX1_at := goodIn_r _ [6, 7, 80, 81] (by decide +kernel) (by decide +kernel)
set_option maxRecDepth 20000 in
theorem gX2_alike_X1_at : GoodIn wsX2_alike (wsV RX2 84 RX1 yX1_at wsX1_at) := goodIn_app (goodIn_of _ (by decide +kernel)) ggX2_alike_X1_at
set_option maxRecDepth 20000 in
theorem ggX2_alike_X2_readableString : GoodIn wsX2_alike wsX2_readableString := goodIn_r _ [12, 1, 2, 3, 4, 5, 6, 7, 13, 14, 15, 11, 16, 17, 18, 19, 20, 21, 22, 23, 70, 71, 72, 73, 74, 75, 76, 77, 78, 79, 80, 81, 82, 83, 84, 85, 86, 87, 88] (by decide +kernel) (by decide +kernel)
set_option maxRecDepth 20000 in
theorem gX2_alike_X2_readableString : GoodIn wsX2_alike (wsV RX2 150 RX2 yX2_readableString wsX2_readableString) := goodIn_app (goodIn_of _ (by decide +kernel)) ggX2_alike_X2_readableString
set_option maxRecDepth 20000 in
theorem ggX2_alike_X2_orderOfBytes : GoodIn wsX2_alike wsX2_orderOfBytes := goodIn_r _ [27, 28, 29, 30, 31, 32, 2, 3, 4, 5, 6, 7, 33, 34, 35, 11, 36, 1, 37, 38, 39, 40, 41, 42, 17, 43, 44, 45, 46, 70, 71, 72, 73, 74, 75, 76, 77, 78, 79, 80, 81, 82, 83, 84, 85, 86, 87, 88] (by decide +kernel) (by decide +kernel)
set_option maxRecDepth 20000 in
theorem gX2_alike_X2_orderOfBytes : GoodIn wsX2_alike (wsV RX2 153 RX2 yX2_orderOfBytes wsX2_orderOfBytes) := goodIn_app (goodIn_of _ (by decide +kernel)) ggX2_alike_X2_orderOfBytes
set_option maxRecDepth 20000 in
theorem ggX2_alike_X2_nameOf : GoodIn wsX2_alike wsX2_nameOf := goodIn_r _ [50, 1, 51, 2, 3, 4, 5, 6, 7, 8, 9, 10, 11, 12, 13, 14, 15, 16, 17, 18, 19, 20, 21, 22, 23, 52, 53, 54, 55, 28, 33, 34, 35, 36, 37, 38, 39, 40, 41, 42, 43, 56, 57, 58, 70, 71, 72, 73, 74, 75, 76, 77, 78, 79, 80, 81, 82, 83, 84, 85, 86, 87, 88] (by decide +kernel) (by decide +kernel)
set_option maxRecDepth 20000 in
theorem gX2_alike_X2_nameOf : GoodIn wsX2_alike (wsV RX2 212 RX2 yX2_nameOf wsX2_nameOf) := goodIn_app (goodIn_of _ (by decide +kernel)) ggX2_alike_X2_nameOf
set_option maxRecDepth 20000 in
theorem ggX2_alike_X2_alikeButStrings : GoodIn wsX2_alike wsX2_alikeButStrings := goodIn_r _ [62, 1, 28, 2, 3, 4, 5, 6, 7, 63, 64, 11, 65, 66, 67, 68, 69, 23, 37, 51, 70, 71, 72, 73, 74, 75, 76, 77, 78, 79, 80, 81] (by decide +kernel) (by decide +kernel)
set_option maxRecDepth 20000 in
theorem gX2_alike_X2_alikeButStrings : GoodIn wsX2_alike (wsV RX2 215 RX2 yX2_alikeButStrings wsX2_alikeButStrings) := goodIn_app (goodIn_of _ (by decide +kernel)) ggX2_alike_X2_alikeButStrings
theorem dX2_alike_0 : decode cX2_alike 0 = .ok (.aload_n 0, 1) := by decide +kernel
theorem dX2_alike_1 : decode cX2_alike 1 = .ok (.getfield 12, 3) := by decide +kernel
theorem dX2_alike_4 : decode cX2_alike 4 = .ok (.iload_n 1, 1) := by decide +kernel
theorem dX2_alike_5 : decode cX2_alike 5 = .ok (.invokevirtual 84, 3) := by decide +kernel
theorem dX2_alike_8 : decode cX2_alike 8 = .ok (.istore_n 3, 1) := by decide +kernel
theorem dX2_alike_9 : decode cX2_alike 9 = .ok (.aload_n 0, 1) := by decide +kernel
theorem dX2_alike_10 : decode cX2_alike 10 = .ok (.getfield 12, 3) := by decide +kernel
theorem dX2_alike_13 : decode cX2_alike 13 = .ok (.iload_n 2, 1) := by decide +kernel
theorem dX2_alike_14 : decode cX2_alike 14 = .ok (.invokevirtual 84, 3) := by decide +kernel
theorem dX2_alike_17 : decode cX2_alike 17 = .ok (.istore 4, 2) := by decide +kernel
theorem dX2_alike_19 : decode cX2_alike 19 = .ok (.iload_n 3, 1) := by decide +kernel
theorem dX2_alike_20 : decode cX2_alike 20 = .ok (.iconst 4, 1) := by decide +kernel
theorem dX2_alike_21 : decode cX2_alike 21 = .ok (.if_icmp .ne 41, 3) := by decide +kernel
theorem dX2_alike_24 : decode cX2_alike 24 = .ok (.iload 4, 2) := by decide +kernel
theorem dX2_alike_26 : decode cX2_alike 26 = .ok (.iconst 4, 1) := by decide +kernel
theorem dX2_alike_27 : decode cX2_alike 27 = .ok (.if_icmp .ne 35, 3) := by decide +kernel
theorem dX2_alike_30 : decode cX2_alike 30 = .ok (.aload_n 0, 1) := by decide +kernel
theorem dX2_alike_31 : decode cX2_alike 31 = .ok (.iload_n 1, 1) := by decide +kernel
theorem dX2_alike_32 : decode cX2_alike 32 = .ok (.invokevirtual 150, 3) := by decide +kernel
theorem dX2_alike_35 : decode cX2_alike 35 = .ok (.ifCond .eq 25, 3) := by decide +kernel
theorem dX2_alike_38 : decode cX2_alike 38 = .ok (.aload_n 0, 1) := by decide +kernel
theorem dX2_alike_39 : decode cX2_alike 39 = .ok (.iload_n 2, 1) := by decide +kernel
theorem dX2_alike_40 : decode cX2_alike 40 = .ok (.invokevirtual 150, 3) := by decide +kernel
theorem dX2_alike_43 : decode cX2_alike 43 = .ok (.ifCond .eq 17, 3) := by decide +kernel
theorem dX2_alike_46 : decode cX2_alike 46 = .ok (.aload_n 0, 1) := by decide +kernel
theorem dX2_alike_47 : decode cX2_alike 47 = .ok (.iload_n 1, 1) := by decide +kernel
theorem dX2_alike_48 : decode cX2_alike 48 = .ok (.iload_n 2, 1) := by decide +kernel
theorem dX2_alike_49 : decode cX2_alike 49 = .ok (.invokevirtual 153, 3) := by decide +kernel
theorem dX2_alike_52 : decode cX2_alike 52 = .ok (.iconst 1, 1) := by decide +kernel
theorem dX2_alike_53 : decode cX2_alike 53 = .ok (.if_icmp .ne 7, 3) := by decide +kernel
theorem dX2_alike_56 : decode cX2_alike 56 = .ok (.iconst 1, 1) := by decide +kernel
theorem dX2_alike_57 : decode cX2_alike 57 = .ok (.goto 4, 3) := by decide +kernel
theorem dX2_alike_60 : decode cX2_alike 60 = .ok (.iconst 0, 1) := by decide +kernel
theorem dX2_alike_61 : decode cX2_alike 61 = .ok (.ireturn, 1) := by decide +kernel
theorem dX2_alike_62 : decode cX2_alike 62 = .ok (.iload_n 3, 1) := by decide +kernel
theorem dX2_alike_63 : decode cX2_alike 63 = .ok (.iconst 4, 1) := by decide +kernel
theorem dX2_alike_64 : decode cX2_alike 64 = .ok (.if_icmp .eq 9, 3) := by decide +kernel
theorem dX2_alike_67 : decode cX2_alike 67 = .ok (.iload 4, 2) := by decide +kernel
theorem dX2_alike_69 : decode cX2_alike 69 = .ok (.iconst 4, 1) := by decide +kernel
theorem dX2_alike_70 : decode cX2_alike 70 = .ok (.if_icmp .ne 31, 3) := by decide +kernel
theorem dX2_alike_73 : decode cX2_alike 73 = .ok (.aload_n 0, 1) := by decide +kernel
theorem dX2_alike_74 : decode cX2_alike 74 = .ok (.iload_n 1, 1) := by decide +kernel
theorem dX2_alike_75 : decode cX2_alike 75 = .ok (.invokevirtual 212, 3) := by decide +kernel
theorem dX2_alike_78 : decode cX2_alike 78 = .ok (.iconst (-1), 1) := by decide +kernel
theorem dX2_alike_79 : decode cX2_alike 79 = .ok (.if_icmp .eq 20, 3) := by decide +kernel
theorem dX2_alike_82 : decode cX2_alike 82 = .ok (.aload_n 0, 1) := by decide +kernel
theorem dX2_alike_83 : decode cX2_alike 83 = .ok (.iload_n 1, 1) := by decide +kernel
theorem dX2_alike_84 : decode cX2_alike 84 = .ok (.invokevirtual 212, 3) := by decide +kernel
theorem dX2_alike_87 : decode cX2_alike 87 = .ok (.aload_n 0, 1) := by decide +kernel
theorem dX2_alike_88 : decode cX2_alike 88 = .ok (.iload_n 2, 1) := by decide +kernel
theorem dX2_alike_89 : decode cX2_alike 89 = .ok (.invokevirtual 212, 3) := by decide +kernel
theorem dX2_alike_92 : decode cX2_alike 92 = .ok (.if_icmp .ne 7, 3) := by decide +kernel
theorem dX2_alike_95 : decode cX2_alike 95 = .ok (.iconst 1, 1) := by decide +kernel
theorem dX2_alike_96 : decode cX2_alike 96 = .ok (.goto 4, 3) := by decide +kernel
theorem dX2_alike_99 : decode cX2_alike 99 = .ok (.iconst 0, 1) := by decide +kernel
theorem dX2_alike_100 : decode cX2_alike 100 = .ok (.ireturn, 1) := by decide +kernel
theorem dX2_alike_101 : decode cX2_alike 101 = .ok (.aload_n 0, 1) := by decide +kernel
theorem dX2_alike_102 : decode cX2_alike 102 = .ok (.iload_n 1, 1) := by decide +kernel
theorem dX2_alike_103 : decode cX2_alike 103 = .ok (.iload_n 2, 1) := by decide +kernel
theorem dX2_alike_104 : decode cX2_alike 104 = .ok (.invokevirtual 215, 3) := by decide +kernel
theorem dX2_alike_107 : decode cX2_alike 107 = .ok (.ireturn, 1) := by decide +kernel
set_option maxRecDepth 20000 in
theorem ggX2_alikeButStrings_X1_at : GoodIn wsX2_alikeButStrings wsX1_at := goodIn_r _ [7, 8, 30, 31] (by decide +kernel) (by decide +kernel)
set_option maxRecDepth 20000 in
theorem gX2_alikeButStrings_X1_at : GoodIn wsX2_alikeButStrings (wsV RX2 84 RX1 yX1_at wsX1_at) := goodIn_app (goodIn_of _ (by decide +kernel)) ggX2_alikeButStrings_X1_at
set_option maxRecDepth 20000 in
theorem ggX2_alikeButStrings_X2_isList : GoodIn wsX2_alikeButStrings wsX2_isList := goodIn_r _ [12] (by decide +kernel) (by decide +kernel)
set_option maxRecDepth 20000 in
theorem gX2_alikeButStrings_X2_isList : GoodIn wsX2_alikeButStrings (va_wsS RX2 191 yX2_isList wsX2_isList) := goodIn_app (goodIn_of _ (by decide +kernel)) ggX2_alikeButStrings_X2_isList
set_option maxRecDepth 20000 in
theorem ggX2_alikeButStrings_X2_alikeOfKind : GoodIn wsX2_alikeButStrings wsX2_alikeOfKind := goodIn_r _ [16, 17, 18, 2, 19, 3, 4, 5, 6, 7, 8, 20, 21, 22, 23, 24, 25, 26, 27, 28, 29, 30, 31] (by decide +kernel) (by decide +kernel)
set_option maxRecDepth 20000 in
theorem gX2_alikeButStrings_X2_alikeOfKind : GoodIn wsX2_alikeButStrings (wsV RX2 218 RX2 yX2_alikeOfKind wsX2_alikeOfKind) := goodIn_app (goodIn_of _ (by decide +kernel)) ggX2_alikeButStrings_X2_alikeOfKind
theorem dX2_alikeButStrings_0 : decode cX2_alikeButStrings 0 = .ok (.aload_n 0, 1) := by decide +kernel
theorem dX2_alikeButStrings_1 : decode cX2_alikeButStrings 1 = .ok (.getfield 12, 3) := by decide +kernel
theorem dX2_alikeButStrings_4 : decode cX2_alikeButStrings 4 = .ok (.iload_n 1, 1) := by decide +kernel
theorem dX2_alikeButStrings_5 : decode cX2_alikeButStrings 5 = .ok (.invokevirtual 84, 3) := by decide +kernel
theorem dX2_alikeButStrings_8 : decode cX2_alikeButStrings 8 = .ok (.istore_n 3, 1) := by decide +kernel
theorem dX2_alikeButStrings_9 : decode cX2_alikeButStrings 9 = .ok (.aload_n 0, 1) := by decide +kernel
theorem dX2_alikeButStrings_10 : decode cX2_alikeButStrings 10 = .ok (.getfield 12, 3) := by decide +kernel
theorem dX2_alikeButStrings_13 : decode cX2_alikeButStrings 13 = .ok (.iload_n 2, 1) := by decide +kernel
theorem dX2_alikeButStrings_14 : decode cX2_alikeButStrings 14 = .ok (.invokevirtual 84, 3) := by decide +kernel
theorem dX2_alikeButStrings_17 : decode cX2_alikeButStrings 17 = .ok (.istore 4, 2) := by decide +kernel
theorem dX2_alikeButStrings_19 : decode cX2_alikeButStrings 19 = .ok (.iload_n 3, 1) := by decide +kernel
theorem dX2_alikeButStrings_20 : decode cX2_alikeButStrings 20 = .ok (.invokestatic 191, 3) := by decide +kernel
theorem dX2_alikeButStrings_23 : decode cX2_alikeButStrings 23 = .ok (.ifCond .eq 35, 3) := by decide +kernel
theorem dX2_alikeButStrings_26 : decode cX2_alikeButStrings 26 = .ok (.iload 4, 2) := by decide +kernel
theorem dX2_alikeButStrings_28 : decode cX2_alikeButStrings 28 = .ok (.invokestatic 191, 3) := by decide +kernel
theorem dX2_alikeButStrings_31 : decode cX2_alikeButStrings 31 = .ok (.ifCond .eq 27, 3) := by decide +kernel
theorem dX2_alikeButStrings_34 : decode cX2_alikeButStrings 34 = .ok (.aload_n 0, 1) := by decide +kernel
theorem dX2_alikeButStrings_35 : decode cX2_alikeButStrings 35 = .ok (.getfield 25, 3) := by decide +kernel
theorem dX2_alikeButStrings_38 : decode cX2_alikeButStrings 38 = .ok (.iload_n 1, 1) := by decide +kernel
theorem dX2_alikeButStrings_39 : decode cX2_alikeButStrings 39 = .ok (.invokevirtual 84, 3) := by decide +kernel
theorem dX2_alikeButStrings_42 : decode cX2_alikeButStrings 42 = .ok (.ifCond .ne 16, 3) := by decide +kernel
theorem dX2_alikeButStrings_45 : decode cX2_alikeButStrings 45 = .ok (.aload_n 0, 1) := by decide +kernel
theorem dX2_alikeButStrings_46 : decode cX2_alikeButStrings 46 = .ok (.getfield 25, 3) := by decide +kernel
theorem dX2_alikeButStrings_49 : decode cX2_alikeButStrings 49 = .ok (.iload_n 2, 1) := by decide +kernel
theorem dX2_alikeButStrings_50 : decode cX2_alikeButStrings 50 = .ok (.invokevirtual 84, 3) := by decide +kernel
theorem dX2_alikeButStrings_53 : decode cX2_alikeButStrings 53 = .ok (.ifCond .ne 5, 3) := by decide +kernel
theorem dX2_alikeButStrings_56 : decode cX2_alikeButStrings 56 = .ok (.iconst 1, 1) := by decide +kernel
theorem dX2_alikeButStrings_57 : decode cX2_alikeButStrings 57 = .ok (.ireturn, 1) := by decide +kernel
theorem dX2_alikeButStrings_58 : decode cX2_alikeButStrings 58 = .ok (.iload_n 3, 1) := by decide +kernel
theorem dX2_alikeButStrings_59 : decode cX2_alikeButStrings 59 = .ok (.iload 4, 2) := by decide +kernel
theorem dX2_alikeButStrings_61 : decode cX2_alikeButStrings 61 = .ok (.if_icmp .ne 17, 3) := by decide +kernel
theorem dX2_alikeButStrings_64 : decode cX2_alikeButStrings 64 = .ok (.aload_n 0, 1) := by decide +kernel
theorem dX2_alikeButStrings_65 : decode cX2_alikeButStrings 65 = .ok (.iload_n 3, 1) := by decide +kernel
theorem dX2_alikeButStrings_66 : decode cX2_alikeButStrings 66 = .ok (.iload_n 1, 1) := by decide +kernel
theorem dX2_alikeButStrings_67 : decode cX2_alikeButStrings 67 = .ok (.iload_n 2, 1) := by decide +kernel
theorem dX2_alikeButStrings_68 : decode cX2_alikeButStrings 68 = .ok (.invokevirtual 218, 3) := by decide +kernel
theorem dX2_alikeButStrings_71 : decode cX2_alikeButStrings 71 = .ok (.ifCond .eq 7, 3) := by decide +kernel
theorem dX2_alikeButStrings_74 : decode cX2_alikeButStrings 74 = .ok (.iconst 1, 1) := by decide +kernel
theorem dX2_alikeButStrings_75 : decode cX2_alikeButStrings 75 = .ok (.goto 4, 3) := by decide +kernel
theorem dX2_alikeButStrings_78 : decode cX2_alikeButStrings 78 = .ok (.iconst 0, 1) := by decide +kernel
theorem dX2_alikeButStrings_79 : decode cX2_alikeButStrings 79 = .ok (.ireturn, 1) := by decide +kernel
set_option maxRecDepth 20000 in
theorem ggX2_alikeOfKind_X1_at : GoodIn wsX2_alikeOfKind wsX1_at := goodIn_r _ [9, 10, 21, 22] (by decide +kernel) (by decide +kernel)
set_option maxRecDepth 20000 in
theorem gX2_alikeOfKind_X1_at : GoodIn wsX2_alikeOfKind (wsV RX2 84 RX1 yX1_at wsX1_at) := goodIn_app (goodIn_of _ (by decide +kernel)) ggX2_alikeOfKind_X1_at
theorem dX2_alikeOfKind_0 : decode cX2_alikeOfKind 0 = .ok (.iload_n 1, 1) := by decide +kernel
theorem dX2_alikeOfKind_1 : decode cX2_alikeOfKind 1 = .ok (.tableswitch 164 0 11 #[63, 164, 164, 164, 164, 65, 65, 128, 63, 164, 164, 153], 63) := by decide +kernel
theorem dX2_alikeOfKind_64 : decode cX2_alikeOfKind 64 = .ok (.iconst 1, 1) := by decide +kernel
theorem dX2_alikeOfKind_65 : decode cX2_alikeOfKind 65 = .ok (.ireturn, 1) := by decide +kernel
theorem dX2_alikeOfKind_66 : decode cX2_alikeOfKind 66 = .ok (.aload_n 0, 1) := by decide +kernel
theorem dX2_alikeOfKind_67 : decode cX2_alikeOfKind 67 = .ok (.getfield 19, 3) := by decide +kernel
theorem dX2_alikeOfKind_70 : decode cX2_alikeOfKind 70 = .ok (.iload_n 2, 1) := by decide +kernel
theorem dX2_alikeOfKind_71 : decode cX2_alikeOfKind 71 = .ok (.invokevirtual 84, 3) := by decide +kernel
theorem dX2_alikeOfKind_74 : decode cX2_alikeOfKind 74 = .ok (.aload_n 0, 1) := by decide +kernel
theorem dX2_alikeOfKind_75 : decode cX2_alikeOfKind 75 = .ok (.getfield 19, 3) := by decide +kernel
theorem dX2_alikeOfKind_78 : decode cX2_alikeOfKind 78 = .ok (.iload_n 3, 1) := by decide +kernel
theorem dX2_alikeOfKind_79 : decode cX2_alikeOfKind 79 = .ok (.invokevirtual 84, 3) := by decide +kernel
theorem dX2_alikeOfKind_82 : decode cX2_alikeOfKind 82 = .ok (.if_icmp .ne 45, 3) := by decide +kernel
theorem dX2_alikeOfKind_85 : decode cX2_alikeOfKind 85 = .ok (.aload_n 0, 1) := by decide +kernel
theorem dX2_alikeOfKind_86 : decode cX2_alikeOfKind 86 = .ok (.getfield 22, 3) := by decide +kernel
theorem dX2_alikeOfKind_89 : decode cX2_alikeOfKind 89 = .ok (.iload_n 2, 1) := by decide +kernel
theorem dX2_alikeOfKind_90 : decode cX2_alikeOfKind 90 = .ok (.invokevirtual 84, 3) := by decide +kernel
theorem dX2_alikeOfKind_93 : decode cX2_alikeOfKind 93 = .ok (.aload_n 0, 1) := by decide +kernel
theorem dX2_alikeOfKind_94 : decode cX2_alikeOfKind 94 = .ok (.getfield 22, 3) := by decide +kernel
theorem dX2_alikeOfKind_97 : decode cX2_alikeOfKind 97 = .ok (.iload_n 3, 1) := by decide +kernel
theorem dX2_alikeOfKind_98 : decode cX2_alikeOfKind 98 = .ok (.invokevirtual 84, 3) := by decide +kernel
theorem dX2_alikeOfKind_101 : decode cX2_alikeOfKind 101 = .ok (.if_icmp .ne 26, 3) := by decide +kernel
theorem dX2_alikeOfKind_104 : decode cX2_alikeOfKind 104 = .ok (.aload_n 0, 1) := by decide +kernel
theorem dX2_alikeOfKind_105 : decode cX2_alikeOfKind 105 = .ok (.getfield 25, 3) := by decide +kernel
theorem dX2_alikeOfKind_108 : decode cX2_alikeOfKind 108 = .ok (.iload_n 2, 1) := by decide +kernel
theorem dX2_alikeOfKind_109 : decode cX2_alikeOfKind 109 = .ok (.invokevirtual 84, 3) := by decide +kernel
theorem dX2_alikeOfKind_112 : decode cX2_alikeOfKind 112 = .ok (.aload_n 0, 1) := by decide +kernel
theorem dX2_alikeOfKind_113 : decode cX2_alikeOfKind 113 = .ok (.getfield 25, 3) := by decide +kernel
theorem dX2_alikeOfKind_116 : decode cX2_alikeOfKind 116 = .ok (.iload_n 3, 1) := by decide +kernel
theorem dX2_alikeOfKind_117 : decode cX2_alikeOfKind 117 = .ok (.invokevirtual 84, 3) := by decide +kernel
theorem dX2_alikeOfKind_120 : decode cX2_alikeOfKind 120 = .ok (.if_icmp .ne 7, 3) := by decide +kernel
theorem dX2_alikeOfKind_123 : decode cX2_alikeOfKind 123 = .ok (.iconst 1, 1) := by decide +kernel
theorem dX2_alikeOfKind_124 : decode cX2_alikeOfKind 124 = .ok (.goto 4, 3) := by decide +kernel
theorem dX2_alikeOfKind_127 : decode cX2_alikeOfKind 127 = .ok (.iconst 0, 1) := by decide +kernel
theorem dX2_alikeOfKind_128 : decode cX2_alikeOfKind 128 = .ok (.ireturn, 1) := by decide +kernel
theorem dX2_alikeOfKind_129 : decode cX2_alikeOfKind 129 = .ok (.aload_n 0, 1) := by decide +kernel
theorem dX2_alikeOfKind_130 : decode cX2_alikeOfKind 130 = .ok (.getfield 19, 3) := by decide +kernel
theorem dX2_alikeOfKind_133 : decode cX2_alikeOfKind 133 = .ok (.iload_n 2, 1) := by decide +kernel
theorem dX2_alikeOfKind_134 : decode cX2_alikeOfKind 134 = .ok (.invokevirtual 84, 3) := by decide +kernel
theorem dX2_alikeOfKind_137 : decode cX2_alikeOfKind 137 = .ok (.aload_n 0, 1) := by decide +kernel
theorem dX2_alikeOfKind_138 : decode cX2_alikeOfKind 138 = .ok (.getfield 19, 3) := by decide +kernel
theorem dX2_alikeOfKind_141 : decode cX2_alikeOfKind 141 = .ok (.iload_n 3, 1) := by decide +kernel
theorem dX2_alikeOfKind_142 : decode cX2_alikeOfKind 142 = .ok (.invokevirtual 84, 3) := by decide +kernel
theorem dX2_alikeOfKind_145 : decode cX2_alikeOfKind 145 = .ok (.if_icmp .ne 7, 3) := by decide +kernel
theorem dX2_alikeOfKind_148 : decode cX2_alikeOfKind 148 = .ok (.iconst 1, 1) := by decide +kernel
theorem dX2_alikeOfKind_149 : decode cX2_alikeOfKind 149 = .ok (.goto 4, 3) := by decide +kernel
theorem dX2_alikeOfKind_152 : decode cX2_alikeOfKind 152 = .ok (.iconst 0, 1) := by decide +kernel
theorem dX2_alikeOfKind_153 : decode cX2_alikeOfKind 153 = .ok (.ireturn, 1) := by decide +kernel
theorem dX2_alikeOfKind_154 : decode cX2_alikeOfKind 154 = .ok (.iload_n 2, 1) := by decide +kernel
theorem dX2_alikeOfKind_155 : decode cX2_alikeOfKind 155 = .ok (.iload_n 3, 1) := by decide +kernel
theorem dX2_alikeOfKind_156 : decode cX2_alikeOfKind 156 = .ok (.if_icmp .ne 7, 3) := by decide +kernel
theorem dX2_alikeOfKind_159 : decode cX2_alikeOfKind 159 = .ok (.iconst 1, 1) := by decide +kernel
theorem dX2_alikeOfKind_160 : decode cX2_alikeOfKind 160 = .ok (.goto 4, 3) := by decide +kernel
theorem dX2_alikeOfKind_163 : decode cX2_alikeOfKind 163 = .ok (.iconst 0, 1) := by decide +kernel
theorem dX2_alikeOfKind_164 : decode cX2_alikeOfKind 164 = .ok (.ireturn, 1) := by decide +kernel
theorem dX2_alikeOfKind_165 : decode cX2_alikeOfKind 165 = .ok (.aload_n 0, 1) := by decide +kernel
theorem dX2_alikeOfKind_166 : decode cX2_alikeOfKind 166 = .ok (.getfield 16, 3) := by decide +kernel
theorem dX2_alikeOfKind_169 : decode cX2_alikeOfKind 169 = .ok (.iload_n 2, 1) := by decide +kernel
theorem dX2_alikeOfKind_170 : decode cX2_alikeOfKind 170 = .ok (.invokevirtual 84, 3) := by decide +kernel
theorem dX2_alikeOfKind_173 : decode cX2_alikeOfKind 173 = .ok (.aload_n 0, 1) := by decide +kernel
theorem dX2_alikeOfKind_174 : decode cX2_alikeOfKind 174 = .ok (.getfield 16, 3) := by decide +kernel
theorem dX2_alikeOfKind_177 : decode cX2_alikeOfKind 177 = .ok (.iload_n 3, 1) := by decide +kernel
theorem dX2_alikeOfKind_178 : decode cX2_alikeOfKind 178 = .ok (.invokevirtual 84, 3) := by decide +kernel
theorem dX2_alikeOfKind_181 : decode cX2_alikeOfKind 181 = .ok (.if_icmp .ne 7, 3) := by decide +kernel
theorem dX2_alikeOfKind_184 : decode cX2_alikeOfKind 184 = .ok (.iconst 1, 1) := by decide +kernel
theorem dX2_alikeOfKind_185 : decode cX2_alikeOfKind 185 = .ok (.goto 4, 3) := by decide +kernel
theorem dX2_alikeOfKind_188 : decode cX2_alikeOfKind 188 = .ok (.iconst 0, 1) := by decide +kernel
theorem dX2_alikeOfKind_189 : decode cX2_alikeOfKind 189 = .ok (.ireturn, 1) := by decide +kernel
set_option maxRecDepth 20000 in
theorem ggX2_readableString_X1_at : GoodIn wsX2_readableString wsX1_at := goodIn_r _ [6, 7, 30, 31] (by decide +kernel) (by decide +kernel)
set_option maxRecDepth 20000 in
theorem gX2_readableString_X1_at : GoodIn wsX2_readableString (wsV RX2 84 RX1 yX1_at wsX1_at) := goodIn_app (goodIn_of _ (by decide +kernel)) ggX2_readableString_X1_at
set_option maxRecDepth 20000 in
theorem ggX2_readableString_X2_accessOf : GoodIn wsX2_readableString wsX2_accessOf := goodIn_r _ [12, 13, 14, 15, 16, 17, 11, 18, 1, 19, 2, 3, 4, 5, 6, 7, 20, 21, 22, 23, 24, 25, 26, 27, 28, 29, 32, 33, 34, 35, 36, 37, 38, 30, 31] (by decide +kernel) (by decide +kernel)
set_option maxRecDepth 20000 in
theorem gX2_readableString_X2_accessOf : GoodIn wsX2_readableString (wsV RX2 93 RX2 yX2_accessOf wsX2_accessOf) := goodIn_app (goodIn_of _ (by decide +kernel)) ggX2_readableString_X2_accessOf
theorem dX2_readableString_0 : decode cX2_readableString 0 = .ok (.aload_n 0, 1) := by decide +kernel
theorem dX2_readableString_1 : decode cX2_readableString 1 = .ok (.getfield 12, 3) := by decide +kernel
theorem dX2_readableString_4 : decode cX2_readableString 4 = .ok (.iload_n 1, 1) := by decide +kernel
theorem dX2_readableString_5 : decode cX2_readableString 5 = .ok (.invokevirtual 84, 3) := by decide +kernel
theorem dX2_readableString_8 : decode cX2_readableString 8 = .ok (.iconst 4, 1) := by decide +kernel
theorem dX2_readableString_9 : decode cX2_readableString 9 = .ok (.if_icmp .ne 16, 3) := by decide +kernel
theorem dX2_readableString_12 : decode cX2_readableString 12 = .ok (.aload_n 0, 1) := by decide +kernel
theorem dX2_readableString_13 : decode cX2_readableString 13 = .ok (.iload_n 1, 1) := by decide +kernel
theorem dX2_readableString_14 : decode cX2_readableString 14 = .ok (.invokevirtual 93, 3) := by decide +kernel
theorem dX2_readableString_17 : decode cX2_readableString 17 = .ok (.iconst 2, 1) := by decide +kernel
theorem dX2_readableString_18 : decode cX2_readableString 18 = .ok (.if_icmp .lt 7, 3) := by decide +kernel
theorem dX2_readableString_21 : decode cX2_readableString 21 = .ok (.iconst 1, 1) := by decide +kernel
theorem dX2_readableString_22 : decode cX2_readableString 22 = .ok (.goto 4, 3) := by decide +kernel
theorem dX2_readableString_25 : decode cX2_readableString 25 = .ok (.iconst 0, 1) := by decide +kernel
theorem dX2_readableString_26 : decode cX2_readableString 26 = .ok (.ireturn, 1) := by decide +kernel
theorem dX2_order_0 : decode cX2_order 0 = .ok (.iload_n 0, 1) := by decide +kernel
theorem dX2_order_1 : decode cX2_order 1 = .ok (.iload_n 1, 1) := by decide +kernel
theorem dX2_order_2 : decode cX2_order 2 = .ok (.if_icmp .ne 5, 3) := by decide +kernel
theorem dX2_order_5 : decode cX2_order 5 = .ok (.iconst 1, 1) := by decide +kernel
theorem dX2_order_6 : decode cX2_order 6 = .ok (.ireturn, 1) := by decide +kernel
theorem dX2_order_7 : decode cX2_order 7 = .ok (.iload_n 0, 1) := by decide +kernel
theorem dX2_order_8 : decode cX2_order 8 = .ok (.iload_n 1, 1) := by decide +kernel
theorem dX2_order_9 : decode cX2_order 9 = .ok (.if_icmp .ge 7, 3) := by decide +kernel
theorem dX2_order_12 : decode cX2_order 12 = .ok (.iconst 0, 1) := by decide +kernel
theorem dX2_order_13 : decode cX2_order 13 = .ok (.goto 4, 3) := by decide +kernel
theorem dX2_order_16 : decode cX2_order 16 = .ok (.iconst 2, 1) := by decide +kernel
theorem dX2_order_17 : decode cX2_order 17 = .ok (.ireturn, 1) := by decide +kernel
set_option maxRecDepth 20000 in
theorem ggX2_orderOfBytes_X1_at : GoodIn wsX2_orderOfBytes wsX1_at := goodIn_r _ [10, 11, 39, 40] (by decide +kernel) (by decide +kernel)
set_option maxRecDepth 20000 in
theorem gX2_orderOfBytes_X1_at : GoodIn wsX2_orderOfBytes (wsV RX2 84 RX1 yX1_at wsX1_at) := goodIn_app (goodIn_of _ (by decide +kernel)) ggX2_orderOfBytes_X1_at
set_option maxRecDepth 20000 in
theorem ggX2_orderOfBytes_X2_elementOf : GoodIn wsX2_orderOfBytes wsX2_elementOf := goodIn_r _ [16, 17, 18, 6, 7, 8, 9, 10, 11, 19, 20, 21, 15, 22, 23, 24, 25, 29, 30, 31, 32, 33, 34, 35, 36, 37, 38, 39, 40, 41, 42, 43, 44, 45, 46, 47] (by decide +kernel) (by decide +kernel)
set_option maxRecDepth 20000 in
theorem gX2_orderOfBytes_X2_elementOf : GoodIn wsX2_orderOfBytes (wsV RX2 114 RX2 yX2_elementOf wsX2_elementOf) := goodIn_app (goodIn_of _ (by decide +kernel)) ggX2_orderOfBytes_X2_elementOf
set_option maxRecDepth 20000 in
theorem ggX2_orderOfBytes_X2_order : GoodIn wsX2_orderOfBytes wsX2_order := goodIn_r _ [28] (by decide +kernel) (by decide +kernel)
set_option maxRecDepth 20000 in
theorem gX2_orderOfBytes_X2_order : GoodIn wsX2_orderOfBytes (va_wsS RX2 147 yX2_order wsX2_order) := goodIn_app (goodIn_of _ (by decide +kernel)) ggX2_orderOfBytes_X2_order
theorem dX2_orderOfBytes_0 : decode cX2_orderOfBytes 0 = .ok (.aload_n 0, 1) := by decide +kernel
theorem dX2_orderOfBytes_1 : decode cX2_orderOfBytes 1 = .ok (.getfield 25, 3) := by decide +kernel
theorem dX2_orderOfBytes_4 : decode cX2_orderOfBytes 4 = .ok (.iload_n 1, 1) := by decide +kernel
theorem dX2_orderOfBytes_5 : decode cX2_orderOfBytes 5 = .ok (.invokevirtual 84, 3) := by decide +kernel
theorem dX2_orderOfBytes_8 : decode cX2_orderOfBytes 8 = .ok (.aload_n 0, 1) := by decide +kernel
theorem dX2_orderOfBytes_9 : decode cX2_orderOfBytes 9 = .ok (.getfield 25, 3) := by decide +kernel
theorem dX2_orderOfBytes_12 : decode cX2_orderOfBytes 12 = .ok (.iload_n 2, 1) := by decide +kernel
theorem dX2_orderOfBytes_13 : decode cX2_orderOfBytes 13 = .ok (.invokevirtual 84, 3) := by decide +kernel
theorem dX2_orderOfBytes_16 : decode cX2_orderOfBytes 16 = .ok (.invokestatic 186, 3) := by decide +kernel
theorem dX2_orderOfBytes_19 : decode cX2_orderOfBytes 19 = .ok (.istore_n 3, 1) := by decide +kernel
theorem dX2_orderOfBytes_20 : decode cX2_orderOfBytes 20 = .ok (.iconst 0, 1) := by decide +kernel
theorem dX2_orderOfBytes_21 : decode cX2_orderOfBytes 21 = .ok (.istore 4, 2) := by decide +kernel
theorem dX2_orderOfBytes_23 : decode cX2_orderOfBytes 23 = .ok (.iload 4, 2) := by decide +kernel
theorem dX2_orderOfBytes_25 : decode cX2_orderOfBytes 25 = .ok (.iload_n 3, 1) := by decide +kernel
theorem dX2_orderOfBytes_26 : decode cX2_orderOfBytes 26 = .ok (.if_icmp .ge 37, 3) := by decide +kernel
theorem dX2_orderOfBytes_29 : decode cX2_orderOfBytes 29 = .ok (.aload_n 0, 1) := by decide +kernel
theorem dX2_orderOfBytes_30 : decode cX2_orderOfBytes 30 = .ok (.iload_n 1, 1) := by decide +kernel
theorem dX2_orderOfBytes_31 : decode cX2_orderOfBytes 31 = .ok (.iload 4, 2) := by decide +kernel
theorem dX2_orderOfBytes_33 : decode cX2_orderOfBytes 33 = .ok (.invokevirtual 114, 3) := by decide +kernel
theorem dX2_orderOfBytes_36 : decode cX2_orderOfBytes 36 = .ok (.aload_n 0, 1) := by decide +kernel
theorem dX2_orderOfBytes_37 : decode cX2_orderOfBytes 37 = .ok (.iload_n 2, 1) := by decide +kernel
theorem dX2_orderOfBytes_38 : decode cX2_orderOfBytes 38 = .ok (.iload 4, 2) := by decide +kernel
theorem dX2_orderOfBytes_40 : decode cX2_orderOfBytes 40 = .ok (.invokevirtual 114, 3) := by decide +kernel
theorem dX2_orderOfBytes_43 : decode cX2_orderOfBytes 43 = .ok (.invokestatic 147, 3) := by decide +kernel
theorem dX2_orderOfBytes_46 : decode cX2_orderOfBytes 46 = .ok (.istore 5, 2) := by decide +kernel
theorem dX2_orderOfBytes_48 : decode cX2_orderOfBytes 48 = .ok (.iload 5, 2) := by decide +kernel
theorem dX2_orderOfBytes_50 : decode cX2_orderOfBytes 50 = .ok (.iconst 1, 1) := by decide +kernel
theorem dX2_orderOfBytes_51 : decode cX2_orderOfBytes 51 = .ok (.if_icmp .eq 6, 3) := by decide +kernel
theorem dX2_orderOfBytes_54 : decode cX2_orderOfBytes 54 = .ok (.iload 5, 2) := by decide +kernel
theorem dX2_orderOfBytes_56 : decode cX2_orderOfBytes 56 = .ok (.ireturn, 1) := by decide +kernel
theorem dX2_orderOfBytes_57 : decode cX2_orderOfBytes 57 = .ok (.iinc 4 1, 3) := by decide +kernel
theorem dX2_orderOfBytes_60 : decode cX2_orderOfBytes 60 = .ok (.goto (-37), 3) := by decide +kernel
theorem dX2_orderOfBytes_63 : decode cX2_orderOfBytes 63 = .ok (.aload_n 0, 1) := by decide +kernel
theorem dX2_orderOfBytes_64 : decode cX2_orderOfBytes 64 = .ok (.getfield 25, 3) := by decide +kernel
theorem dX2_orderOfBytes_67 : decode cX2_orderOfBytes 67 = .ok (.iload_n 1, 1) := by decide +kernel
theorem dX2_orderOfBytes_68 : decode cX2_orderOfBytes 68 = .ok (.invokevirtual 84, 3) := by decide +kernel
theorem dX2_orderOfBytes_71 : decode cX2_orderOfBytes 71 = .ok (.aload_n 0, 1) := by decide +kernel
theorem dX2_orderOfBytes_72 : decode cX2_orderOfBytes 72 = .ok (.getfield 25, 3) := by decide +kernel
theorem dX2_orderOfBytes_75 : decode cX2_orderOfBytes 75 = .ok (.iload_n 2, 1) := by decide +kernel
theorem dX2_orderOfBytes_76 : decode cX2_orderOfBytes 76 = .ok (.invokevirtual 84, 3) := by decide +kernel
theorem dX2_orderOfBytes_79 : decode cX2_orderOfBytes 79 = .ok (.invokestatic 147, 3) := by decide +kernel
theorem dX2_orderOfBytes_82 : decode cX2_orderOfBytes 82 = .ok (.ireturn, 1) := by decide +kernel
theorem dX2_digits_0 : decode cX2_digits 0 = .ok (.iload_n 0, 1) := by decide +kernel
theorem dX2_digits_1 : decode cX2_digits 1 = .ok (.bipush 10, 2) := by decide +kernel
theorem dX2_digits_3 : decode cX2_digits 3 = .ok (.if_icmp .ge 5, 3) := by decide +kernel
theorem dX2_digits_6 : decode cX2_digits 6 = .ok (.iconst 1, 1) := by decide +kernel
theorem dX2_digits_7 : decode cX2_digits 7 = .ok (.ireturn, 1) := by decide +kernel
theorem dX2_digits_8 : decode cX2_digits 8 = .ok (.iload_n 0, 1) := by decide +kernel
theorem dX2_digits_9 : decode cX2_digits 9 = .ok (.bipush 100, 2) := by decide +kernel
theorem dX2_digits_11 : decode cX2_digits 11 = .ok (.if_icmp .ge 7, 3) := by decide +kernel
theorem dX2_digits_14 : decode cX2_digits 14 = .ok (.iconst 2, 1) := by decide +kernel
theorem dX2_digits_15 : decode cX2_digits 15 = .ok (.goto 4, 3) := by decide +kernel
theorem dX2_digits_18 : decode cX2_digits 18 = .ok (.iconst 3, 1) := by decide +kernel
theorem dX2_digits_19 : decode cX2_digits 19 = .ok (.ireturn, 1) := by decide +kernel
set_option maxRecDepth 20000 in
theorem ggX2_nameOf_X1_at : GoodIn wsX2_nameOf wsX1_at := goodIn_r _ [7, 8, 54, 55] (by decide +kernel) (by decide +kernel)
set_option maxRecDepth 20000 in
theorem gX2_nameOf_X1_at : GoodIn wsX2_nameOf (wsV RX2 84 RX1 yX1_at wsX1_at) := goodIn_app (goodIn_of _ (by decide +kernel)) ggX2_nameOf_X1_at
set_option maxRecDepth 20000 in
theorem ggX2_nameOf_X2_readableString : GoodIn wsX2_nameOf wsX2_readableString := goodIn_r _ [13, 1, 3, 4, 5, 6, 7, 8, 14, 15, 16, 12, 17, 18, 19, 20, 21, 22, 23, 24, 44, 45, 46, 47, 48, 49, 50, 51, 52, 53, 54, 55, 56, 57, 58, 59, 60, 61, 62] (by decide +kernel) (by decide +kernel)
set_option maxRecDepth 20000 in
theorem gX2_nameOf_X2_readableString : GoodIn wsX2_nameOf (wsV RX2 150 RX2 yX2_readableString wsX2_readableString) := goodIn_app (goodIn_of _ (by decide +kernel)) ggX2_nameOf_X2_readableString
set_option maxRecDepth 20000 in
theorem ggX2_nameOf_X2_numberInTens : GoodIn wsX2_nameOf wsX2_numberInTens := goodIn_r _ [28, 29, 3, 4, 5, 6, 7, 8, 30, 31, 32, 12, 33, 1, 34, 35, 36, 37, 38, 39, 18, 40, 41, 42, 43, 44, 45, 46, 47, 48, 49, 50, 51, 52, 53, 54, 55, 56, 57, 58, 59, 60, 61, 62] (by decide +kernel) (by decide +kernel)
set_option maxRecDepth 20000 in
theorem gX2_nameOf_X2_numberInTens : GoodIn wsX2_nameOf (wsV RX2 221 RX2 yX2_numberInTens wsX2_numberInTens) := goodIn_app (goodIn_of _ (by decide +kernel)) ggX2_nameOf_X2_numberInTens
theorem dX2_nameOf_0 : decode cX2_nameOf 0 = .ok (.aload_n 0, 1) := by decide +kernel
theorem dX2_nameOf_1 : decode cX2_nameOf 1 = .ok (.getfield 12, 3) := by decide +kernel
theorem dX2_nameOf_4 : decode cX2_nameOf 4 = .ok (.iload_n 1, 1) := by decide +kernel
theorem dX2_nameOf_5 : decode cX2_nameOf 5 = .ok (.invokevirtual 84, 3) := by decide +kernel
theorem dX2_nameOf_8 : decode cX2_nameOf 8 = .ok (.iconst 3, 1) := by decide +kernel
theorem dX2_nameOf_9 : decode cX2_nameOf 9 = .ok (.if_icmp .ne 12, 3) := by decide +kernel
theorem dX2_nameOf_12 : decode cX2_nameOf 12 = .ok (.aload_n 0, 1) := by decide +kernel
theorem dX2_nameOf_13 : decode cX2_nameOf 13 = .ok (.getfield 16, 3) := by decide +kernel
theorem dX2_nameOf_16 : decode cX2_nameOf 16 = .ok (.iload_n 1, 1) := by decide +kernel
theorem dX2_nameOf_17 : decode cX2_nameOf 17 = .ok (.invokevirtual 84, 3) := by decide +kernel
