theorem dX2_attribute_38 : decode cX2_attribute 38 = .ok (.ireturn, 1) := by decide +kernel
theorem dX2_attribute_39 : decode cX2_attribute 39 = .ok (.iload_n 2, 1) := by decide +kernel
theorem dX2_attribute_40 : decode cX2_attribute 40 = .ok (.lookupswitch 49 #[(0, 28), (1, 42)], 28) := by decide +kernel
theorem dX2_attribute_68 : decode cX2_attribute 68 = .ok (.aload_n 0, 1) := by decide +kernel
theorem dX2_attribute_69 : decode cX2_attribute 69 = .ok (.getfield 34, 3) := by decide +kernel
theorem dX2_attribute_72 : decode cX2_attribute 72 = .ok (.getfield 126, 3) := by decide +kernel
theorem dX2_attribute_75 : decode cX2_attribute 75 = .ok (.iload_n 1, 1) := by decide +kernel
theorem dX2_attribute_76 : decode cX2_attribute 76 = .ok (.iload_n 3, 1) := by decide +kernel
theorem dX2_attribute_77 : decode cX2_attribute 77 = .ok (.invokevirtual 100, 3) := by decide +kernel
theorem dX2_attribute_80 : decode cX2_attribute 80 = .ok (.iconst 1, 1) := by decide +kernel
theorem dX2_attribute_81 : decode cX2_attribute 81 = .ok (.ireturn, 1) := by decide +kernel
theorem dX2_attribute_82 : decode cX2_attribute 82 = .ok (.aload_n 0, 1) := by decide +kernel
theorem dX2_attribute_83 : decode cX2_attribute 83 = .ok (.iload_n 1, 1) := by decide +kernel
theorem dX2_attribute_84 : decode cX2_attribute 84 = .ok (.iload_n 3, 1) := by decide +kernel
theorem dX2_attribute_85 : decode cX2_attribute 85 = .ok (.invokevirtual 129, 3) := by decide +kernel
theorem dX2_attribute_88 : decode cX2_attribute 88 = .ok (.ireturn, 1) := by decide +kernel
theorem dX2_attribute_89 : decode cX2_attribute 89 = .ok (.aload_n 0, 1) := by decide +kernel
theorem dX2_attribute_90 : decode cX2_attribute 90 = .ok (.iload_n 1, 1) := by decide +kernel
theorem dX2_attribute_91 : decode cX2_attribute 91 = .ok (.iload_n 3, 1) := by decide +kernel
theorem dX2_attribute_92 : decode cX2_attribute 92 = .ok (.invokevirtual 132, 3) := by decide +kernel
theorem dX2_attribute_95 : decode cX2_attribute 95 = .ok (.ireturn, 1) := by decide +kernel
set_option maxRecDepth 20000 in
theorem ggX2_told_X2_known : GoodIn wsX2_told wsX2_known := goodIn_r _ [12, 13, 32, 33, 34, 35, 36, 37, 38, 39, 40, 41] (by decide +kernel) (by decide +kernel)
set_option maxRecDepth 20000 in
theorem gX2_told_X2_known : GoodIn wsX2_told (wsV RX2 80 RX2 yX2_known wsX2_known) := goodIn_app (goodIn_of _ (by decide +kernel)) ggX2_told_X2_known
set_option maxRecDepth 20000 in
theorem ggX2_told_X1_at : GoodIn wsX2_told wsX1_at := goodIn_r _ [18, 19, 49, 50] (by decide +kernel) (by decide +kernel)
set_option maxRecDepth 20000 in
theorem gX2_told_X1_at : GoodIn wsX2_told (wsV RX2 84 RX1 yX1_at wsX1_at) := goodIn_app (goodIn_of _ (by decide +kernel)) ggX2_told_X1_at
set_option maxRecDepth 20000 in
theorem ggX2_told_X2_accessOf : GoodIn wsX2_told wsX2_accessOf := goodIn_r _ [23, 1, 24, 25, 26, 27, 11, 28, 5, 4, 14, 15, 16, 17, 18, 19, 32, 33, 34, 35, 36, 37, 38, 39, 40, 41, 42, 43, 44, 45, 46, 47, 48, 49, 50] (by decide +kernel) (by decide +kernel)
set_option maxRecDepth 20000 in
theorem gX2_told_X2_accessOf : GoodIn wsX2_told (wsV RX2 93 RX2 yX2_accessOf wsX2_accessOf) := goodIn_app (goodIn_of _ (by decide +kernel)) ggX2_told_X2_accessOf
set_option maxRecDepth 20000 in
theorem ggX2_told_X2_hasNumber : GoodIn wsX2_told wsX2_hasNumber := goodIn_r _ [31] (by decide +kernel) (by decide +kernel)
set_option maxRecDepth 20000 in
theorem gX2_told_X2_hasNumber : GoodIn wsX2_told (va_wsS RX2 138 yX2_hasNumber wsX2_hasNumber) := goodIn_app (goodIn_of _ (by decide +kernel)) ggX2_told_X2_hasNumber
theorem dX2_told_0 : decode cX2_told 0 = .ok (.aload_n 0, 1) := by decide +kernel
theorem dX2_told_1 : decode cX2_told 1 = .ok (.iload_n 1, 1) := by decide +kernel
theorem dX2_told_2 : decode cX2_told 2 = .ok (.invokevirtual 80, 3) := by decide +kernel
theorem dX2_told_5 : decode cX2_told 5 = .ok (.ifCond .ne 5, 3) := by decide +kernel
theorem dX2_told_8 : decode cX2_told 8 = .ok (.iconst (-1), 1) := by decide +kernel
theorem dX2_told_9 : decode cX2_told 9 = .ok (.ireturn, 1) := by decide +kernel
theorem dX2_told_10 : decode cX2_told 10 = .ok (.iload_n 2, 1) := by decide +kernel
theorem dX2_told_11 : decode cX2_told 11 = .ok (.tableswitch 116 0 4 #[33, 45, 51, 70, 97], 33) := by decide +kernel
theorem dX2_told_44 : decode cX2_told 44 = .ok (.aload_n 0, 1) := by decide +kernel
theorem dX2_told_45 : decode cX2_told 45 = .ok (.getfield 34, 3) := by decide +kernel
theorem dX2_told_48 : decode cX2_told 48 = .ok (.getfield 126, 3) := by decide +kernel
theorem dX2_told_51 : decode cX2_told 51 = .ok (.iload_n 1, 1) := by decide +kernel
theorem dX2_told_52 : decode cX2_told 52 = .ok (.invokevirtual 84, 3) := by decide +kernel
theorem dX2_told_55 : decode cX2_told 55 = .ok (.ireturn, 1) := by decide +kernel
theorem dX2_told_56 : decode cX2_told 56 = .ok (.aload_n 0, 1) := by decide +kernel
theorem dX2_told_57 : decode cX2_told 57 = .ok (.iload_n 1, 1) := by decide +kernel
theorem dX2_told_58 : decode cX2_told 58 = .ok (.invokevirtual 93, 3) := by decide +kernel
theorem dX2_told_61 : decode cX2_told 61 = .ok (.ireturn, 1) := by decide +kernel
theorem dX2_told_62 : decode cX2_told 62 = .ok (.aload_n 0, 1) := by decide +kernel
theorem dX2_told_63 : decode cX2_told 63 = .ok (.getfield 34, 3) := by decide +kernel
theorem dX2_told_66 : decode cX2_told 66 = .ok (.getfield 135, 3) := by decide +kernel
theorem dX2_told_69 : decode cX2_told 69 = .ok (.aload_n 0, 1) := by decide +kernel
theorem dX2_told_70 : decode cX2_told 70 = .ok (.getfield 19, 3) := by decide +kernel
theorem dX2_told_73 : decode cX2_told 73 = .ok (.iload_n 1, 1) := by decide +kernel
theorem dX2_told_74 : decode cX2_told 74 = .ok (.invokevirtual 84, 3) := by decide +kernel
theorem dX2_told_77 : decode cX2_told 77 = .ok (.invokevirtual 84, 3) := by decide +kernel
theorem dX2_told_80 : decode cX2_told 80 = .ok (.ireturn, 1) := by decide +kernel
theorem dX2_told_81 : decode cX2_told 81 = .ok (.aload_n 0, 1) := by decide +kernel
theorem dX2_told_82 : decode cX2_told 82 = .ok (.getfield 12, 3) := by decide +kernel
theorem dX2_told_85 : decode cX2_told 85 = .ok (.iload_n 1, 1) := by decide +kernel
theorem dX2_told_86 : decode cX2_told 86 = .ok (.invokevirtual 84, 3) := by decide +kernel
theorem dX2_told_89 : decode cX2_told 89 = .ok (.invokestatic 138, 3) := by decide +kernel
theorem dX2_told_92 : decode cX2_told 92 = .ok (.ifCond .eq 14, 3) := by decide +kernel
theorem dX2_told_95 : decode cX2_told 95 = .ok (.aload_n 0, 1) := by decide +kernel
theorem dX2_told_96 : decode cX2_told 96 = .ok (.getfield 16, 3) := by decide +kernel
theorem dX2_told_99 : decode cX2_told 99 = .ok (.iload_n 1, 1) := by decide +kernel
theorem dX2_told_100 : decode cX2_told 100 = .ok (.invokevirtual 84, 3) := by decide +kernel
theorem dX2_told_103 : decode cX2_told 103 = .ok (.goto 4, 3) := by decide +kernel
theorem dX2_told_106 : decode cX2_told 106 = .ok (.iconst 0, 1) := by decide +kernel
theorem dX2_told_107 : decode cX2_told 107 = .ok (.ireturn, 1) := by decide +kernel
theorem dX2_told_108 : decode cX2_told 108 = .ok (.aload_n 0, 1) := by decide +kernel
theorem dX2_told_109 : decode cX2_told 109 = .ok (.getfield 34, 3) := by decide +kernel
theorem dX2_told_112 : decode cX2_told 112 = .ok (.getfield 141, 3) := by decide +kernel
theorem dX2_told_115 : decode cX2_told 115 = .ok (.aload_n 0, 1) := by decide +kernel
theorem dX2_told_116 : decode cX2_told 116 = .ok (.getfield 19, 3) := by decide +kernel
theorem dX2_told_119 : decode cX2_told 119 = .ok (.iload_n 1, 1) := by decide +kernel
theorem dX2_told_120 : decode cX2_told 120 = .ok (.invokevirtual 84, 3) := by decide +kernel
theorem dX2_told_123 : decode cX2_told 123 = .ok (.invokevirtual 84, 3) := by decide +kernel
theorem dX2_told_126 : decode cX2_told 126 = .ok (.ireturn, 1) := by decide +kernel
theorem dX2_told_127 : decode cX2_told 127 = .ok (.bipush (-2), 2) := by decide +kernel
theorem dX2_told_129 : decode cX2_told 129 = .ok (.ireturn, 1) := by decide +kernel
set_option maxRecDepth 20000 in
theorem ggX2_same_X2_known : GoodIn wsX2_same wsX2_known := goodIn_r _ [5, 6, 79, 80, 81, 82, 83, 84, 85, 86, 87, 88] (by decide +kernel) (by decide +kernel)
set_option maxRecDepth 20000 in
theorem gX2_same_X2_known : GoodIn wsX2_same (wsV RX2 80 RX2 yX2_known wsX2_known) := goodIn_app (goodIn_of _ (by decide +kernel)) ggX2_same_X2_known
set_option maxRecDepth 20000 in
theorem ggX2_same_X2_alike : GoodIn wsX2_same wsX2_alike := goodIn_r _ [10, 11, 12, 13, 14, 15, 16, 17, 18, 19, 20, 4, 21, 22, 23, 24, 25, 26, 27, 28, 29, 30, 31, 32, 33, 34, 35, 36, 37, 38, 39, 40, 41, 42, 43, 44, 45, 46, 47, 48, 49, 50, 51, 52, 53, 54, 55, 56, 57, 58, 59, 60, 61, 62, 63, 64, 65, 66, 67, 68, 69, 70, 71, 72, 73, 74, 75, 76, 77, 78, 79, 80, 81, 82, 83, 84, 85, 86, 87, 88, 89, 90, 91, 92, 93, 94, 95, 96, 97] (by decide +kernel) (by decide +kernel)
set_option maxRecDepth 20000 in
theorem gX2_same_X2_alike : GoodIn wsX2_same (wsV RX2 144 RX2 yX2_alike wsX2_alike) := goodIn_app (goodIn_of _ (by decide +kernel)) ggX2_same_X2_alike
theorem dX2_same_0 : decode cX2_same 0 = .ok (.aload_n 0, 1) := by decide +kernel
theorem dX2_same_1 : decode cX2_same 1 = .ok (.iload_n 1, 1) := by decide +kernel
theorem dX2_same_2 : decode cX2_same 2 = .ok (.invokevirtual 80, 3) := by decide +kernel
theorem dX2_same_5 : decode cX2_same 5 = .ok (.ifCond .eq 24, 3) := by decide +kernel
theorem dX2_same_8 : decode cX2_same 8 = .ok (.aload_n 0, 1) := by decide +kernel
theorem dX2_same_9 : decode cX2_same 9 = .ok (.iload_n 2, 1) := by decide +kernel
theorem dX2_same_10 : decode cX2_same 10 = .ok (.invokevirtual 80, 3) := by decide +kernel
theorem dX2_same_13 : decode cX2_same 13 = .ok (.ifCond .eq 16, 3) := by decide +kernel
theorem dX2_same_16 : decode cX2_same 16 = .ok (.aload_n 0, 1) := by decide +kernel
theorem dX2_same_17 : decode cX2_same 17 = .ok (.iload_n 1, 1) := by decide +kernel
theorem dX2_same_18 : decode cX2_same 18 = .ok (.iload_n 2, 1) := by decide +kernel
theorem dX2_same_19 : decode cX2_same 19 = .ok (.invokevirtual 144, 3) := by decide +kernel
theorem dX2_same_22 : decode cX2_same 22 = .ok (.ifCond .eq 7, 3) := by decide +kernel
theorem dX2_same_25 : decode cX2_same 25 = .ok (.iconst 1, 1) := by decide +kernel
theorem dX2_same_26 : decode cX2_same 26 = .ok (.goto 4, 3) := by decide +kernel
theorem dX2_same_29 : decode cX2_same 29 = .ok (.iconst 0, 1) := by decide +kernel
theorem dX2_same_30 : decode cX2_same 30 = .ok (.ireturn, 1) := by decide +kernel
set_option maxRecDepth 20000 in
theorem ggX2_compare_X2_known : GoodIn wsX2_compare wsX2_known := goodIn_r _ [7, 8, 53, 54, 55, 56, 57, 58, 59, 60, 61, 62] (by decide +kernel) (by decide +kernel)
set_option maxRecDepth 20000 in
theorem gX2_compare_X2_known : GoodIn wsX2_compare (wsV RX2 80 RX2 yX2_known wsX2_known) := goodIn_app (goodIn_of _ (by decide +kernel)) ggX2_compare_X2_known
set_option maxRecDepth 20000 in
theorem ggX2_compare_X1_at : GoodIn wsX2_compare wsX1_at := goodIn_r _ [13, 14, 63, 64] (by decide +kernel) (by decide +kernel)
set_option maxRecDepth 20000 in
theorem gX2_compare_X1_at : GoodIn wsX2_compare (wsV RX2 84 RX1 yX1_at wsX1_at) := goodIn_app (goodIn_of _ (by decide +kernel)) ggX2_compare_X1_at
set_option maxRecDepth 20000 in
theorem ggX2_compare_X2_order : GoodIn wsX2_compare wsX2_order := goodIn_r _ [17] (by decide +kernel) (by decide +kernel)
set_option maxRecDepth 20000 in
theorem gX2_compare_X2_order : GoodIn wsX2_compare (va_wsS RX2 147 yX2_order wsX2_order) := goodIn_app (goodIn_of _ (by decide +kernel)) ggX2_compare_X2_order
set_option maxRecDepth 20000 in
theorem ggX2_compare_X2_readableString : GoodIn wsX2_compare wsX2_readableString := goodIn_r _ [21, 1, 9, 10, 11, 12, 13, 14, 22, 23, 24, 6, 25, 26, 27, 28, 29, 30, 31, 32, 53, 54, 55, 56, 57, 58, 59, 60, 61, 62, 63, 64, 65, 66, 67, 68, 69, 70, 71] (by decide +kernel) (by decide +kernel)
set_option maxRecDepth 20000 in
theorem gX2_compare_X2_readableString : GoodIn wsX2_compare (wsV RX2 150 RX2 yX2_readableString wsX2_readableString) := goodIn_app (goodIn_of _ (by decide +kernel)) ggX2_compare_X2_readableString
set_option maxRecDepth 20000 in
theorem ggX2_compare_X2_orderOfBytes : GoodIn wsX2_compare wsX2_orderOfBytes := goodIn_r _ [36, 37, 38, 39, 40, 41, 9, 10, 11, 12, 13, 14, 42, 43, 44, 6, 45, 1, 46, 47, 48, 49, 50, 51, 26, 52, 15, 16, 17, 53, 54, 55, 56, 57, 58, 59, 60, 61, 62, 63, 64, 65, 66, 67, 68, 69, 70, 71] (by decide +kernel) (by decide +kernel)
set_option maxRecDepth 20000 in
theorem gX2_compare_X2_orderOfBytes : GoodIn wsX2_compare (wsV RX2 153 RX2 yX2_orderOfBytes wsX2_orderOfBytes) := goodIn_app (goodIn_of _ (by decide +kernel)) ggX2_compare_X2_orderOfBytes
theorem dX2_compare_0 : decode cX2_compare 0 = .ok (.aload_n 0, 1) := by decide +kernel
theorem dX2_compare_1 : decode cX2_compare 1 = .ok (.iload_n 1, 1) := by decide +kernel
theorem dX2_compare_2 : decode cX2_compare 2 = .ok (.invokevirtual 80, 3) := by decide +kernel
theorem dX2_compare_5 : decode cX2_compare 5 = .ok (.ifCond .eq 11, 3) := by decide +kernel
theorem dX2_compare_8 : decode cX2_compare 8 = .ok (.aload_n 0, 1) := by decide +kernel
theorem dX2_compare_9 : decode cX2_compare 9 = .ok (.iload_n 2, 1) := by decide +kernel
theorem dX2_compare_10 : decode cX2_compare 10 = .ok (.invokevirtual 80, 3) := by decide +kernel
theorem dX2_compare_13 : decode cX2_compare 13 = .ok (.ifCond .ne 5, 3) := by decide +kernel
theorem dX2_compare_16 : decode cX2_compare 16 = .ok (.iconst (-1), 1) := by decide +kernel
theorem dX2_compare_17 : decode cX2_compare 17 = .ok (.ireturn, 1) := by decide +kernel
theorem dX2_compare_18 : decode cX2_compare 18 = .ok (.aload_n 0, 1) := by decide +kernel
theorem dX2_compare_19 : decode cX2_compare 19 = .ok (.getfield 12, 3) := by decide +kernel
theorem dX2_compare_22 : decode cX2_compare 22 = .ok (.iload_n 1, 1) := by decide +kernel
theorem dX2_compare_23 : decode cX2_compare 23 = .ok (.invokevirtual 84, 3) := by decide +kernel
theorem dX2_compare_26 : decode cX2_compare 26 = .ok (.iconst 1, 1) := by decide +kernel
theorem dX2_compare_27 : decode cX2_compare 27 = .ok (.if_icmp .ne 35, 3) := by decide +kernel
theorem dX2_compare_30 : decode cX2_compare 30 = .ok (.aload_n 0, 1) := by decide +kernel
theorem dX2_compare_31 : decode cX2_compare 31 = .ok (.getfield 12, 3) := by decide +kernel
theorem dX2_compare_34 : decode cX2_compare 34 = .ok (.iload_n 2, 1) := by decide +kernel
theorem dX2_compare_35 : decode cX2_compare 35 = .ok (.invokevirtual 84, 3) := by decide +kernel
theorem dX2_compare_38 : decode cX2_compare 38 = .ok (.iconst 1, 1) := by decide +kernel
theorem dX2_compare_39 : decode cX2_compare 39 = .ok (.if_icmp .ne 23, 3) := by decide +kernel
theorem dX2_compare_42 : decode cX2_compare 42 = .ok (.aload_n 0, 1) := by decide +kernel
theorem dX2_compare_43 : decode cX2_compare 43 = .ok (.getfield 16, 3) := by decide +kernel
theorem dX2_compare_46 : decode cX2_compare 46 = .ok (.iload_n 1, 1) := by decide +kernel
theorem dX2_compare_47 : decode cX2_compare 47 = .ok (.invokevirtual 84, 3) := by decide +kernel
theorem dX2_compare_50 : decode cX2_compare 50 = .ok (.aload_n 0, 1) := by decide +kernel
theorem dX2_compare_51 : decode cX2_compare 51 = .ok (.getfield 16, 3) := by decide +kernel
theorem dX2_compare_54 : decode cX2_compare 54 = .ok (.iload_n 2, 1) := by decide +kernel
theorem dX2_compare_55 : decode cX2_compare 55 = .ok (.invokevirtual 84, 3) := by decide +kernel
theorem dX2_compare_58 : decode cX2_compare 58 = .ok (.invokestatic 147, 3) := by decide +kernel
theorem dX2_compare_61 : decode cX2_compare 61 = .ok (.ireturn, 1) := by decide +kernel
theorem dX2_compare_62 : decode cX2_compare 62 = .ok (.aload_n 0, 1) := by decide +kernel
theorem dX2_compare_63 : decode cX2_compare 63 = .ok (.iload_n 1, 1) := by decide +kernel
theorem dX2_compare_64 : decode cX2_compare 64 = .ok (.invokevirtual 150, 3) := by decide +kernel
theorem dX2_compare_67 : decode cX2_compare 67 = .ok (.ifCond .eq 18, 3) := by decide +kernel
theorem dX2_compare_70 : decode cX2_compare 70 = .ok (.aload_n 0, 1) := by decide +kernel
theorem dX2_compare_71 : decode cX2_compare 71 = .ok (.iload_n 2, 1) := by decide +kernel
theorem dX2_compare_72 : decode cX2_compare 72 = .ok (.invokevirtual 150, 3) := by decide +kernel
theorem dX2_compare_75 : decode cX2_compare 75 = .ok (.ifCond .eq 10, 3) := by decide +kernel
theorem dX2_compare_78 : decode cX2_compare 78 = .ok (.aload_n 0, 1) := by decide +kernel
theorem dX2_compare_79 : decode cX2_compare 79 = .ok (.iload_n 1, 1) := by decide +kernel
theorem dX2_compare_80 : decode cX2_compare 80 = .ok (.iload_n 2, 1) := by decide +kernel
theorem dX2_compare_81 : decode cX2_compare 81 = .ok (.invokevirtual 153, 3) := by decide +kernel
theorem dX2_compare_84 : decode cX2_compare 84 = .ok (.ireturn, 1) := by decide +kernel
theorem dX2_compare_85 : decode cX2_compare 85 = .ok (.bipush (-3), 2) := by decide +kernel
theorem dX2_compare_87 : decode cX2_compare 87 = .ok (.ireturn, 1) := by decide +kernel
set_option maxRecDepth 20000 in
theorem ggX2_length_X2_known : GoodIn wsX2_length wsX2_known := goodIn_r _ [11, 12, 22, 23, 24, 25, 26, 27, 28, 29, 30, 31] (by decide +kernel) (by decide +kernel)
set_option maxRecDepth 20000 in
theorem gX2_length_X2_known : GoodIn wsX2_length (wsV RX2 80 RX2 yX2_known wsX2_known) := goodIn_app (goodIn_of _ (by decide +kernel)) ggX2_length_X2_known
set_option maxRecDepth 20000 in
theorem ggX2_length_X1_at : GoodIn wsX2_length wsX1_at := goodIn_r _ [17, 18, 39, 40] (by decide +kernel) (by decide +kernel)
set_option maxRecDepth 20000 in
theorem gX2_length_X1_at : GoodIn wsX2_length (wsV RX2 84 RX1 yX1_at wsX1_at) := goodIn_app (goodIn_of _ (by decide +kernel)) ggX2_length_X1_at
set_option maxRecDepth 20000 in
theorem ggX2_length_X2_digits : GoodIn wsX2_length wsX2_digits := goodIn_r _ [21] (by decide +kernel) (by decide +kernel)
set_option maxRecDepth 20000 in
theorem gX2_length_X2_digits : GoodIn wsX2_length (va_wsS RX2 156 yX2_digits wsX2_digits) := goodIn_app (goodIn_of _ (by decide +kernel)) ggX2_length_X2_digits
theorem dX2_length_0 : decode cX2_length 0 = .ok (.aload_n 0, 1) := by decide +kernel
theorem dX2_length_1 : decode cX2_length 1 = .ok (.iload_n 1, 1) := by decide +kernel
theorem dX2_length_2 : decode cX2_length 2 = .ok (.invokevirtual 80, 3) := by decide +kernel
theorem dX2_length_5 : decode cX2_length 5 = .ok (.ifCond .ne 5, 3) := by decide +kernel
theorem dX2_length_8 : decode cX2_length 8 = .ok (.iconst (-1), 1) := by decide +kernel
theorem dX2_length_9 : decode cX2_length 9 = .ok (.ireturn, 1) := by decide +kernel
theorem dX2_length_10 : decode cX2_length 10 = .ok (.aload_n 0, 1) := by decide +kernel
theorem dX2_length_11 : decode cX2_length 11 = .ok (.getfield 12, 3) := by decide +kernel
theorem dX2_length_14 : decode cX2_length 14 = .ok (.iload_n 1, 1) := by decide +kernel
theorem dX2_length_15 : decode cX2_length 15 = .ok (.invokevirtual 84, 3) := by decide +kernel
theorem dX2_length_18 : decode cX2_length 18 = .ok (.tableswitch 74 3 7 #[34, 46, 46, 46, 55], 34) := by decide +kernel
theorem dX2_length_52 : decode cX2_length 52 = .ok (.aload_n 0, 1) := by decide +kernel
theorem dX2_length_53 : decode cX2_length 53 = .ok (.getfield 16, 3) := by decide +kernel
theorem dX2_length_56 : decode cX2_length 56 = .ok (.iload_n 1, 1) := by decide +kernel
theorem dX2_length_57 : decode cX2_length 57 = .ok (.invokevirtual 84, 3) := by decide +kernel
theorem dX2_length_60 : decode cX2_length 60 = .ok (.invokestatic 156, 3) := by decide +kernel
theorem dX2_length_63 : decode cX2_length 63 = .ok (.ireturn, 1) := by decide +kernel
theorem dX2_length_64 : decode cX2_length 64 = .ok (.aload_n 0, 1) := by decide +kernel
theorem dX2_length_65 : decode cX2_length 65 = .ok (.getfield 25, 3) := by decide +kernel
theorem dX2_length_68 : decode cX2_length 68 = .ok (.iload_n 1, 1) := by decide +kernel
theorem dX2_length_69 : decode cX2_length 69 = .ok (.invokevirtual 84, 3) := by decide +kernel
theorem dX2_length_72 : decode cX2_length 72 = .ok (.ireturn, 1) := by decide +kernel
theorem dX2_length_73 : decode cX2_length 73 = .ok (.aload_n 0, 1) := by decide +kernel
theorem dX2_length_74 : decode cX2_length 74 = .ok (.getfield 34, 3) := by decide +kernel
theorem dX2_length_77 : decode cX2_length 77 = .ok (.getfield 159, 3) := by decide +kernel
theorem dX2_length_80 : decode cX2_length 80 = .ok (.aload_n 0, 1) := by decide +kernel
theorem dX2_length_81 : decode cX2_length 81 = .ok (.getfield 19, 3) := by decide +kernel
theorem dX2_length_84 : decode cX2_length 84 = .ok (.iload_n 1, 1) := by decide +kernel
theorem dX2_length_85 : decode cX2_length 85 = .ok (.invokevirtual 84, 3) := by decide +kernel
theorem dX2_length_88 : decode cX2_length 88 = .ok (.invokevirtual 84, 3) := by decide +kernel
theorem dX2_length_91 : decode cX2_length 91 = .ok (.ireturn, 1) := by decide +kernel
theorem dX2_length_92 : decode cX2_length 92 = .ok (.bipush (-3), 2) := by decide +kernel
theorem dX2_length_94 : decode cX2_length 94 = .ok (.ireturn, 1) := by decide +kernel
set_option maxRecDepth 20000 in
theorem ggX2_entry_X2_known : GoodIn wsX2_entry wsX2_known := goodIn_r _ [8, 9, 107, 108, 109, 110, 111, 112, 113, 114, 115, 116] (by decide +kernel) (by decide +kernel)
set_option maxRecDepth 20000 in
theorem gX2_entry_X2_known : GoodIn wsX2_entry (wsV RX2 80 RX2 yX2_known wsX2_known) := goodIn_app (goodIn_of _ (by decide +kernel)) ggX2_entry_X2_known
set_option maxRecDepth 20000 in
theorem ggX2_entry_X2_keyFor : GoodIn wsX2_entry wsX2_keyFor := goodIn_r _ [13, 1, 14, 15, 16, 17, 18, 19, 20, 21, 22, 7, 23, 24, 25, 26, 27, 28, 29, 30, 31, 32, 2, 33, 34, 35, 36, 37, 38, 39, 40, 41, 42, 43, 44, 45, 46, 47, 48, 49, 50, 51, 52, 53, 3, 54, 55, 56, 107, 108, 109, 110, 111, 112, 113, 114, 115, 116, 124, 125, 117, 118, 119, 120, 121, 122, 123] (by decide +kernel) (by decide +kernel)
set_option maxRecDepth 20000 in
theorem gX2_entry_X2_keyFor : GoodIn wsX2_entry (wsV RX2 162 RX2 yX2_keyFor wsX2_keyFor) := goodIn_app (goodIn_of _ (by decide +kernel)) ggX2_entry_X2_keyFor
set_option maxRecDepth 20000 in
theorem ggX2_entry_X1_at : GoodIn wsX2_entry wsX1_at := goodIn_r _ [18, 19, 124, 125] (by decide +kernel) (by decide +kernel)
set_option maxRecDepth 20000 in
theorem gX2_entry_X1_at : GoodIn wsX2_entry (wsV RX2 84 RX1 yX1_at wsX1_at) := goodIn_app (goodIn_of _ (by decide +kernel)) ggX2_entry_X1_at
set_option maxRecDepth 20000 in
theorem ggX2_entry_X2_accessOf : GoodIn wsX2_entry wsX2_accessOf := goodIn_r _ [32, 2, 33, 34, 35, 36, 7, 37, 1, 38, 14, 15, 16, 17, 18, 19, 107, 108, 109, 110, 111, 112, 113, 114, 115, 116, 117, 118, 119, 120, 121, 122, 123, 124, 125] (by decide +kernel) (by decide +kernel)
set_option maxRecDepth 20000 in
theorem gX2_entry_X2_accessOf : GoodIn wsX2_entry (wsV RX2 93 RX2 yX2_accessOf wsX2_accessOf) := goodIn_app (goodIn_of _ (by decide +kernel)) ggX2_entry_X2_accessOf
set_option maxRecDepth 20000 in
theorem ggX2_entry_X2_placeOf : GoodIn wsX2_entry wsX2_placeOf := goodIn_r _ [60, 2, 61, 38, 3, 14, 15, 16, 17, 18, 19, 62, 63, 64, 7, 65, 48, 66, 67, 68, 69, 70, 71, 72, 73, 1, 43, 74, 75, 76, 77, 78, 79, 80, 24, 107, 108, 109, 110, 111, 112, 113, 114, 115, 116, 117, 118, 119, 120, 121, 122, 123, 124, 125] (by decide +kernel) (by decide +kernel)
set_option maxRecDepth 20000 in
theorem gX2_entry_X2_placeOf : GoodIn wsX2_entry (wsV RX2 165 RX2 yX2_placeOf wsX2_placeOf) := goodIn_app (goodIn_of _ (by decide +kernel)) ggX2_entry_X2_placeOf
set_option maxRecDepth 20000 in
theorem ggX2_entry_X2_addKey : GoodIn wsX2_entry wsX2_addKey := goodIn_r _ [84, 38, 2, 61, 85, 3, 14, 15, 16, 17, 18, 19, 86, 87, 88, 7, 89, 90, 91, 92, 93, 94, 95, 96, 97, 98, 99, 100, 101, 102, 62, 63, 64, 65, 48, 107, 108, 109, 110, 111, 112, 113, 114, 115, 116, 117, 118, 119, 120, 121, 122, 123, 124, 125] (by decide +kernel) (by decide +kernel)
set_option maxRecDepth 20000 in
theorem gX2_entry_X2_addKey : GoodIn wsX2_entry (wsV RX2 168 RX2 yX2_addKey wsX2_addKey) := goodIn_app (goodIn_of _ (by decide +kernel)) ggX2_entry_X2_addKey
set_option maxRecDepth 20000 in
theorem ggX2_entry_X2_valueCell : GoodIn wsX2_entry wsX2_valueCell := goodIn_r _ [106, 48, 14, 15, 16, 17, 18, 19, 107, 108, 109, 110, 111, 112, 113, 114, 115, 116, 124, 125] (by decide +kernel) (by decide +kernel)
set_option maxRecDepth 20000 in
theorem gX2_entry_X2_valueCell : GoodIn wsX2_entry (wsV RX2 171 RX2 yX2_valueCell wsX2_valueCell) := goodIn_app (goodIn_of _ (by decide +kernel)) ggX2_entry_X2_valueCell
set_option maxRecDepth 20000 in
theorem ggX2_entry_X1_set : GoodIn wsX2_entry wsX1_set := goodIn_r _ [99, 19, 124, 125] (by decide +kernel) (by decide +kernel)
set_option maxRecDepth 20000 in
theorem gX2_entry_X1_set : GoodIn wsX2_entry (wsV RX2 100 RX1 yX1_set wsX1_set) := goodIn_app (goodIn_of _ (by decide +kernel)) ggX2_entry_X1_set
theorem dX2_entry_0 : decode cX2_entry 0 = .ok (.aload_n 0, 1) := by decide +kernel
theorem dX2_entry_1 : decode cX2_entry 1 = .ok (.iload_n 1, 1) := by decide +kernel
theorem dX2_entry_2 : decode cX2_entry 2 = .ok (.invokevirtual 80, 3) := by decide +kernel
theorem dX2_entry_5 : decode cX2_entry 5 = .ok (.ifCond .eq 19, 3) := by decide +kernel
theorem dX2_entry_8 : decode cX2_entry 8 = .ok (.aload_n 0, 1) := by decide +kernel
theorem dX2_entry_9 : decode cX2_entry 9 = .ok (.iload_n 2, 1) := by decide +kernel
theorem dX2_entry_10 : decode cX2_entry 10 = .ok (.invokevirtual 80, 3) := by decide +kernel
theorem dX2_entry_13 : decode cX2_entry 13 = .ok (.ifCond .eq 11, 3) := by decide +kernel
theorem dX2_entry_16 : decode cX2_entry 16 = .ok (.aload_n 0, 1) := by decide +kernel
theorem dX2_entry_17 : decode cX2_entry 17 = .ok (.iload_n 3, 1) := by decide +kernel
theorem dX2_entry_18 : decode cX2_entry 18 = .ok (.invokevirtual 80, 3) := by decide +kernel
theorem dX2_entry_21 : decode cX2_entry 21 = .ok (.ifCond .ne 5, 3) := by decide +kernel
theorem dX2_entry_24 : decode cX2_entry 24 = .ok (.iconst (-1), 1) := by decide +kernel
theorem dX2_entry_25 : decode cX2_entry 25 = .ok (.ireturn, 1) := by decide +kernel
theorem dX2_entry_26 : decode cX2_entry 26 = .ok (.aload_n 0, 1) := by decide +kernel
theorem dX2_entry_27 : decode cX2_entry 27 = .ok (.iload_n 2, 1) := by decide +kernel
theorem dX2_entry_28 : decode cX2_entry 28 = .ok (.invokevirtual 162, 3) := by decide +kernel
theorem dX2_entry_31 : decode cX2_entry 31 = .ok (.istore 4, 2) := by decide +kernel
theorem dX2_entry_33 : decode cX2_entry 33 = .ok (.aload_n 0, 1) := by decide +kernel
theorem dX2_entry_34 : decode cX2_entry 34 = .ok (.getfield 12, 3) := by decide +kernel
theorem dX2_entry_37 : decode cX2_entry 37 = .ok (.iload_n 1, 1) := by decide +kernel
theorem dX2_entry_38 : decode cX2_entry 38 = .ok (.invokevirtual 84, 3) := by decide +kernel
theorem dX2_entry_41 : decode cX2_entry 41 = .ok (.bipush 7, 2) := by decide +kernel
theorem dX2_entry_43 : decode cX2_entry 43 = .ok (.if_icmp .ne 18, 3) := by decide +kernel
theorem dX2_entry_46 : decode cX2_entry 46 = .ok (.aload_n 0, 1) := by decide +kernel
theorem dX2_entry_47 : decode cX2_entry 47 = .ok (.iload_n 1, 1) := by decide +kernel
theorem dX2_entry_48 : decode cX2_entry 48 = .ok (.invokevirtual 93, 3) := by decide +kernel
theorem dX2_entry_51 : decode cX2_entry 51 = .ok (.iconst 3, 1) := by decide +kernel
theorem dX2_entry_52 : decode cX2_entry 52 = .ok (.if_icmp .ne 9, 3) := by decide +kernel
theorem dX2_entry_55 : decode cX2_entry 55 = .ok (.iload 4, 2) := by decide +kernel
theorem dX2_entry_57 : decode cX2_entry 57 = .ok (.iconst (-1), 1) := by decide +kernel
theorem dX2_entry_58 : decode cX2_entry 58 = .ok (.if_icmp .ne 6, 3) := by decide +kernel
theorem dX2_entry_61 : decode cX2_entry 61 = .ok (.bipush (-3), 2) := by decide +kernel
theorem dX2_entry_63 : decode cX2_entry 63 = .ok (.ireturn, 1) := by decide +kernel
theorem dX2_entry_64 : decode cX2_entry 64 = .ok (.aload_n 0, 1) := by decide +kernel
theorem dX2_entry_65 : decode cX2_entry 65 = .ok (.iload_n 1, 1) := by decide +kernel
theorem dX2_entry_66 : decode cX2_entry 66 = .ok (.iload 4, 2) := by decide +kernel
theorem dX2_entry_68 : decode cX2_entry 68 = .ok (.invokevirtual 165, 3) := by decide +kernel
theorem dX2_entry_71 : decode cX2_entry 71 = .ok (.istore 5, 2) := by decide +kernel
theorem dX2_entry_73 : decode cX2_entry 73 = .ok (.iload 5, 2) := by decide +kernel
theorem dX2_entry_75 : decode cX2_entry 75 = .ok (.iconst (-1), 1) := by decide +kernel
theorem dX2_entry_76 : decode cX2_entry 76 = .ok (.if_icmp .ne 12, 3) := by decide +kernel
theorem dX2_entry_79 : decode cX2_entry 79 = .ok (.aload_n 0, 1) := by decide +kernel
theorem dX2_entry_80 : decode cX2_entry 80 = .ok (.iload_n 1, 1) := by decide +kernel
theorem dX2_entry_81 : decode cX2_entry 81 = .ok (.iload 4, 2) := by decide +kernel
theorem dX2_entry_83 : decode cX2_entry 83 = .ok (.invokevirtual 168, 3) := by decide +kernel
theorem dX2_entry_86 : decode cX2_entry 86 = .ok (.istore 5, 2) := by decide +kernel
theorem dX2_entry_88 : decode cX2_entry 88 = .ok (.iload 5, 2) := by decide +kernel
theorem dX2_entry_90 : decode cX2_entry 90 = .ok (.iconst (-1), 1) := by decide +kernel
theorem dX2_entry_91 : decode cX2_entry 91 = .ok (.if_icmp .ne 6, 3) := by decide +kernel
theorem dX2_entry_94 : decode cX2_entry 94 = .ok (.bipush (-4), 2) := by decide +kernel
theorem dX2_entry_96 : decode cX2_entry 96 = .ok (.ireturn, 1) := by decide +kernel
theorem dX2_entry_97 : decode cX2_entry 97 = .ok (.aload_n 0, 1) := by decide +kernel
theorem dX2_entry_98 : decode cX2_entry 98 = .ok (.getfield 34, 3) := by decide +kernel
theorem dX2_entry_101 : decode cX2_entry 101 = .ok (.getfield 67, 3) := by decide +kernel
theorem dX2_entry_104 : decode cX2_entry 104 = .ok (.aload_n 0, 1) := by decide +kernel
theorem dX2_entry_105 : decode cX2_entry 105 = .ok (.iload_n 1, 1) := by decide +kernel
theorem dX2_entry_106 : decode cX2_entry 106 = .ok (.iload 5, 2) := by decide +kernel
theorem dX2_entry_108 : decode cX2_entry 108 = .ok (.invokevirtual 171, 3) := by decide +kernel
theorem dX2_entry_111 : decode cX2_entry 111 = .ok (.iload_n 3, 1) := by decide +kernel
theorem dX2_entry_112 : decode cX2_entry 112 = .ok (.invokevirtual 100, 3) := by decide +kernel
theorem dX2_entry_115 : decode cX2_entry 115 = .ok (.iconst 1, 1) := by decide +kernel
theorem dX2_entry_116 : decode cX2_entry 116 = .ok (.ireturn, 1) := by decide +kernel
set_option maxRecDepth 20000 in
theorem ggX2_look_X2_known : GoodIn wsX2_look wsX2_known := goodIn_r _ [8, 9, 85, 86, 87, 88, 89, 90, 91, 92, 93, 94] (by decide +kernel) (by decide +kernel)
set_option maxRecDepth 20000 in
theorem gX2_look_X2_known : GoodIn wsX2_look (wsV RX2 80 RX2 yX2_known wsX2_known) := goodIn_app (goodIn_of _ (by decide +kernel)) ggX2_look_X2_known
set_option maxRecDepth 20000 in
theorem ggX2_look_X2_keyFor : GoodIn wsX2_look wsX2_keyFor := goodIn_r _ [13, 1, 14, 15, 16, 17, 18, 19, 20, 21, 22, 7, 23, 24, 25, 26, 27, 28, 29, 30, 31, 32, 2, 33, 34, 35, 36, 37, 38, 39, 40, 41, 42, 43, 44, 45, 46, 47, 48, 49, 50, 51, 52, 53, 3, 54, 55, 56, 85, 86, 87, 88, 89, 90, 91, 92, 93, 94, 102, 103, 95, 96, 97, 98, 99, 100, 101] (by decide +kernel) (by decide +kernel)
set_option maxRecDepth 20000 in
theorem gX2_look_X2_keyFor : GoodIn wsX2_look (wsV RX2 162 RX2 yX2_keyFor wsX2_keyFor) := goodIn_app (goodIn_of _ (by decide +kernel)) ggX2_look_X2_keyFor
set_option maxRecDepth 20000 in
theorem ggX2_look_X1_at : GoodIn wsX2_look wsX1_at := goodIn_r _ [18, 19, 102, 103] (by decide +kernel) (by decide +kernel)
set_option maxRecDepth 20000 in
theorem gX2_look_X1_at : GoodIn wsX2_look (wsV RX2 84 RX1 yX1_at wsX1_at) := goodIn_app (goodIn_of _ (by decide +kernel)) ggX2_look_X1_at
set_option maxRecDepth 20000 in
theorem ggX2_look_X2_accessOf : GoodIn wsX2_look wsX2_accessOf := goodIn_r _ [32, 2, 33, 34, 35, 36, 7, 37, 1, 38, 14, 15, 16, 17, 18, 19, 85, 86, 87, 88, 89, 90, 91, 92, 93, 94, 95, 96, 97, 98, 99, 100, 101, 102, 103] (by decide +kernel) (by decide +kernel)
set_option maxRecDepth 20000 in
theorem gX2_look_X2_accessOf : GoodIn wsX2_look (wsV RX2 93 RX2 yX2_accessOf wsX2_accessOf) := goodIn_app (goodIn_of _ (by decide +kernel)) ggX2_look_X2_accessOf
set_option maxRecDepth 20000 in
theorem ggX2_look_X2_placeOf : GoodIn wsX2_look wsX2_placeOf := goodIn_r _ [60, 2, 61, 38, 3, 14, 15, 16, 17, 18, 19, 62, 63, 64, 7, 65, 48, 66, 67, 68, 69, 70, 71, 72, 73, 1, 43, 74, 75, 76, 77, 78, 79, 80, 24, 85, 86, 87, 88, 89, 90, 91, 92, 93, 94, 95, 96, 97, 98, 99, 100, 101, 102, 103] (by decide +kernel) (by decide +kernel)
set_option maxRecDepth 20000 in
theorem gX2_look_X2_placeOf : GoodIn wsX2_look (wsV RX2 165 RX2 yX2_placeOf wsX2_placeOf) := goodIn_app (goodIn_of _ (by decide +kernel)) ggX2_look_X2_placeOf
set_option maxRecDepth 20000 in
theorem ggX2_look_X2_valueCell : GoodIn wsX2_look wsX2_valueCell := goodIn_r _ [84, 48, 14, 15, 16, 17, 18, 19, 85, 86, 87, 88, 89, 90, 91, 92, 93, 94, 102, 103] (by decide +kernel) (by decide +kernel)
set_option maxRecDepth 20000 in
theorem gX2_look_X2_valueCell : GoodIn wsX2_look (wsV RX2 171 RX2 yX2_valueCell wsX2_valueCell) := goodIn_app (goodIn_of _ (by decide +kernel)) ggX2_look_X2_valueCell
theorem dX2_look_0 : decode cX2_look 0 = .ok (.aload_n 0, 1) := by decide +kernel
theorem dX2_look_1 : decode cX2_look 1 = .ok (.iload_n 1, 1) := by decide +kernel
theorem dX2_look_2 : decode cX2_look 2 = .ok (.invokevirtual 80, 3) := by decide +kernel
theorem dX2_look_5 : decode cX2_look 5 = .ok (.ifCond .eq 11, 3) := by decide +kernel
theorem dX2_look_8 : decode cX2_look 8 = .ok (.aload_n 0, 1) := by decide +kernel
theorem dX2_look_9 : decode cX2_look 9 = .ok (.iload_n 2, 1) := by decide +kernel
theorem dX2_look_10 : decode cX2_look 10 = .ok (.invokevirtual 80, 3) := by decide +kernel
theorem dX2_look_13 : decode cX2_look 13 = .ok (.ifCond .ne 5, 3) := by decide +kernel
theorem dX2_look_16 : decode cX2_look 16 = .ok (.iconst (-1), 1) := by decide +kernel
theorem dX2_look_17 : decode cX2_look 17 = .ok (.ireturn, 1) := by decide +kernel
theorem dX2_look_18 : decode cX2_look 18 = .ok (.aload_n 0, 1) := by decide +kernel
theorem dX2_look_19 : decode cX2_look 19 = .ok (.iload_n 2, 1) := by decide +kernel
theorem dX2_look_20 : decode cX2_look 20 = .ok (.invokevirtual 162, 3) := by decide +kernel
theorem dX2_look_23 : decode cX2_look 23 = .ok (.istore_n 3, 1) := by decide +kernel
theorem dX2_look_24 : decode cX2_look 24 = .ok (.aload_n 0, 1) := by decide +kernel
theorem dX2_look_25 : decode cX2_look 25 = .ok (.getfield 12, 3) := by decide +kernel
theorem dX2_look_28 : decode cX2_look 28 = .ok (.iload_n 1, 1) := by decide +kernel
theorem dX2_look_29 : decode cX2_look 29 = .ok (.invokevirtual 84, 3) := by decide +kernel
theorem dX2_look_32 : decode cX2_look 32 = .ok (.bipush 7, 2) := by decide +kernel
theorem dX2_look_34 : decode cX2_look 34 = .ok (.if_icmp .ne 17, 3) := by decide +kernel
theorem dX2_look_37 : decode cX2_look 37 = .ok (.aload_n 0, 1) := by decide +kernel
theorem dX2_look_38 : decode cX2_look 38 = .ok (.iload_n 1, 1) := by decide +kernel
theorem dX2_look_39 : decode cX2_look 39 = .ok (.invokevirtual 93, 3) := by decide +kernel
theorem dX2_look_42 : decode cX2_look 42 = .ok (.iconst 2, 1) := by decide +kernel
theorem dX2_look_43 : decode cX2_look 43 = .ok (.if_icmp .lt 8, 3) := by decide +kernel
theorem dX2_look_46 : decode cX2_look 46 = .ok (.iload_n 3, 1) := by decide +kernel
theorem dX2_look_47 : decode cX2_look 47 = .ok (.iconst (-1), 1) := by decide +kernel
theorem dX2_look_48 : decode cX2_look 48 = .ok (.if_icmp .ne 6, 3) := by decide +kernel
theorem dX2_look_51 : decode cX2_look 51 = .ok (.bipush (-3), 2) := by decide +kernel
theorem dX2_look_53 : decode cX2_look 53 = .ok (.ireturn, 1) := by decide +kernel
theorem dX2_look_54 : decode cX2_look 54 = .ok (.aload_n 0, 1) := by decide +kernel
theorem dX2_look_55 : decode cX2_look 55 = .ok (.iload_n 1, 1) := by decide +kernel
theorem dX2_look_56 : decode cX2_look 56 = .ok (.iload_n 3, 1) := by decide +kernel
theorem dX2_look_57 : decode cX2_look 57 = .ok (.invokevirtual 165, 3) := by decide +kernel
theorem dX2_look_60 : decode cX2_look 60 = .ok (.istore 4, 2) := by decide +kernel
theorem dX2_look_62 : decode cX2_look 62 = .ok (.iload 4, 2) := by decide +kernel
theorem dX2_look_64 : decode cX2_look 64 = .ok (.iconst (-1), 1) := by decide +kernel
theorem dX2_look_65 : decode cX2_look 65 = .ok (.if_icmp .ne 8, 3) := by decide +kernel
theorem dX2_look_68 : decode cX2_look 68 = .ok (.bipush (-5), 2) := by decide +kernel
theorem dX2_look_70 : decode cX2_look 70 = .ok (.goto 20, 3) := by decide +kernel
theorem dX2_look_73 : decode cX2_look 73 = .ok (.aload_n 0, 1) := by decide +kernel
theorem dX2_look_74 : decode cX2_look 74 = .ok (.getfield 34, 3) := by decide +kernel
theorem dX2_look_77 : decode cX2_look 77 = .ok (.getfield 67, 3) := by decide +kernel
theorem dX2_look_80 : decode cX2_look 80 = .ok (.aload_n 0, 1) := by decide +kernel
theorem dX2_look_81 : decode cX2_look 81 = .ok (.iload_n 1, 1) := by decide +kernel
theorem dX2_look_82 : decode cX2_look 82 = .ok (.iload 4, 2) := by decide +kernel
theorem dX2_look_84 : decode cX2_look 84 = .ok (.invokevirtual 171, 3) := by decide +kernel
theorem dX2_look_87 : decode cX2_look 87 = .ok (.invokevirtual 84, 3) := by decide +kernel
theorem dX2_look_90 : decode cX2_look 90 = .ok (.ireturn, 1) := by decide +kernel
set_option maxRecDepth 20000 in
theorem ggX2_kind_X2_known : GoodIn wsX2_kind wsX2_known := goodIn_r _ [6, 7, 14, 15, 16, 17, 18, 19, 20, 21, 22, 23] (by decide +kernel) (by decide +kernel)
set_option maxRecDepth 20000 in
theorem gX2_kind_X2_known : GoodIn wsX2_kind (wsV RX2 80 RX2 yX2_known wsX2_known) := goodIn_app (goodIn_of _ (by decide +kernel)) ggX2_kind_X2_known
set_option maxRecDepth 20000 in
theorem ggX2_kind_X1_at : GoodIn wsX2_kind wsX1_at := goodIn_r _ [12, 13, 24, 25] (by decide +kernel) (by decide +kernel)
set_option maxRecDepth 20000 in
theorem gX2_kind_X1_at : GoodIn wsX2_kind (wsV RX2 84 RX1 yX1_at wsX1_at) := goodIn_app (goodIn_of _ (by decide +kernel)) ggX2_kind_X1_at
theorem dX2_kind_0 : decode cX2_kind 0 = .ok (.aload_n 0, 1) := by decide +kernel
theorem dX2_kind_1 : decode cX2_kind 1 = .ok (.iload_n 1, 1) := by decide +kernel
theorem dX2_kind_2 : decode cX2_kind 2 = .ok (.invokevirtual 80, 3) := by decide +kernel
theorem dX2_kind_5 : decode cX2_kind 5 = .ok (.ifCond .eq 14, 3) := by decide +kernel
theorem dX2_kind_8 : decode cX2_kind 8 = .ok (.aload_n 0, 1) := by decide +kernel
theorem dX2_kind_9 : decode cX2_kind 9 = .ok (.getfield 12, 3) := by decide +kernel
theorem dX2_kind_12 : decode cX2_kind 12 = .ok (.iload_n 1, 1) := by decide +kernel
theorem dX2_kind_13 : decode cX2_kind 13 = .ok (.invokevirtual 84, 3) := by decide +kernel
theorem dX2_kind_16 : decode cX2_kind 16 = .ok (.goto 4, 3) := by decide +kernel
theorem dX2_kind_19 : decode cX2_kind 19 = .ok (.iconst (-1), 1) := by decide +kernel
theorem dX2_kind_20 : decode cX2_kind 20 = .ok (.ireturn, 1) := by decide +kernel
theorem dX2_used_0 : decode cX2_used 0 = .ok (.aload_n 0, 1) := by decide +kernel
theorem dX2_used_1 : decode cX2_used 1 = .ok (.getfield 34, 3) := by decide +kernel
theorem dX2_used_4 : decode cX2_used 4 = .ok (.getfield 57, 3) := by decide +kernel
theorem dX2_used_7 : decode cX2_used 7 = .ok (.ireturn, 1) := by decide +kernel
set_option maxRecDepth 20000 in
theorem ggX2_restore_X2_known : GoodIn wsX2_restore wsX2_known := goodIn_r _ [14, 9, 75, 76, 77, 78, 79, 80, 81, 82, 83, 84] (by decide +kernel) (by decide +kernel)
set_option maxRecDepth 20000 in
theorem gX2_restore_X2_known : GoodIn wsX2_restore (wsV RX2 80 RX2 yX2_known wsX2_known) := goodIn_app (goodIn_of _ (by decide +kernel)) ggX2_restore_X2_known
set_option maxRecDepth 20000 in
theorem ggX2_restore_X2_keptBy : GoodIn wsX2_restore wsX2_keptBy := goodIn_r _ [18, 1, 6, 19, 20, 21, 22, 23, 24, 25, 75, 76, 77, 78, 79, 80, 81, 82, 83, 84, 85, 86] (by decide +kernel) (by decide +kernel)
set_option maxRecDepth 20000 in
theorem gX2_restore_X2_keptBy : GoodIn wsX2_restore (wsV RX2 174 RX2 yX2_keptBy wsX2_keptBy) := goodIn_app (goodIn_of _ (by decide +kernel)) ggX2_restore_X2_keptBy
set_option maxRecDepth 20000 in
theorem ggX2_restore_X1_at : GoodIn wsX2_restore wsX1_at := goodIn_r _ [24, 25, 85, 86] (by decide +kernel) (by decide +kernel)
set_option maxRecDepth 20000 in
theorem gX2_restore_X1_at : GoodIn wsX2_restore (wsV RX2 84 RX1 yX1_at wsX1_at) := goodIn_app (goodIn_of _ (by decide +kernel)) ggX2_restore_X1_at
set_option maxRecDepth 20000 in
theorem ggX2_restore_X1_cut : GoodIn wsX2_restore wsX1_cut := goodIn_r _ [29, 30, 85, 86] (by decide +kernel) (by decide +kernel)
set_option maxRecDepth 20000 in
theorem gX2_restore_X1_cut : GoodIn wsX2_restore (wsV RX2 178 RX1 yX1_cut wsX1_cut) := goodIn_app (goodIn_of _ (by decide +kernel)) ggX2_restore_X1_cut
set_option maxRecDepth 20000 in
theorem ggX2_restore_X0_become : GoodIn wsX2_restore wsX0_become := goodIn_r _ [35, 36, 37, 38, 39, 40, 41, 42, 43, 44, 45, 23, 46, 30, 25, 47, 48, 49, 50, 51, 52, 53, 54, 55, 56, 57, 58, 59, 60, 61, 62, 63, 64, 65, 66, 67, 68, 69, 70, 71, 72, 73, 74, 87, 88, 89, 90, 91, 92, 93, 85, 86] (by decide +kernel) (by decide +kernel)
set_option maxRecDepth 20000 in
theorem gX2_restore_X0_become : GoodIn wsX2_restore (wsV RX2 182 RX0 yX0_become wsX0_become) := goodIn_app (goodIn_of _ (by decide +kernel)) ggX2_restore_X0_become
theorem dX2_restore_0 : decode cX2_restore 0 = .ok (.aload_n 0, 1) := by decide +kernel
theorem dX2_restore_1 : decode cX2_restore 1 = .ok (.iload_n 1, 1) := by decide +kernel
theorem dX2_restore_2 : decode cX2_restore 2 = .ok (.invokevirtual 80, 3) := by decide +kernel
theorem dX2_restore_5 : decode cX2_restore 5 = .ok (.ifCond .ne 5, 3) := by decide +kernel
theorem dX2_restore_8 : decode cX2_restore 8 = .ok (.iconst (-1), 1) := by decide +kernel
theorem dX2_restore_9 : decode cX2_restore 9 = .ok (.ireturn, 1) := by decide +kernel
theorem dX2_restore_10 : decode cX2_restore 10 = .ok (.aload_n 0, 1) := by decide +kernel
theorem dX2_restore_11 : decode cX2_restore 11 = .ok (.iload_n 1, 1) := by decide +kernel
theorem dX2_restore_12 : decode cX2_restore 12 = .ok (.invokevirtual 174, 3) := by decide +kernel
theorem dX2_restore_15 : decode cX2_restore 15 = .ok (.astore_n 2, 1) := by decide +kernel
theorem dX2_restore_16 : decode cX2_restore 16 = .ok (.aload_n 2, 1) := by decide +kernel
theorem dX2_restore_17 : decode cX2_restore 17 = .ok (.ifnonnull 6, 3) := by decide +kernel
theorem dX2_restore_20 : decode cX2_restore 20 = .ok (.bipush (-3), 2) := by decide +kernel
theorem dX2_restore_22 : decode cX2_restore 22 = .ok (.ireturn, 1) := by decide +kernel
theorem dX2_restore_23 : decode cX2_restore 23 = .ok (.aload_n 0, 1) := by decide +kernel
theorem dX2_restore_24 : decode cX2_restore 24 = .ok (.aload_n 0, 1) := by decide +kernel
theorem dX2_restore_25 : decode cX2_restore 25 = .ok (.getfield 16, 3) := by decide +kernel
theorem dX2_restore_28 : decode cX2_restore 28 = .ok (.iload_n 1, 1) := by decide +kernel
theorem dX2_restore_29 : decode cX2_restore 29 = .ok (.invokevirtual 84, 3) := by decide +kernel
theorem dX2_restore_32 : decode cX2_restore 32 = .ok (.putfield 54, 3) := by decide +kernel
theorem dX2_restore_35 : decode cX2_restore 35 = .ok (.aload_n 0, 1) := by decide +kernel
theorem dX2_restore_36 : decode cX2_restore 36 = .ok (.getfield 28, 3) := by decide +kernel
theorem dX2_restore_39 : decode cX2_restore 39 = .ok (.aload_n 0, 1) := by decide +kernel
theorem dX2_restore_40 : decode cX2_restore 40 = .ok (.getfield 22, 3) := by decide +kernel
theorem dX2_restore_43 : decode cX2_restore 43 = .ok (.iload_n 1, 1) := by decide +kernel
theorem dX2_restore_44 : decode cX2_restore 44 = .ok (.invokevirtual 84, 3) := by decide +kernel
theorem dX2_restore_47 : decode cX2_restore 47 = .ok (.invokevirtual 178, 3) := by decide +kernel
theorem dX2_restore_50 : decode cX2_restore 50 = .ok (.aload_n 0, 1) := by decide +kernel
theorem dX2_restore_51 : decode cX2_restore 51 = .ok (.getfield 34, 3) := by decide +kernel
theorem dX2_restore_54 : decode cX2_restore 54 = .ok (.aload_n 2, 1) := by decide +kernel
theorem dX2_restore_55 : decode cX2_restore 55 = .ok (.invokevirtual 182, 3) := by decide +kernel
theorem dX2_restore_58 : decode cX2_restore 58 = .ok (.aload_n 0, 1) := by decide +kernel
theorem dX2_restore_59 : decode cX2_restore 59 = .ok (.getfield 12, 3) := by decide +kernel
theorem dX2_restore_62 : decode cX2_restore 62 = .ok (.iload_n 1, 1) := by decide +kernel
theorem dX2_restore_63 : decode cX2_restore 63 = .ok (.invokevirtual 178, 3) := by decide +kernel
theorem dX2_restore_66 : decode cX2_restore 66 = .ok (.aload_n 0, 1) := by decide +kernel
theorem dX2_restore_67 : decode cX2_restore 67 = .ok (.getfield 16, 3) := by decide +kernel
theorem dX2_restore_70 : decode cX2_restore 70 = .ok (.iload_n 1, 1) := by decide +kernel
theorem dX2_restore_71 : decode cX2_restore 71 = .ok (.invokevirtual 178, 3) := by decide +kernel
theorem dX2_restore_74 : decode cX2_restore 74 = .ok (.aload_n 0, 1) := by decide +kernel
theorem dX2_restore_75 : decode cX2_restore 75 = .ok (.getfield 19, 3) := by decide +kernel
theorem dX2_restore_78 : decode cX2_restore 78 = .ok (.iload_n 1, 1) := by decide +kernel
theorem dX2_restore_79 : decode cX2_restore 79 = .ok (.invokevirtual 178, 3) := by decide +kernel
theorem dX2_restore_82 : decode cX2_restore 82 = .ok (.aload_n 0, 1) := by decide +kernel
theorem dX2_restore_83 : decode cX2_restore 83 = .ok (.getfield 22, 3) := by decide +kernel
theorem dX2_restore_86 : decode cX2_restore 86 = .ok (.iload_n 1, 1) := by decide +kernel
theorem dX2_restore_87 : decode cX2_restore 87 = .ok (.invokevirtual 178, 3) := by decide +kernel
theorem dX2_restore_90 : decode cX2_restore 90 = .ok (.aload_n 0, 1) := by decide +kernel
theorem dX2_restore_91 : decode cX2_restore 91 = .ok (.getfield 25, 3) := by decide +kernel
theorem dX2_restore_94 : decode cX2_restore 94 = .ok (.iload_n 1, 1) := by decide +kernel
theorem dX2_restore_95 : decode cX2_restore 95 = .ok (.invokevirtual 178, 3) := by decide +kernel
theorem dX2_restore_98 : decode cX2_restore 98 = .ok (.aload_n 0, 1) := by decide +kernel
theorem dX2_restore_99 : decode cX2_restore 99 = .ok (.iload_n 1, 1) := by decide +kernel
theorem dX2_restore_100 : decode cX2_restore 100 = .ok (.putfield 50, 3) := by decide +kernel
theorem dX2_restore_103 : decode cX2_restore 103 = .ok (.aload_n 0, 1) := by decide +kernel
theorem dX2_restore_104 : decode cX2_restore 104 = .ok (.getfield 50, 3) := by decide +kernel
theorem dX2_restore_107 : decode cX2_restore 107 = .ok (.ireturn, 1) := by decide +kernel
theorem dX2_known_0 : decode cX2_known 0 = .ok (.iload_n 1, 1) := by decide +kernel
theorem dX2_known_1 : decode cX2_known 1 = .ok (.ifCond .lt 15, 3) := by decide +kernel
theorem dX2_known_4 : decode cX2_known 4 = .ok (.iload_n 1, 1) := by decide +kernel
theorem dX2_known_5 : decode cX2_known 5 = .ok (.aload_n 0, 1) := by decide +kernel
theorem dX2_known_6 : decode cX2_known 6 = .ok (.getfield 50, 3) := by decide +kernel
theorem dX2_known_9 : decode cX2_known 9 = .ok (.if_icmp .ge 7, 3) := by decide +kernel
theorem dX2_known_12 : decode cX2_known 12 = .ok (.iconst 1, 1) := by decide +kernel
theorem dX2_known_13 : decode cX2_known 13 = .ok (.goto 4, 3) := by decide +kernel
theorem dX2_known_16 : decode cX2_known 16 = .ok (.iconst 0, 1) := by decide +kernel
theorem dX2_known_17 : decode cX2_known 17 = .ok (.ireturn, 1) := by decide +kernel
theorem dX2_within_0 : decode cX2_within 0 = .ok (.iload_n 0, 1) := by decide +kernel
theorem dX2_within_1 : decode cX2_within 1 = .ok (.ifCond .lt 12, 3) := by decide +kernel
theorem dX2_within_4 : decode cX2_within 4 = .ok (.iload_n 0, 1) := by decide +kernel
theorem dX2_within_5 : decode cX2_within 5 = .ok (.iload_n 1, 1) := by decide +kernel
theorem dX2_within_6 : decode cX2_within 6 = .ok (.if_icmp .gt 7, 3) := by decide +kernel
theorem dX2_within_9 : decode cX2_within 9 = .ok (.iconst 1, 1) := by decide +kernel
theorem dX2_within_10 : decode cX2_within 10 = .ok (.goto 4, 3) := by decide +kernel
theorem dX2_within_13 : decode cX2_within 13 = .ok (.iconst 0, 1) := by decide +kernel
theorem dX2_within_14 : decode cX2_within 14 = .ok (.ireturn, 1) := by decide +kernel
set_option maxRecDepth 20000 in
theorem ggX2_sizeFits_X2_within : GoodIn wsX2_sizeFits wsX2_within := goodIn_r _ [9] (by decide +kernel) (by decide +kernel)
set_option maxRecDepth 20000 in
theorem gX2_sizeFits_X2_within : GoodIn wsX2_sizeFits (va_wsS RX2 90 yX2_within wsX2_within) := goodIn_app (goodIn_of _ (by decide +kernel)) ggX2_sizeFits_X2_within
theorem dX2_sizeFits_0 : decode cX2_sizeFits 0 = .ok (.iload_n 1, 1) := by decide +kernel
theorem dX2_sizeFits_1 : decode cX2_sizeFits 1 = .ok (.tableswitch 88 2 7 #[39, 45, 53, 60, 67, 81], 39) := by decide +kernel
theorem dX2_sizeFits_40 : decode cX2_sizeFits 40 = .ok (.iload_n 2, 1) := by decide +kernel
theorem dX2_sizeFits_41 : decode cX2_sizeFits 41 = .ok (.iconst 1, 1) := by decide +kernel
theorem dX2_sizeFits_42 : decode cX2_sizeFits 42 = .ok (.invokestatic 90, 3) := by decide +kernel
theorem dX2_sizeFits_45 : decode cX2_sizeFits 45 = .ok (.ireturn, 1) := by decide +kernel
theorem dX2_sizeFits_46 : decode cX2_sizeFits 46 = .ok (.iload_n 2, 1) := by decide +kernel
theorem dX2_sizeFits_47 : decode cX2_sizeFits 47 = .ok (.sipush 999, 3) := by decide +kernel
theorem dX2_sizeFits_50 : decode cX2_sizeFits 50 = .ok (.invokestatic 90, 3) := by decide +kernel
theorem dX2_sizeFits_53 : decode cX2_sizeFits 53 = .ok (.ireturn, 1) := by decide +kernel
theorem dX2_sizeFits_54 : decode cX2_sizeFits 54 = .ok (.iload_n 2, 1) := by decide +kernel
theorem dX2_sizeFits_55 : decode cX2_sizeFits 55 = .ok (.bipush 64, 2) := by decide +kernel
theorem dX2_sizeFits_57 : decode cX2_sizeFits 57 = .ok (.invokestatic 90, 3) := by decide +kernel
theorem dX2_sizeFits_60 : decode cX2_sizeFits 60 = .ok (.ireturn, 1) := by decide +kernel
theorem dX2_sizeFits_61 : decode cX2_sizeFits 61 = .ok (.iload_n 2, 1) := by decide +kernel
theorem dX2_sizeFits_62 : decode cX2_sizeFits 62 = .ok (.bipush 32, 2) := by decide +kernel
theorem dX2_sizeFits_64 : decode cX2_sizeFits 64 = .ok (.invokestatic 90, 3) := by decide +kernel
theorem dX2_sizeFits_67 : decode cX2_sizeFits 67 = .ok (.ireturn, 1) := by decide +kernel
theorem dX2_sizeFits_68 : decode cX2_sizeFits 68 = .ok (.iload_n 2, 1) := by decide +kernel
theorem dX2_sizeFits_69 : decode cX2_sizeFits 69 = .ok (.bipush 32, 2) := by decide +kernel
theorem dX2_sizeFits_71 : decode cX2_sizeFits 71 = .ok (.aload_n 0, 1) := by decide +kernel
theorem dX2_sizeFits_72 : decode cX2_sizeFits 72 = .ok (.getfield 50, 3) := by decide +kernel
theorem dX2_sizeFits_75 : decode cX2_sizeFits 75 = .ok (.invokestatic 186, 3) := by decide +kernel
theorem dX2_sizeFits_78 : decode cX2_sizeFits 78 = .ok (.invokestatic 90, 3) := by decide +kernel
theorem dX2_sizeFits_81 : decode cX2_sizeFits 81 = .ok (.ireturn, 1) := by decide +kernel
theorem dX2_sizeFits_82 : decode cX2_sizeFits 82 = .ok (.iload_n 2, 1) := by decide +kernel
theorem dX2_sizeFits_83 : decode cX2_sizeFits 83 = .ok (.bipush 32, 2) := by decide +kernel
theorem dX2_sizeFits_85 : decode cX2_sizeFits 85 = .ok (.invokestatic 90, 3) := by decide +kernel
theorem dX2_sizeFits_88 : decode cX2_sizeFits 88 = .ok (.ireturn, 1) := by decide +kernel
theorem dX2_sizeFits_89 : decode cX2_sizeFits 89 = .ok (.iconst 1, 1) := by decide +kernel
theorem dX2_sizeFits_90 : decode cX2_sizeFits 90 = .ok (.ireturn, 1) := by decide +kernel
set_option maxRecDepth 20000 in
theorem ggX2_isView_X2_isList : GoodIn wsX2_isView wsX2_isList := goodIn_r _ [4] (by decide +kernel) (by decide +kernel)
set_option maxRecDepth 20000 in
theorem gX2_isView_X2_isList : GoodIn wsX2_isView (va_wsS RX2 191 yX2_isList wsX2_isList) := goodIn_app (goodIn_of _ (by decide +kernel)) ggX2_isView_X2_isList
theorem dX2_isView_0 : decode cX2_isView 0 = .ok (.iload_n 0, 1) := by decide +kernel
theorem dX2_isView_1 : decode cX2_isView 1 = .ok (.iconst 4, 1) := by decide +kernel
theorem dX2_isView_2 : decode cX2_isView 2 = .ok (.if_icmp .eq 10, 3) := by decide +kernel
theorem dX2_isView_5 : decode cX2_isView 5 = .ok (.iload_n 0, 1) := by decide +kernel
theorem dX2_isView_6 : decode cX2_isView 6 = .ok (.invokestatic 191, 3) := by decide +kernel
theorem dX2_isView_9 : decode cX2_isView 9 = .ok (.ifCond .eq 7, 3) := by decide +kernel
theorem dX2_isView_12 : decode cX2_isView 12 = .ok (.iconst 1, 1) := by decide +kernel
theorem dX2_isView_13 : decode cX2_isView 13 = .ok (.goto 4, 3) := by decide +kernel
theorem dX2_isView_16 : decode cX2_isView 16 = .ok (.iconst 0, 1) := by decide +kernel
theorem dX2_isView_17 : decode cX2_isView 17 = .ok (.ireturn, 1) := by decide +kernel
theorem dX2_isList_0 : decode cX2_isList 0 = .ok (.iload_n 0, 1) := by decide +kernel
theorem dX2_isList_1 : decode cX2_isList 1 = .ok (.iconst 5, 1) := by decide +kernel
theorem dX2_isList_2 : decode cX2_isList 2 = .ok (.if_icmp .eq 9, 3) := by decide +kernel
theorem dX2_isList_5 : decode cX2_isList 5 = .ok (.iload_n 0, 1) := by decide +kernel
theorem dX2_isList_6 : decode cX2_isList 6 = .ok (.bipush 6, 2) := by decide +kernel
theorem dX2_isList_8 : decode cX2_isList 8 = .ok (.if_icmp .ne 7, 3) := by decide +kernel
theorem dX2_isList_11 : decode cX2_isList 11 = .ok (.iconst 1, 1) := by decide +kernel
theorem dX2_isList_12 : decode cX2_isList 12 = .ok (.goto 4, 3) := by decide +kernel
theorem dX2_isList_15 : decode cX2_isList 15 = .ok (.iconst 0, 1) := by decide +kernel
theorem dX2_isList_16 : decode cX2_isList 16 = .ok (.ireturn, 1) := by decide +kernel
theorem dX2_hasNumber_0 : decode cX2_hasNumber 0 = .ok (.iload_n 0, 1) := by decide +kernel
theorem dX2_hasNumber_1 : decode cX2_hasNumber 1 = .ok (.iconst 1, 1) := by decide +kernel
theorem dX2_hasNumber_2 : decode cX2_hasNumber 2 = .ok (.if_icmp .eq 25, 3) := by decide +kernel
theorem dX2_hasNumber_5 : decode cX2_hasNumber 5 = .ok (.iload_n 0, 1) := by decide +kernel
theorem dX2_hasNumber_6 : decode cX2_hasNumber 6 = .ok (.iconst 2, 1) := by decide +kernel
theorem dX2_hasNumber_7 : decode cX2_hasNumber 7 = .ok (.if_icmp .eq 20, 3) := by decide +kernel
theorem dX2_hasNumber_10 : decode cX2_hasNumber 10 = .ok (.iload_n 0, 1) := by decide +kernel
theorem dX2_hasNumber_11 : decode cX2_hasNumber 11 = .ok (.iconst 3, 1) := by decide +kernel
theorem dX2_hasNumber_12 : decode cX2_hasNumber 12 = .ok (.if_icmp .eq 15, 3) := by decide +kernel
theorem dX2_hasNumber_15 : decode cX2_hasNumber 15 = .ok (.iload_n 0, 1) := by decide +kernel
theorem dX2_hasNumber_16 : decode cX2_hasNumber 16 = .ok (.bipush 9, 2) := by decide +kernel
theorem dX2_hasNumber_18 : decode cX2_hasNumber 18 = .ok (.if_icmp .eq 9, 3) := by decide +kernel
theorem dX2_hasNumber_21 : decode cX2_hasNumber 21 = .ok (.iload_n 0, 1) := by decide +kernel
theorem dX2_hasNumber_22 : decode cX2_hasNumber 22 = .ok (.bipush 10, 2) := by decide +kernel
theorem dX2_hasNumber_24 : decode cX2_hasNumber 24 = .ok (.if_icmp .ne 7, 3) := by decide +kernel
theorem dX2_hasNumber_27 : decode cX2_hasNumber 27 = .ok (.iconst 1, 1) := by decide +kernel
theorem dX2_hasNumber_28 : decode cX2_hasNumber 28 = .ok (.goto 4, 3) := by decide +kernel
theorem dX2_hasNumber_31 : decode cX2_hasNumber 31 = .ok (.iconst 0, 1) := by decide +kernel
theorem dX2_hasNumber_32 : decode cX2_hasNumber 32 = .ok (.ireturn, 1) := by decide +kernel
theorem dX2_firstAccess_0 : decode cX2_firstAccess 0 = .ok (.iload_n 0, 1) := by decide +kernel
theorem dX2_firstAccess_1 : decode cX2_firstAccess 1 = .ok (.tableswitch 43 4 9 #[39, 39, 41, 39, 43, 39], 39) := by decide +kernel
theorem dX2_firstAccess_40 : decode cX2_firstAccess 40 = .ok (.iconst 3, 1) := by decide +kernel
theorem dX2_firstAccess_41 : decode cX2_firstAccess 41 = .ok (.ireturn, 1) := by decide +kernel
theorem dX2_firstAccess_42 : decode cX2_firstAccess 42 = .ok (.iconst 2, 1) := by decide +kernel
theorem dX2_firstAccess_43 : decode cX2_firstAccess 43 = .ok (.ireturn, 1) := by decide +kernel
theorem dX2_firstAccess_44 : decode cX2_firstAccess 44 = .ok (.iconst 0, 1) := by decide +kernel
theorem dX2_firstAccess_45 : decode cX2_firstAccess 45 = .ok (.ireturn, 1) := by decide +kernel
theorem dX2_placeStorage_0 : decode cX2_placeStorage 0 = .ok (.iload_n 0, 1) := by decide +kernel
theorem dX2_placeStorage_1 : decode cX2_placeStorage 1 = .ok (.tableswitch 41 4 7 #[31, 33, 36, 38], 31) := by decide +kernel
theorem dX2_placeStorage_32 : decode cX2_placeStorage 32 = .ok (.iconst 1, 1) := by decide +kernel
theorem dX2_placeStorage_33 : decode cX2_placeStorage 33 = .ok (.ireturn, 1) := by decide +kernel
theorem dX2_placeStorage_34 : decode cX2_placeStorage 34 = .ok (.bipush 8, 2) := by decide +kernel
theorem dX2_placeStorage_36 : decode cX2_placeStorage 36 = .ok (.ireturn, 1) := by decide +kernel
theorem dX2_placeStorage_37 : decode cX2_placeStorage 37 = .ok (.iconst 4, 1) := by decide +kernel
theorem dX2_placeStorage_38 : decode cX2_placeStorage 38 = .ok (.ireturn, 1) := by decide +kernel
theorem dX2_placeStorage_39 : decode cX2_placeStorage 39 = .ok (.bipush 16, 2) := by decide +kernel
theorem dX2_placeStorage_41 : decode cX2_placeStorage 41 = .ok (.ireturn, 1) := by decide +kernel
theorem dX2_placeStorage_42 : decode cX2_placeStorage 42 = .ok (.iconst 0, 1) := by decide +kernel
theorem dX2_placeStorage_43 : decode cX2_placeStorage 43 = .ok (.ireturn, 1) := by decide +kernel
set_option maxRecDepth 20000 in
theorem ggX2_addObject_X1_add : GoodIn wsX2_addObject wsX1_add := goodIn_r _ [13, 14, 15, 16, 17, 12, 18, 19, 20, 21, 22, 23, 24, 25, 26, 27, 28, 29, 30, 31, 32, 33, 34, 35, 36, 37, 38, 39, 40, 41, 42, 43, 44, 45, 78, 79] (by decide +kernel) (by decide +kernel)
set_option maxRecDepth 20000 in
theorem gX2_addObject_X1_add : GoodIn wsX2_addObject (wsV RX2 194 RX1 yX1_add wsX1_add) := goodIn_app (goodIn_of _ (by decide +kernel)) ggX2_addObject_X1_add
set_option maxRecDepth 20000 in
theorem ggX2_addObject_X2_firstAccess : GoodIn wsX2_addObject wsX2_firstAccess := goodIn_r _ [49] (by decide +kernel) (by decide +kernel)
set_option maxRecDepth 20000 in
theorem gX2_addObject_X2_firstAccess : GoodIn wsX2_addObject (va_wsS RX2 197 yX2_firstAccess wsX2_firstAccess) := goodIn_app (goodIn_of _ (by decide +kernel)) ggX2_addObject_X2_firstAccess
set_option maxRecDepth 20000 in
theorem ggX2_addObject_X0_addCells : GoodIn wsX2_addObject wsX0_addCells := goodIn_r _ [54, 55, 56, 57, 58, 59, 60, 10, 11, 12, 13, 14, 15, 16, 17, 18, 19, 20, 21, 22, 23, 24, 25, 26, 27, 28, 29, 30, 31, 32, 33, 34, 35, 36, 37, 38, 39, 40, 41, 42, 43, 44, 45, 71, 72, 73, 74, 75, 76, 77, 78, 79] (by decide +kernel) (by decide +kernel)
set_option maxRecDepth 20000 in
theorem gX2_addObject_X0_addCells : GoodIn wsX2_addObject (wsV RX2 200 RX0 yX0_addCells wsX0_addCells) := goodIn_app (goodIn_of _ (by decide +kernel)) ggX2_addObject_X0_addCells
theorem dX2_addObject_0 : decode cX2_addObject 0 = .ok (.aload_n 0, 1) := by decide +kernel
theorem dX2_addObject_1 : decode cX2_addObject 1 = .ok (.getfield 50, 3) := by decide +kernel
theorem dX2_addObject_4 : decode cX2_addObject 4 = .ok (.istore 5, 2) := by decide +kernel
theorem dX2_addObject_6 : decode cX2_addObject 6 = .ok (.aload_n 0, 1) := by decide +kernel
theorem dX2_addObject_7 : decode cX2_addObject 7 = .ok (.getfield 12, 3) := by decide +kernel
theorem dX2_addObject_10 : decode cX2_addObject 10 = .ok (.iload_n 1, 1) := by decide +kernel
theorem dX2_addObject_11 : decode cX2_addObject 11 = .ok (.invokevirtual 194, 3) := by decide +kernel
theorem dX2_addObject_14 : decode cX2_addObject 14 = .ok (.aload_n 0, 1) := by decide +kernel
theorem dX2_addObject_15 : decode cX2_addObject 15 = .ok (.getfield 16, 3) := by decide +kernel
theorem dX2_addObject_18 : decode cX2_addObject 18 = .ok (.iload_n 2, 1) := by decide +kernel
theorem dX2_addObject_19 : decode cX2_addObject 19 = .ok (.invokevirtual 194, 3) := by decide +kernel
theorem dX2_addObject_22 : decode cX2_addObject 22 = .ok (.aload_n 0, 1) := by decide +kernel
theorem dX2_addObject_23 : decode cX2_addObject 23 = .ok (.getfield 19, 3) := by decide +kernel
theorem dX2_addObject_26 : decode cX2_addObject 26 = .ok (.iload 5, 2) := by decide +kernel
theorem dX2_addObject_28 : decode cX2_addObject 28 = .ok (.invokevirtual 194, 3) := by decide +kernel
theorem dX2_addObject_31 : decode cX2_addObject 31 = .ok (.aload_n 0, 1) := by decide +kernel
theorem dX2_addObject_32 : decode cX2_addObject 32 = .ok (.getfield 22, 3) := by decide +kernel
theorem dX2_addObject_35 : decode cX2_addObject 35 = .ok (.iload_n 3, 1) := by decide +kernel
theorem dX2_addObject_36 : decode cX2_addObject 36 = .ok (.invokevirtual 194, 3) := by decide +kernel
theorem dX2_addObject_39 : decode cX2_addObject 39 = .ok (.aload_n 0, 1) := by decide +kernel
theorem dX2_addObject_40 : decode cX2_addObject 40 = .ok (.getfield 25, 3) := by decide +kernel
theorem dX2_addObject_43 : decode cX2_addObject 43 = .ok (.iload 4, 2) := by decide +kernel
theorem dX2_addObject_45 : decode cX2_addObject 45 = .ok (.invokevirtual 194, 3) := by decide +kernel
theorem dX2_addObject_48 : decode cX2_addObject 48 = .ok (.aload_n 0, 1) := by decide +kernel
theorem dX2_addObject_49 : decode cX2_addObject 49 = .ok (.getfield 34, 3) := by decide +kernel
theorem dX2_addObject_52 : decode cX2_addObject 52 = .ok (.iload_n 1, 1) := by decide +kernel
theorem dX2_addObject_53 : decode cX2_addObject 53 = .ok (.invokestatic 197, 3) := by decide +kernel
theorem dX2_addObject_56 : decode cX2_addObject 56 = .ok (.invokevirtual 200, 3) := by decide +kernel
theorem dX2_addObject_59 : decode cX2_addObject 59 = .ok (.aload_n 0, 1) := by decide +kernel
theorem dX2_addObject_60 : decode cX2_addObject 60 = .ok (.getfield 34, 3) := by decide +kernel
theorem dX2_addObject_63 : decode cX2_addObject 63 = .ok (.dup, 1) := by decide +kernel
theorem dX2_addObject_64 : decode cX2_addObject 64 = .ok (.getfield 57, 3) := by decide +kernel
theorem dX2_addObject_67 : decode cX2_addObject 67 = .ok (.bipush 8, 2) := by decide +kernel
theorem dX2_addObject_69 : decode cX2_addObject 69 = .ok (.iadd, 1) := by decide +kernel
theorem dX2_addObject_70 : decode cX2_addObject 70 = .ok (.putfield 57, 3) := by decide +kernel
theorem dX2_addObject_73 : decode cX2_addObject 73 = .ok (.aload_n 0, 1) := by decide +kernel
theorem dX2_addObject_74 : decode cX2_addObject 74 = .ok (.iload 5, 2) := by decide +kernel
theorem dX2_addObject_76 : decode cX2_addObject 76 = .ok (.iconst 1, 1) := by decide +kernel
theorem dX2_addObject_77 : decode cX2_addObject 77 = .ok (.iadd, 1) := by decide +kernel
theorem dX2_addObject_78 : decode cX2_addObject 78 = .ok (.putfield 50, 3) := by decide +kernel
theorem dX2_addObject_81 : decode cX2_addObject 81 = .ok (.iload 5, 2) := by decide +kernel
theorem dX2_addObject_83 : decode cX2_addObject 83 = .ok (.ireturn, 1) := by decide +kernel
set_option maxRecDepth 20000 in
theorem ggX2_makePacked_X1_addZeros : GoodIn wsX2_makePacked wsX1_addZeros := goodIn_r _ [8, 9, 10, 11, 12, 7, 13, 14, 15, 16, 17, 18, 19, 20, 21, 22, 23, 24, 25, 26, 27, 28, 29, 30, 31, 32, 33, 34, 35, 36, 37, 38, 39, 40, 88, 89] (by decide +kernel) (by decide +kernel)
set_option maxRecDepth 20000 in
theorem gX2_makePacked_X1_addZeros : GoodIn wsX2_makePacked (wsV RX2 64 RX1 yX1_addZeros wsX1_addZeros) := goodIn_app (goodIn_of _ (by decide +kernel)) ggX2_makePacked_X1_addZeros
set_option maxRecDepth 20000 in
theorem ggX2_makePacked_X1_set : GoodIn wsX2_makePacked wsX1_set := goodIn_r _ [40, 14, 88, 89] (by decide +kernel) (by decide +kernel)
set_option maxRecDepth 20000 in
theorem gX2_makePacked_X1_set : GoodIn wsX2_makePacked (wsV RX2 100 RX1 yX1_set wsX1_set) := goodIn_app (goodIn_of _ (by decide +kernel)) ggX2_makePacked_X1_set
set_option maxRecDepth 20000 in
theorem ggX2_makePacked_X2_addObject : GoodIn wsX2_makePacked wsX2_addObject := goodIn_r _ [46, 1, 47, 48, 49, 50, 51, 2, 52, 53, 54, 55, 7, 56, 9, 10, 11, 12, 13, 14, 15, 16, 17, 18, 19, 20, 21, 22, 23, 24, 25, 26, 27, 28, 29, 30, 31, 32, 33, 34, 35, 36, 37, 38, 39, 40, 57, 58, 45, 59, 60, 61, 62, 63, 64, 65, 66, 67, 68, 69, 70, 71, 72, 73, 74, 75, 76, 77, 78, 79, 80, 81, 82, 83, 84, 85, 86, 87, 88, 89] (by decide +kernel) (by decide +kernel)
set_option maxRecDepth 20000 in
theorem gX2_makePacked_X2_addObject : GoodIn wsX2_makePacked (wsV RX2 42 RX2 yX2_addObject wsX2_addObject) := goodIn_app (goodIn_of _ (by decide +kernel)) ggX2_makePacked_X2_addObject
theorem dX2_makePacked_0 : decode cX2_makePacked 0 = .ok (.aload_n 0, 1) := by decide +kernel
theorem dX2_makePacked_1 : decode cX2_makePacked 1 = .ok (.getfield 50, 3) := by decide +kernel
theorem dX2_makePacked_4 : decode cX2_makePacked 4 = .ok (.iload_n 1, 1) := by decide +kernel
theorem dX2_makePacked_5 : decode cX2_makePacked 5 = .ok (.isub, 1) := by decide +kernel
theorem dX2_makePacked_6 : decode cX2_makePacked 6 = .ok (.istore_n 2, 1) := by decide +kernel
theorem dX2_makePacked_7 : decode cX2_makePacked 7 = .ok (.aload_n 0, 1) := by decide +kernel
theorem dX2_makePacked_8 : decode cX2_makePacked 8 = .ok (.getfield 34, 3) := by decide +kernel
theorem dX2_makePacked_11 : decode cX2_makePacked 11 = .ok (.getfield 67, 3) := by decide +kernel
theorem dX2_makePacked_14 : decode cX2_makePacked 14 = .ok (.iload_n 1, 1) := by decide +kernel
theorem dX2_makePacked_15 : decode cX2_makePacked 15 = .ok (.invokevirtual 64, 3) := by decide +kernel
theorem dX2_makePacked_18 : decode cX2_makePacked 18 = .ok (.istore_n 3, 1) := by decide +kernel
theorem dX2_makePacked_19 : decode cX2_makePacked 19 = .ok (.iconst 0, 1) := by decide +kernel
theorem dX2_makePacked_20 : decode cX2_makePacked 20 = .ok (.istore 4, 2) := by decide +kernel
theorem dX2_makePacked_22 : decode cX2_makePacked 22 = .ok (.iload 4, 2) := by decide +kernel
theorem dX2_makePacked_24 : decode cX2_makePacked 24 = .ok (.iload_n 1, 1) := by decide +kernel
theorem dX2_makePacked_25 : decode cX2_makePacked 25 = .ok (.if_icmp .ge 27, 3) := by decide +kernel
theorem dX2_makePacked_28 : decode cX2_makePacked 28 = .ok (.aload_n 0, 1) := by decide +kernel
theorem dX2_makePacked_29 : decode cX2_makePacked 29 = .ok (.getfield 34, 3) := by decide +kernel
theorem dX2_makePacked_32 : decode cX2_makePacked 32 = .ok (.getfield 67, 3) := by decide +kernel
theorem dX2_makePacked_35 : decode cX2_makePacked 35 = .ok (.iload_n 3, 1) := by decide +kernel
theorem dX2_makePacked_36 : decode cX2_makePacked 36 = .ok (.iload 4, 2) := by decide +kernel
theorem dX2_makePacked_38 : decode cX2_makePacked 38 = .ok (.iadd, 1) := by decide +kernel
theorem dX2_makePacked_39 : decode cX2_makePacked 39 = .ok (.iload_n 2, 1) := by decide +kernel
theorem dX2_makePacked_40 : decode cX2_makePacked 40 = .ok (.iload 4, 2) := by decide +kernel
