theorem dX3_nameOf_47 : decode cX3_nameOf 47 = .ok (.istore 4, 2) := by decide +kernel
theorem dX3_nameOf_49 : decode cX3_nameOf 49 = .ok (.iload 4, 2) := by decide +kernel
theorem dX3_nameOf_51 : decode cX3_nameOf 51 = .ok (.iload_n 2, 1) := by decide +kernel
theorem dX3_nameOf_52 : decode cX3_nameOf 52 = .ok (.if_icmp .ge 45, 3) := by decide +kernel
theorem dX3_nameOf_55 : decode cX3_nameOf 55 = .ok (.aload_n 0, 1) := by decide +kernel
theorem dX3_nameOf_56 : decode cX3_nameOf 56 = .ok (.iload_n 1, 1) := by decide +kernel
theorem dX3_nameOf_57 : decode cX3_nameOf 57 = .ok (.iload 4, 2) := by decide +kernel
theorem dX3_nameOf_59 : decode cX3_nameOf 59 = .ok (.invokevirtual 100, 3) := by decide +kernel
theorem dX3_nameOf_62 : decode cX3_nameOf 62 = .ok (.istore 5, 2) := by decide +kernel
theorem dX3_nameOf_64 : decode cX3_nameOf 64 = .ok (.iload 5, 2) := by decide +kernel
theorem dX3_nameOf_66 : decode cX3_nameOf 66 = .ok (.bipush 48, 2) := by decide +kernel
theorem dX3_nameOf_68 : decode cX3_nameOf 68 = .ok (.if_icmp .lt 10, 3) := by decide +kernel
theorem dX3_nameOf_71 : decode cX3_nameOf 71 = .ok (.iload 5, 2) := by decide +kernel
theorem dX3_nameOf_73 : decode cX3_nameOf 73 = .ok (.bipush 57, 2) := by decide +kernel
theorem dX3_nameOf_75 : decode cX3_nameOf 75 = .ok (.if_icmp .le 5, 3) := by decide +kernel
theorem dX3_nameOf_78 : decode cX3_nameOf 78 = .ok (.iconst (-1), 1) := by decide +kernel
theorem dX3_nameOf_79 : decode cX3_nameOf 79 = .ok (.ireturn, 1) := by decide +kernel
theorem dX3_nameOf_80 : decode cX3_nameOf 80 = .ok (.bipush 10, 2) := by decide +kernel
theorem dX3_nameOf_82 : decode cX3_nameOf 82 = .ok (.iload_n 3, 1) := by decide +kernel
theorem dX3_nameOf_83 : decode cX3_nameOf 83 = .ok (.imul, 1) := by decide +kernel
theorem dX3_nameOf_84 : decode cX3_nameOf 84 = .ok (.iload 5, 2) := by decide +kernel
theorem dX3_nameOf_86 : decode cX3_nameOf 86 = .ok (.iadd, 1) := by decide +kernel
theorem dX3_nameOf_87 : decode cX3_nameOf 87 = .ok (.bipush 48, 2) := by decide +kernel
theorem dX3_nameOf_89 : decode cX3_nameOf 89 = .ok (.isub, 1) := by decide +kernel
theorem dX3_nameOf_90 : decode cX3_nameOf 90 = .ok (.istore_n 3, 1) := by decide +kernel
theorem dX3_nameOf_91 : decode cX3_nameOf 91 = .ok (.iinc 4 1, 3) := by decide +kernel
theorem dX3_nameOf_94 : decode cX3_nameOf 94 = .ok (.goto (-45), 3) := by decide +kernel
theorem dX3_nameOf_97 : decode cX3_nameOf 97 = .ok (.iload_n 3, 1) := by decide +kernel
theorem dX3_nameOf_98 : decode cX3_nameOf 98 = .ok (.ireturn, 1) := by decide +kernel
theorem dX3_coded_0 : decode cX3_coded 0 = .ok (.iload_n 0, 1) := by decide +kernel
theorem dX3_coded_1 : decode cX3_coded 1 = .ok (.i2l, 1) := by decide +kernel
theorem dX3_coded_2 : decode cX3_coded 2 = .ok (.bipush 40, 2) := by decide +kernel
theorem dX3_coded_4 : decode cX3_coded 4 = .ok (.lshl, 1) := by decide +kernel
theorem dX3_coded_5 : decode cX3_coded 5 = .ok (.iload_n 1, 1) := by decide +kernel
theorem dX3_coded_6 : decode cX3_coded 6 = .ok (.i2l, 1) := by decide +kernel
theorem dX3_coded_7 : decode cX3_coded 7 = .ok (.ldc2_w 107, 3) := by decide +kernel
theorem dX3_coded_10 : decode cX3_coded 10 = .ok (.land, 1) := by decide +kernel
theorem dX3_coded_11 : decode cX3_coded 11 = .ok (.lor, 1) := by decide +kernel
theorem dX3_coded_12 : decode cX3_coded 12 = .ok (.lreturn, 1) := by decide +kernel
set_option maxRecDepth 20000 in
theorem ggX3_code_X3_coded : GoodIn wsX3_code wsX3_coded := goodIn_r _ [9, 10] (by decide +kernel) (by decide +kernel)
set_option maxRecDepth 20000 in
theorem gX3_code_X3_coded : GoodIn wsX3_code (va_wsS RX3 109 yX3_coded wsX3_coded) := goodIn_app (goodIn_of _ (by decide +kernel)) ggX3_code_X3_coded
set_option maxRecDepth 20000 in
theorem ggX3_code_X3_nameOf : GoodIn wsX3_code wsX3_nameOf := goodIn_r _ [14, 3, 15, 16, 17, 8, 18, 19, 4, 5, 20, 21, 22, 23, 24, 25, 26, 27, 28, 1, 29, 30, 31, 32, 33, 34, 35, 36, 37, 38, 39, 40, 41, 42, 43, 44, 45, 46, 47] (by decide +kernel) (by decide +kernel)
set_option maxRecDepth 20000 in
theorem gX3_code_X3_nameOf : GoodIn wsX3_code (wsV RX3 113 RX3 yX3_nameOf wsX3_nameOf) := goodIn_app (goodIn_of _ (by decide +kernel)) ggX3_code_X3_nameOf
theorem dX3_code_0 : decode cX3_code 0 = .ok (.aload_n 0, 1) := by decide +kernel
theorem dX3_code_1 : decode cX3_code 1 = .ok (.getfield 16, 3) := by decide +kernel
theorem dX3_code_4 : decode cX3_code 4 = .ok (.iload_n 1, 1) := by decide +kernel
theorem dX3_code_5 : decode cX3_code 5 = .ok (.iaload, 1) := by decide +kernel
theorem dX3_code_6 : decode cX3_code 6 = .ok (.istore_n 2, 1) := by decide +kernel
theorem dX3_code_7 : decode cX3_code 7 = .ok (.iload_n 2, 1) := by decide +kernel
theorem dX3_code_8 : decode cX3_code 8 = .ok (.tableswitch 129 0 8 #[52, 129, 129, 129, 58, 80, 80, 129, 52], 52) := by decide +kernel
theorem dX3_code_60 : decode cX3_code 60 = .ok (.iload_n 2, 1) := by decide +kernel
theorem dX3_code_61 : decode cX3_code 61 = .ok (.iconst 0, 1) := by decide +kernel
theorem dX3_code_62 : decode cX3_code 62 = .ok (.invokestatic 109, 3) := by decide +kernel
theorem dX3_code_65 : decode cX3_code 65 = .ok (.lreturn, 1) := by decide +kernel
theorem dX3_code_66 : decode cX3_code 66 = .ok (.aload_n 0, 1) := by decide +kernel
theorem dX3_code_67 : decode cX3_code 67 = .ok (.iload_n 1, 1) := by decide +kernel
theorem dX3_code_68 : decode cX3_code 68 = .ok (.invokevirtual 113, 3) := by decide +kernel
theorem dX3_code_71 : decode cX3_code 71 = .ok (.istore_n 3, 1) := by decide +kernel
theorem dX3_code_72 : decode cX3_code 72 = .ok (.iload_n 3, 1) := by decide +kernel
theorem dX3_code_73 : decode cX3_code 73 = .ok (.ifCond .ge 9, 3) := by decide +kernel
theorem dX3_code_76 : decode cX3_code 76 = .ok (.ldc2_w 116, 3) := by decide +kernel
theorem dX3_code_79 : decode cX3_code 79 = .ok (.goto 8, 3) := by decide +kernel
theorem dX3_code_82 : decode cX3_code 82 = .ok (.iconst 3, 1) := by decide +kernel
theorem dX3_code_83 : decode cX3_code 83 = .ok (.iload_n 3, 1) := by decide +kernel
theorem dX3_code_84 : decode cX3_code 84 = .ok (.invokestatic 109, 3) := by decide +kernel
theorem dX3_code_87 : decode cX3_code 87 = .ok (.lreturn, 1) := by decide +kernel
theorem dX3_code_88 : decode cX3_code 88 = .ok (.aload_n 0, 1) := by decide +kernel
theorem dX3_code_89 : decode cX3_code 89 = .ok (.getfield 26, 3) := by decide +kernel
theorem dX3_code_92 : decode cX3_code 92 = .ok (.iload_n 1, 1) := by decide +kernel
theorem dX3_code_93 : decode cX3_code 93 = .ok (.iaload, 1) := by decide +kernel
theorem dX3_code_94 : decode cX3_code 94 = .ok (.ifCond .ne 11, 3) := by decide +kernel
theorem dX3_code_97 : decode cX3_code 97 = .ok (.iconst 5, 1) := by decide +kernel
theorem dX3_code_98 : decode cX3_code 98 = .ok (.iconst (-1), 1) := by decide +kernel
theorem dX3_code_99 : decode cX3_code 99 = .ok (.invokestatic 109, 3) := by decide +kernel
theorem dX3_code_102 : decode cX3_code 102 = .ok (.goto 34, 3) := by decide +kernel
theorem dX3_code_105 : decode cX3_code 105 = .ok (.iload_n 2, 1) := by decide +kernel
theorem dX3_code_106 : decode cX3_code 106 = .ok (.sipush 4096, 3) := by decide +kernel
theorem dX3_code_109 : decode cX3_code 109 = .ok (.aload_n 0, 1) := by decide +kernel
theorem dX3_code_110 : decode cX3_code 110 = .ok (.getfield 20, 3) := by decide +kernel
theorem dX3_code_113 : decode cX3_code 113 = .ok (.iload_n 1, 1) := by decide +kernel
theorem dX3_code_114 : decode cX3_code 114 = .ok (.iaload, 1) := by decide +kernel
theorem dX3_code_115 : decode cX3_code 115 = .ok (.imul, 1) := by decide +kernel
theorem dX3_code_116 : decode cX3_code 116 = .ok (.bipush 64, 2) := by decide +kernel
theorem dX3_code_118 : decode cX3_code 118 = .ok (.aload_n 0, 1) := by decide +kernel
theorem dX3_code_119 : decode cX3_code 119 = .ok (.getfield 23, 3) := by decide +kernel
theorem dX3_code_122 : decode cX3_code 122 = .ok (.iload_n 1, 1) := by decide +kernel
theorem dX3_code_123 : decode cX3_code 123 = .ok (.iaload, 1) := by decide +kernel
theorem dX3_code_124 : decode cX3_code 124 = .ok (.imul, 1) := by decide +kernel
theorem dX3_code_125 : decode cX3_code 125 = .ok (.iadd, 1) := by decide +kernel
theorem dX3_code_126 : decode cX3_code 126 = .ok (.aload_n 0, 1) := by decide +kernel
theorem dX3_code_127 : decode cX3_code 127 = .ok (.getfield 26, 3) := by decide +kernel
theorem dX3_code_130 : decode cX3_code 130 = .ok (.iload_n 1, 1) := by decide +kernel
theorem dX3_code_131 : decode cX3_code 131 = .ok (.iaload, 1) := by decide +kernel
theorem dX3_code_132 : decode cX3_code 132 = .ok (.iadd, 1) := by decide +kernel
theorem dX3_code_133 : decode cX3_code 133 = .ok (.invokestatic 109, 3) := by decide +kernel
theorem dX3_code_136 : decode cX3_code 136 = .ok (.lreturn, 1) := by decide +kernel
theorem dX3_code_137 : decode cX3_code 137 = .ok (.iload_n 2, 1) := by decide +kernel
theorem dX3_code_138 : decode cX3_code 138 = .ok (.aload_n 0, 1) := by decide +kernel
theorem dX3_code_139 : decode cX3_code 139 = .ok (.getfield 20, 3) := by decide +kernel
theorem dX3_code_142 : decode cX3_code 142 = .ok (.iload_n 1, 1) := by decide +kernel
theorem dX3_code_143 : decode cX3_code 143 = .ok (.iaload, 1) := by decide +kernel
theorem dX3_code_144 : decode cX3_code 144 = .ok (.invokestatic 109, 3) := by decide +kernel
theorem dX3_code_147 : decode cX3_code 147 = .ok (.lreturn, 1) := by decide +kernel
set_option maxRecDepth 20000 in
theorem ggX3_order_X3_byteOf : GoodIn wsX3_order wsX3_byteOf := goodIn_r _ [6, 7, 8, 9, 10, 11, 12, 13, 14, 15, 16, 17, 18, 19, 20, 21, 22, 23, 24, 25, 26, 27, 28] (by decide +kernel) (by decide +kernel)
set_option maxRecDepth 20000 in
theorem gX3_order_X3_byteOf : GoodIn wsX3_order (wsV RX3 100 RX3 yX3_byteOf wsX3_byteOf) := goodIn_app (goodIn_of _ (by decide +kernel)) ggX3_order_X3_byteOf
theorem dX3_order_0 : decode cX3_order 0 = .ok (.iconst 0, 1) := by decide +kernel
theorem dX3_order_1 : decode cX3_order 1 = .ok (.istore_n 3, 1) := by decide +kernel
theorem dX3_order_2 : decode cX3_order 2 = .ok (.iload_n 3, 1) := by decide +kernel
theorem dX3_order_3 : decode cX3_order 3 = .ok (.aload_n 0, 1) := by decide +kernel
theorem dX3_order_4 : decode cX3_order 4 = .ok (.getfield 26, 3) := by decide +kernel
theorem dX3_order_7 : decode cX3_order 7 = .ok (.iload_n 1, 1) := by decide +kernel
theorem dX3_order_8 : decode cX3_order 8 = .ok (.iaload, 1) := by decide +kernel
theorem dX3_order_9 : decode cX3_order 9 = .ok (.if_icmp .ge 34, 3) := by decide +kernel
theorem dX3_order_12 : decode cX3_order 12 = .ok (.iload_n 3, 1) := by decide +kernel
theorem dX3_order_13 : decode cX3_order 13 = .ok (.aload_n 0, 1) := by decide +kernel
theorem dX3_order_14 : decode cX3_order 14 = .ok (.getfield 26, 3) := by decide +kernel
theorem dX3_order_17 : decode cX3_order 17 = .ok (.iload_n 2, 1) := by decide +kernel
theorem dX3_order_18 : decode cX3_order 18 = .ok (.iaload, 1) := by decide +kernel
theorem dX3_order_19 : decode cX3_order 19 = .ok (.if_icmp .ge 24, 3) := by decide +kernel
theorem dX3_order_22 : decode cX3_order 22 = .ok (.aload_n 0, 1) := by decide +kernel
theorem dX3_order_23 : decode cX3_order 23 = .ok (.iload_n 1, 1) := by decide +kernel
theorem dX3_order_24 : decode cX3_order 24 = .ok (.iload_n 3, 1) := by decide +kernel
theorem dX3_order_25 : decode cX3_order 25 = .ok (.invokevirtual 100, 3) := by decide +kernel
theorem dX3_order_28 : decode cX3_order 28 = .ok (.aload_n 0, 1) := by decide +kernel
theorem dX3_order_29 : decode cX3_order 29 = .ok (.iload_n 2, 1) := by decide +kernel
theorem dX3_order_30 : decode cX3_order 30 = .ok (.iload_n 3, 1) := by decide +kernel
theorem dX3_order_31 : decode cX3_order 31 = .ok (.invokevirtual 100, 3) := by decide +kernel
theorem dX3_order_34 : decode cX3_order 34 = .ok (.if_icmp .ne 9, 3) := by decide +kernel
theorem dX3_order_37 : decode cX3_order 37 = .ok (.iinc 3 1, 3) := by decide +kernel
theorem dX3_order_40 : decode cX3_order 40 = .ok (.goto (-38), 3) := by decide +kernel
theorem dX3_order_43 : decode cX3_order 43 = .ok (.iload_n 3, 1) := by decide +kernel
theorem dX3_order_44 : decode cX3_order 44 = .ok (.aload_n 0, 1) := by decide +kernel
theorem dX3_order_45 : decode cX3_order 45 = .ok (.getfield 26, 3) := by decide +kernel
theorem dX3_order_48 : decode cX3_order 48 = .ok (.iload_n 1, 1) := by decide +kernel
theorem dX3_order_49 : decode cX3_order 49 = .ok (.iaload, 1) := by decide +kernel
theorem dX3_order_50 : decode cX3_order 50 = .ok (.if_icmp .ge 12, 3) := by decide +kernel
theorem dX3_order_53 : decode cX3_order 53 = .ok (.aload_n 0, 1) := by decide +kernel
theorem dX3_order_54 : decode cX3_order 54 = .ok (.iload_n 1, 1) := by decide +kernel
theorem dX3_order_55 : decode cX3_order 55 = .ok (.iload_n 3, 1) := by decide +kernel
theorem dX3_order_56 : decode cX3_order 56 = .ok (.invokevirtual 100, 3) := by decide +kernel
theorem dX3_order_59 : decode cX3_order 59 = .ok (.goto 4, 3) := by decide +kernel
theorem dX3_order_62 : decode cX3_order 62 = .ok (.iconst (-1), 1) := by decide +kernel
theorem dX3_order_63 : decode cX3_order 63 = .ok (.istore 4, 2) := by decide +kernel
theorem dX3_order_65 : decode cX3_order 65 = .ok (.iload_n 3, 1) := by decide +kernel
theorem dX3_order_66 : decode cX3_order 66 = .ok (.aload_n 0, 1) := by decide +kernel
theorem dX3_order_67 : decode cX3_order 67 = .ok (.getfield 26, 3) := by decide +kernel
theorem dX3_order_70 : decode cX3_order 70 = .ok (.iload_n 2, 1) := by decide +kernel
theorem dX3_order_71 : decode cX3_order 71 = .ok (.iaload, 1) := by decide +kernel
theorem dX3_order_72 : decode cX3_order 72 = .ok (.if_icmp .ge 12, 3) := by decide +kernel
theorem dX3_order_75 : decode cX3_order 75 = .ok (.aload_n 0, 1) := by decide +kernel
theorem dX3_order_76 : decode cX3_order 76 = .ok (.iload_n 2, 1) := by decide +kernel
theorem dX3_order_77 : decode cX3_order 77 = .ok (.iload_n 3, 1) := by decide +kernel
theorem dX3_order_78 : decode cX3_order 78 = .ok (.invokevirtual 100, 3) := by decide +kernel
theorem dX3_order_81 : decode cX3_order 81 = .ok (.goto 4, 3) := by decide +kernel
theorem dX3_order_84 : decode cX3_order 84 = .ok (.iconst (-1), 1) := by decide +kernel
theorem dX3_order_85 : decode cX3_order 85 = .ok (.istore 5, 2) := by decide +kernel
theorem dX3_order_87 : decode cX3_order 87 = .ok (.iload 4, 2) := by decide +kernel
theorem dX3_order_89 : decode cX3_order 89 = .ok (.iload 5, 2) := by decide +kernel
theorem dX3_order_91 : decode cX3_order 91 = .ok (.if_icmp .ge 7, 3) := by decide +kernel
theorem dX3_order_94 : decode cX3_order 94 = .ok (.iconst (-1), 1) := by decide +kernel
theorem dX3_order_95 : decode cX3_order 95 = .ok (.goto 15, 3) := by decide +kernel
theorem dX3_order_98 : decode cX3_order 98 = .ok (.iload 4, 2) := by decide +kernel
theorem dX3_order_100 : decode cX3_order 100 = .ok (.iload 5, 2) := by decide +kernel
theorem dX3_order_102 : decode cX3_order 102 = .ok (.if_icmp .le 7, 3) := by decide +kernel
theorem dX3_order_105 : decode cX3_order 105 = .ok (.iconst 1, 1) := by decide +kernel
theorem dX3_order_106 : decode cX3_order 106 = .ok (.goto 4, 3) := by decide +kernel
theorem dX3_order_109 : decode cX3_order 109 = .ok (.iconst 0, 1) := by decide +kernel
theorem dX3_order_110 : decode cX3_order 110 = .ok (.ireturn, 1) := by decide +kernel
set_option maxRecDepth 20000 in
theorem ggX3_same_X3_isObject : GoodIn wsX3_same wsX3_isObject := goodIn_r _ [7, 8, 43, 44, 45, 46, 47, 48, 49, 50, 51, 52, 53, 54, 55, 56, 57, 58, 59, 60, 61] (by decide +kernel) (by decide +kernel)
set_option maxRecDepth 20000 in
theorem gX3_same_X3_isObject : GoodIn wsX3_same (wsV RX3 90 RX3 yX3_isObject wsX3_isObject) := goodIn_app (goodIn_of _ (by decide +kernel)) ggX3_same_X3_isObject
set_option maxRecDepth 20000 in
theorem ggX3_same_X3_accessOf : GoodIn wsX3_same wsX3_accessOf := goodIn_r _ [12, 13, 14, 15, 16, 6, 17, 2, 18, 43, 44, 45, 46, 47, 48, 49, 50, 51, 52, 53, 54, 55, 56, 57, 58, 59, 60, 61] (by decide +kernel) (by decide +kernel)
set_option maxRecDepth 20000 in
theorem gX3_same_X3_accessOf : GoodIn wsX3_same (wsV RX3 94 RX3 yX3_accessOf wsX3_accessOf) := goodIn_app (goodIn_of _ (by decide +kernel)) ggX3_same_X3_accessOf
set_option maxRecDepth 20000 in
theorem ggX3_same_X3_order : GoodIn wsX3_same wsX3_order := goodIn_r _ [22, 23, 24, 25, 26, 6, 27, 28, 18, 29, 43, 44, 45, 46, 47, 48, 49, 50, 51, 52, 53, 54, 55, 56, 57, 58, 59, 60, 61] (by decide +kernel) (by decide +kernel)
set_option maxRecDepth 20000 in
theorem gX3_same_X3_order : GoodIn wsX3_same (wsV RX3 118 RX3 yX3_order wsX3_order) := goodIn_app (goodIn_of _ (by decide +kernel)) ggX3_same_X3_order
set_option maxRecDepth 20000 in
theorem ggX3_same_X3_code : GoodIn wsX3_same wsX3_code := goodIn_r _ [33, 2, 34, 23, 18, 29, 35, 36, 6, 37, 38, 39, 40, 41, 42, 24, 25, 26, 27, 28, 9, 10, 11, 12, 13, 14, 15, 16, 17, 43, 44, 45, 46, 47, 48, 49, 50, 51, 52, 53, 54, 55, 56, 57, 58, 59, 60, 61] (by decide +kernel) (by decide +kernel)
set_option maxRecDepth 20000 in
theorem gX3_same_X3_code : GoodIn wsX3_same (wsV RX3 121 RX3 yX3_code wsX3_code) := goodIn_app (goodIn_of _ (by decide +kernel)) ggX3_same_X3_code
theorem dX3_same_0 : decode cX3_same 0 = .ok (.aload_n 0, 1) := by decide +kernel
theorem dX3_same_1 : decode cX3_same 1 = .ok (.iconst 0, 1) := by decide +kernel
theorem dX3_same_2 : decode cX3_same 2 = .ok (.putfield 65, 3) := by decide +kernel
theorem dX3_same_5 : decode cX3_same 5 = .ok (.aload_n 0, 1) := by decide +kernel
theorem dX3_same_6 : decode cX3_same 6 = .ok (.iload_n 1, 1) := by decide +kernel
theorem dX3_same_7 : decode cX3_same 7 = .ok (.invokevirtual 90, 3) := by decide +kernel
theorem dX3_same_10 : decode cX3_same 10 = .ok (.ifCond .eq 49, 3) := by decide +kernel
theorem dX3_same_13 : decode cX3_same 13 = .ok (.aload_n 0, 1) := by decide +kernel
theorem dX3_same_14 : decode cX3_same 14 = .ok (.iload_n 2, 1) := by decide +kernel
theorem dX3_same_15 : decode cX3_same 15 = .ok (.invokevirtual 90, 3) := by decide +kernel
theorem dX3_same_18 : decode cX3_same 18 = .ok (.ifCond .eq 41, 3) := by decide +kernel
theorem dX3_same_21 : decode cX3_same 21 = .ok (.aload_n 0, 1) := by decide +kernel
theorem dX3_same_22 : decode cX3_same 22 = .ok (.getfield 16, 3) := by decide +kernel
theorem dX3_same_25 : decode cX3_same 25 = .ok (.iload_n 1, 1) := by decide +kernel
theorem dX3_same_26 : decode cX3_same 26 = .ok (.iaload, 1) := by decide +kernel
theorem dX3_same_27 : decode cX3_same 27 = .ok (.iconst 4, 1) := by decide +kernel
theorem dX3_same_28 : decode cX3_same 28 = .ok (.if_icmp .ne 12, 3) := by decide +kernel
theorem dX3_same_31 : decode cX3_same 31 = .ok (.aload_n 0, 1) := by decide +kernel
theorem dX3_same_32 : decode cX3_same 32 = .ok (.iload_n 1, 1) := by decide +kernel
theorem dX3_same_33 : decode cX3_same 33 = .ok (.invokevirtual 94, 3) := by decide +kernel
theorem dX3_same_36 : decode cX3_same 36 = .ok (.iconst 2, 1) := by decide +kernel
theorem dX3_same_37 : decode cX3_same 37 = .ok (.if_icmp .lt 22, 3) := by decide +kernel
theorem dX3_same_40 : decode cX3_same 40 = .ok (.aload_n 0, 1) := by decide +kernel
theorem dX3_same_41 : decode cX3_same 41 = .ok (.getfield 16, 3) := by decide +kernel
theorem dX3_same_44 : decode cX3_same 44 = .ok (.iload_n 2, 1) := by decide +kernel
theorem dX3_same_45 : decode cX3_same 45 = .ok (.iaload, 1) := by decide +kernel
theorem dX3_same_46 : decode cX3_same 46 = .ok (.iconst 4, 1) := by decide +kernel
theorem dX3_same_47 : decode cX3_same 47 = .ok (.if_icmp .ne 14, 3) := by decide +kernel
theorem dX3_same_50 : decode cX3_same 50 = .ok (.aload_n 0, 1) := by decide +kernel
theorem dX3_same_51 : decode cX3_same 51 = .ok (.iload_n 2, 1) := by decide +kernel
theorem dX3_same_52 : decode cX3_same 52 = .ok (.invokevirtual 94, 3) := by decide +kernel
theorem dX3_same_55 : decode cX3_same 55 = .ok (.iconst 2, 1) := by decide +kernel
theorem dX3_same_56 : decode cX3_same 56 = .ok (.if_icmp .ge 5, 3) := by decide +kernel
theorem dX3_same_59 : decode cX3_same 59 = .ok (.iconst 0, 1) := by decide +kernel
theorem dX3_same_60 : decode cX3_same 60 = .ok (.ireturn, 1) := by decide +kernel
theorem dX3_same_61 : decode cX3_same 61 = .ok (.aload_n 0, 1) := by decide +kernel
theorem dX3_same_62 : decode cX3_same 62 = .ok (.getfield 16, 3) := by decide +kernel
theorem dX3_same_65 : decode cX3_same 65 = .ok (.iload_n 1, 1) := by decide +kernel
theorem dX3_same_66 : decode cX3_same 66 = .ok (.iaload, 1) := by decide +kernel
theorem dX3_same_67 : decode cX3_same 67 = .ok (.iconst 4, 1) := by decide +kernel
theorem dX3_same_68 : decode cX3_same 68 = .ok (.if_icmp .ne 28, 3) := by decide +kernel
theorem dX3_same_71 : decode cX3_same 71 = .ok (.aload_n 0, 1) := by decide +kernel
theorem dX3_same_72 : decode cX3_same 72 = .ok (.getfield 16, 3) := by decide +kernel
theorem dX3_same_75 : decode cX3_same 75 = .ok (.iload_n 2, 1) := by decide +kernel
theorem dX3_same_76 : decode cX3_same 76 = .ok (.iaload, 1) := by decide +kernel
theorem dX3_same_77 : decode cX3_same 77 = .ok (.iconst 4, 1) := by decide +kernel
theorem dX3_same_78 : decode cX3_same 78 = .ok (.if_icmp .ne 18, 3) := by decide +kernel
theorem dX3_same_81 : decode cX3_same 81 = .ok (.aload_n 0, 1) := by decide +kernel
theorem dX3_same_82 : decode cX3_same 82 = .ok (.iload_n 1, 1) := by decide +kernel
theorem dX3_same_83 : decode cX3_same 83 = .ok (.iload_n 2, 1) := by decide +kernel
theorem dX3_same_84 : decode cX3_same 84 = .ok (.invokevirtual 118, 3) := by decide +kernel
theorem dX3_same_87 : decode cX3_same 87 = .ok (.ifCond .ne 7, 3) := by decide +kernel
theorem dX3_same_90 : decode cX3_same 90 = .ok (.iconst 1, 1) := by decide +kernel
theorem dX3_same_91 : decode cX3_same 91 = .ok (.goto 4, 3) := by decide +kernel
theorem dX3_same_94 : decode cX3_same 94 = .ok (.iconst 0, 1) := by decide +kernel
theorem dX3_same_95 : decode cX3_same 95 = .ok (.ireturn, 1) := by decide +kernel
theorem dX3_same_96 : decode cX3_same 96 = .ok (.aload_n 0, 1) := by decide +kernel
theorem dX3_same_97 : decode cX3_same 97 = .ok (.iload_n 1, 1) := by decide +kernel
theorem dX3_same_98 : decode cX3_same 98 = .ok (.invokevirtual 121, 3) := by decide +kernel
theorem dX3_same_101 : decode cX3_same 101 = .ok (.lconst 0, 1) := by decide +kernel
theorem dX3_same_102 : decode cX3_same 102 = .ok (.lcmp, 1) := by decide +kernel
theorem dX3_same_103 : decode cX3_same 103 = .ok (.ifCond .lt 21, 3) := by decide +kernel
theorem dX3_same_106 : decode cX3_same 106 = .ok (.aload_n 0, 1) := by decide +kernel
theorem dX3_same_107 : decode cX3_same 107 = .ok (.iload_n 1, 1) := by decide +kernel
theorem dX3_same_108 : decode cX3_same 108 = .ok (.invokevirtual 121, 3) := by decide +kernel
theorem dX3_same_111 : decode cX3_same 111 = .ok (.aload_n 0, 1) := by decide +kernel
theorem dX3_same_112 : decode cX3_same 112 = .ok (.iload_n 2, 1) := by decide +kernel
theorem dX3_same_113 : decode cX3_same 113 = .ok (.invokevirtual 121, 3) := by decide +kernel
theorem dX3_same_116 : decode cX3_same 116 = .ok (.lcmp, 1) := by decide +kernel
theorem dX3_same_117 : decode cX3_same 117 = .ok (.ifCond .ne 7, 3) := by decide +kernel
theorem dX3_same_120 : decode cX3_same 120 = .ok (.iconst 1, 1) := by decide +kernel
theorem dX3_same_121 : decode cX3_same 121 = .ok (.goto 4, 3) := by decide +kernel
theorem dX3_same_124 : decode cX3_same 124 = .ok (.iconst 0, 1) := by decide +kernel
theorem dX3_same_125 : decode cX3_same 125 = .ok (.ireturn, 1) := by decide +kernel
set_option maxRecDepth 20000 in
theorem ggX3_compare_X3_isObject : GoodIn wsX3_compare wsX3_isObject := goodIn_r _ [8, 9, 30, 31, 32, 33, 34, 35, 36, 37, 38, 39, 40, 41, 42, 43, 44, 45, 46, 47, 48] (by decide +kernel) (by decide +kernel)
set_option maxRecDepth 20000 in
theorem gX3_compare_X3_isObject : GoodIn wsX3_compare (wsV RX3 90 RX3 yX3_isObject wsX3_isObject) := goodIn_app (goodIn_of _ (by decide +kernel)) ggX3_compare_X3_isObject
set_option maxRecDepth 20000 in
theorem ggX3_compare_X3_accessOf : GoodIn wsX3_compare wsX3_accessOf := goodIn_r _ [13, 14, 15, 16, 17, 7, 18, 2, 3, 30, 31, 32, 33, 34, 35, 36, 37, 38, 39, 40, 41, 42, 43, 44, 45, 46, 47, 48] (by decide +kernel) (by decide +kernel)
set_option maxRecDepth 20000 in
theorem gX3_compare_X3_accessOf : GoodIn wsX3_compare (wsV RX3 94 RX3 yX3_accessOf wsX3_accessOf) := goodIn_app (goodIn_of _ (by decide +kernel)) ggX3_compare_X3_accessOf
set_option maxRecDepth 20000 in
theorem ggX3_compare_X3_order : GoodIn wsX3_compare wsX3_order := goodIn_r _ [22, 23, 24, 25, 26, 7, 27, 28, 3, 29, 30, 31, 32, 33, 34, 35, 36, 37, 38, 39, 40, 41, 42, 43, 44, 45, 46, 47, 48] (by decide +kernel) (by decide +kernel)
set_option maxRecDepth 20000 in
theorem gX3_compare_X3_order : GoodIn wsX3_compare (wsV RX3 118 RX3 yX3_order wsX3_order) := goodIn_app (goodIn_of _ (by decide +kernel)) ggX3_compare_X3_order
theorem dX3_compare_0 : decode cX3_compare 0 = .ok (.aload_n 0, 1) := by decide +kernel
theorem dX3_compare_1 : decode cX3_compare 1 = .ok (.iconst 0, 1) := by decide +kernel
theorem dX3_compare_2 : decode cX3_compare 2 = .ok (.putfield 65, 3) := by decide +kernel
theorem dX3_compare_5 : decode cX3_compare 5 = .ok (.aload_n 0, 1) := by decide +kernel
theorem dX3_compare_6 : decode cX3_compare 6 = .ok (.iload_n 1, 1) := by decide +kernel
theorem dX3_compare_7 : decode cX3_compare 7 = .ok (.invokevirtual 90, 3) := by decide +kernel
theorem dX3_compare_10 : decode cX3_compare 10 = .ok (.ifCond .eq 11, 3) := by decide +kernel
theorem dX3_compare_13 : decode cX3_compare 13 = .ok (.aload_n 0, 1) := by decide +kernel
theorem dX3_compare_14 : decode cX3_compare 14 = .ok (.iload_n 2, 1) := by decide +kernel
theorem dX3_compare_15 : decode cX3_compare 15 = .ok (.invokevirtual 90, 3) := by decide +kernel
theorem dX3_compare_18 : decode cX3_compare 18 = .ok (.ifCond .ne 5, 3) := by decide +kernel
theorem dX3_compare_21 : decode cX3_compare 21 = .ok (.iconst (-1), 1) := by decide +kernel
theorem dX3_compare_22 : decode cX3_compare 22 = .ok (.ireturn, 1) := by decide +kernel
theorem dX3_compare_23 : decode cX3_compare 23 = .ok (.aload_n 0, 1) := by decide +kernel
theorem dX3_compare_24 : decode cX3_compare 24 = .ok (.getfield 16, 3) := by decide +kernel
theorem dX3_compare_27 : decode cX3_compare 27 = .ok (.iload_n 1, 1) := by decide +kernel
theorem dX3_compare_28 : decode cX3_compare 28 = .ok (.iaload, 1) := by decide +kernel
theorem dX3_compare_29 : decode cX3_compare 29 = .ok (.iconst 1, 1) := by decide +kernel
theorem dX3_compare_30 : decode cX3_compare 30 = .ok (.if_icmp .ne 53, 3) := by decide +kernel
theorem dX3_compare_33 : decode cX3_compare 33 = .ok (.aload_n 0, 1) := by decide +kernel
theorem dX3_compare_34 : decode cX3_compare 34 = .ok (.getfield 16, 3) := by decide +kernel
theorem dX3_compare_37 : decode cX3_compare 37 = .ok (.iload_n 2, 1) := by decide +kernel
theorem dX3_compare_38 : decode cX3_compare 38 = .ok (.iaload, 1) := by decide +kernel
theorem dX3_compare_39 : decode cX3_compare 39 = .ok (.iconst 1, 1) := by decide +kernel
theorem dX3_compare_40 : decode cX3_compare 40 = .ok (.if_icmp .ne 43, 3) := by decide +kernel
theorem dX3_compare_43 : decode cX3_compare 43 = .ok (.aload_n 0, 1) := by decide +kernel
theorem dX3_compare_44 : decode cX3_compare 44 = .ok (.getfield 20, 3) := by decide +kernel
theorem dX3_compare_47 : decode cX3_compare 47 = .ok (.iload_n 1, 1) := by decide +kernel
theorem dX3_compare_48 : decode cX3_compare 48 = .ok (.iaload, 1) := by decide +kernel
theorem dX3_compare_49 : decode cX3_compare 49 = .ok (.aload_n 0, 1) := by decide +kernel
theorem dX3_compare_50 : decode cX3_compare 50 = .ok (.getfield 20, 3) := by decide +kernel
theorem dX3_compare_53 : decode cX3_compare 53 = .ok (.iload_n 2, 1) := by decide +kernel
theorem dX3_compare_54 : decode cX3_compare 54 = .ok (.iaload, 1) := by decide +kernel
theorem dX3_compare_55 : decode cX3_compare 55 = .ok (.if_icmp .ge 7, 3) := by decide +kernel
theorem dX3_compare_58 : decode cX3_compare 58 = .ok (.iconst 0, 1) := by decide +kernel
theorem dX3_compare_59 : decode cX3_compare 59 = .ok (.goto 23, 3) := by decide +kernel
theorem dX3_compare_62 : decode cX3_compare 62 = .ok (.aload_n 0, 1) := by decide +kernel
theorem dX3_compare_63 : decode cX3_compare 63 = .ok (.getfield 20, 3) := by decide +kernel
theorem dX3_compare_66 : decode cX3_compare 66 = .ok (.iload_n 1, 1) := by decide +kernel
theorem dX3_compare_67 : decode cX3_compare 67 = .ok (.iaload, 1) := by decide +kernel
theorem dX3_compare_68 : decode cX3_compare 68 = .ok (.aload_n 0, 1) := by decide +kernel
theorem dX3_compare_69 : decode cX3_compare 69 = .ok (.getfield 20, 3) := by decide +kernel
theorem dX3_compare_72 : decode cX3_compare 72 = .ok (.iload_n 2, 1) := by decide +kernel
theorem dX3_compare_73 : decode cX3_compare 73 = .ok (.iaload, 1) := by decide +kernel
theorem dX3_compare_74 : decode cX3_compare 74 = .ok (.if_icmp .le 7, 3) := by decide +kernel
theorem dX3_compare_77 : decode cX3_compare 77 = .ok (.iconst 2, 1) := by decide +kernel
theorem dX3_compare_78 : decode cX3_compare 78 = .ok (.goto 4, 3) := by decide +kernel
theorem dX3_compare_81 : decode cX3_compare 81 = .ok (.iconst 1, 1) := by decide +kernel
theorem dX3_compare_82 : decode cX3_compare 82 = .ok (.ireturn, 1) := by decide +kernel
theorem dX3_compare_83 : decode cX3_compare 83 = .ok (.aload_n 0, 1) := by decide +kernel
theorem dX3_compare_84 : decode cX3_compare 84 = .ok (.getfield 16, 3) := by decide +kernel
theorem dX3_compare_87 : decode cX3_compare 87 = .ok (.iload_n 1, 1) := by decide +kernel
theorem dX3_compare_88 : decode cX3_compare 88 = .ok (.iaload, 1) := by decide +kernel
theorem dX3_compare_89 : decode cX3_compare 89 = .ok (.iconst 4, 1) := by decide +kernel
theorem dX3_compare_90 : decode cX3_compare 90 = .ok (.if_icmp .ne 31, 3) := by decide +kernel
theorem dX3_compare_93 : decode cX3_compare 93 = .ok (.aload_n 0, 1) := by decide +kernel
theorem dX3_compare_94 : decode cX3_compare 94 = .ok (.getfield 16, 3) := by decide +kernel
theorem dX3_compare_97 : decode cX3_compare 97 = .ok (.iload_n 2, 1) := by decide +kernel
theorem dX3_compare_98 : decode cX3_compare 98 = .ok (.iaload, 1) := by decide +kernel
theorem dX3_compare_99 : decode cX3_compare 99 = .ok (.iconst 4, 1) := by decide +kernel
theorem dX3_compare_100 : decode cX3_compare 100 = .ok (.if_icmp .ne 21, 3) := by decide +kernel
theorem dX3_compare_103 : decode cX3_compare 103 = .ok (.aload_n 0, 1) := by decide +kernel
theorem dX3_compare_104 : decode cX3_compare 104 = .ok (.iload_n 1, 1) := by decide +kernel
theorem dX3_compare_105 : decode cX3_compare 105 = .ok (.invokevirtual 94, 3) := by decide +kernel
theorem dX3_compare_108 : decode cX3_compare 108 = .ok (.iconst 2, 1) := by decide +kernel
theorem dX3_compare_109 : decode cX3_compare 109 = .ok (.if_icmp .lt 12, 3) := by decide +kernel
theorem dX3_compare_112 : decode cX3_compare 112 = .ok (.aload_n 0, 1) := by decide +kernel
theorem dX3_compare_113 : decode cX3_compare 113 = .ok (.iload_n 2, 1) := by decide +kernel
theorem dX3_compare_114 : decode cX3_compare 114 = .ok (.invokevirtual 94, 3) := by decide +kernel
theorem dX3_compare_117 : decode cX3_compare 117 = .ok (.iconst 2, 1) := by decide +kernel
theorem dX3_compare_118 : decode cX3_compare 118 = .ok (.if_icmp .ge 6, 3) := by decide +kernel
theorem dX3_compare_121 : decode cX3_compare 121 = .ok (.bipush (-3), 2) := by decide +kernel
theorem dX3_compare_123 : decode cX3_compare 123 = .ok (.ireturn, 1) := by decide +kernel
theorem dX3_compare_124 : decode cX3_compare 124 = .ok (.iconst 1, 1) := by decide +kernel
theorem dX3_compare_125 : decode cX3_compare 125 = .ok (.aload_n 0, 1) := by decide +kernel
theorem dX3_compare_126 : decode cX3_compare 126 = .ok (.iload_n 1, 1) := by decide +kernel
theorem dX3_compare_127 : decode cX3_compare 127 = .ok (.iload_n 2, 1) := by decide +kernel
theorem dX3_compare_128 : decode cX3_compare 128 = .ok (.invokevirtual 118, 3) := by decide +kernel
theorem dX3_compare_131 : decode cX3_compare 131 = .ok (.iadd, 1) := by decide +kernel
theorem dX3_compare_132 : decode cX3_compare 132 = .ok (.ireturn, 1) := by decide +kernel
set_option maxRecDepth 20000 in
theorem ggX3_length_X3_isObject : GoodIn wsX3_length wsX3_isObject := goodIn_r _ [10, 11, 19, 20, 21, 22, 23, 24, 25, 26, 27, 28, 29, 30, 31, 32, 33, 34, 35, 36, 37] (by decide +kernel) (by decide +kernel)
set_option maxRecDepth 20000 in
theorem gX3_length_X3_isObject : GoodIn wsX3_length (wsV RX3 90 RX3 yX3_isObject wsX3_isObject) := goodIn_app (goodIn_of _ (by decide +kernel)) ggX3_length_X3_isObject
set_option maxRecDepth 20000 in
theorem ggX3_length_X3_isView : GoodIn wsX3_length wsX3_isView := goodIn_r _ [15, 2, 16, 17, 9, 18, 19, 20, 21, 22, 23, 24, 25, 26, 27, 28, 29, 30, 31, 32, 33, 34, 35, 36, 37] (by decide +kernel) (by decide +kernel)
set_option maxRecDepth 20000 in
theorem gX3_length_X3_isView : GoodIn wsX3_length (wsV RX3 97 RX3 yX3_isView wsX3_isView) := goodIn_app (goodIn_of _ (by decide +kernel)) ggX3_length_X3_isView
theorem dX3_length_0 : decode cX3_length 0 = .ok (.aload_n 0, 1) := by decide +kernel
theorem dX3_length_1 : decode cX3_length 1 = .ok (.iconst 0, 1) := by decide +kernel
theorem dX3_length_2 : decode cX3_length 2 = .ok (.putfield 65, 3) := by decide +kernel
theorem dX3_length_5 : decode cX3_length 5 = .ok (.aload_n 0, 1) := by decide +kernel
theorem dX3_length_6 : decode cX3_length 6 = .ok (.iload_n 1, 1) := by decide +kernel
theorem dX3_length_7 : decode cX3_length 7 = .ok (.invokevirtual 90, 3) := by decide +kernel
theorem dX3_length_10 : decode cX3_length 10 = .ok (.ifCond .ne 5, 3) := by decide +kernel
theorem dX3_length_13 : decode cX3_length 13 = .ok (.iconst (-1), 1) := by decide +kernel
theorem dX3_length_14 : decode cX3_length 14 = .ok (.ireturn, 1) := by decide +kernel
theorem dX3_length_15 : decode cX3_length 15 = .ok (.aload_n 0, 1) := by decide +kernel
theorem dX3_length_16 : decode cX3_length 16 = .ok (.getfield 16, 3) := by decide +kernel
theorem dX3_length_19 : decode cX3_length 19 = .ok (.iload_n 1, 1) := by decide +kernel
theorem dX3_length_20 : decode cX3_length 20 = .ok (.iaload, 1) := by decide +kernel
theorem dX3_length_21 : decode cX3_length 21 = .ok (.iconst 3, 1) := by decide +kernel
theorem dX3_length_22 : decode cX3_length 22 = .ok (.if_icmp .ne 35, 3) := by decide +kernel
theorem dX3_length_25 : decode cX3_length 25 = .ok (.aload_n 0, 1) := by decide +kernel
theorem dX3_length_26 : decode cX3_length 26 = .ok (.getfield 20, 3) := by decide +kernel
theorem dX3_length_29 : decode cX3_length 29 = .ok (.iload_n 1, 1) := by decide +kernel
theorem dX3_length_30 : decode cX3_length 30 = .ok (.iaload, 1) := by decide +kernel
theorem dX3_length_31 : decode cX3_length 31 = .ok (.bipush 10, 2) := by decide +kernel
theorem dX3_length_33 : decode cX3_length 33 = .ok (.if_icmp .ge 7, 3) := by decide +kernel
theorem dX3_length_36 : decode cX3_length 36 = .ok (.iconst 1, 1) := by decide +kernel
theorem dX3_length_37 : decode cX3_length 37 = .ok (.goto 19, 3) := by decide +kernel
theorem dX3_length_40 : decode cX3_length 40 = .ok (.aload_n 0, 1) := by decide +kernel
theorem dX3_length_41 : decode cX3_length 41 = .ok (.getfield 20, 3) := by decide +kernel
theorem dX3_length_44 : decode cX3_length 44 = .ok (.iload_n 1, 1) := by decide +kernel
theorem dX3_length_45 : decode cX3_length 45 = .ok (.iaload, 1) := by decide +kernel
theorem dX3_length_46 : decode cX3_length 46 = .ok (.bipush 100, 2) := by decide +kernel
theorem dX3_length_48 : decode cX3_length 48 = .ok (.if_icmp .ge 7, 3) := by decide +kernel
theorem dX3_length_51 : decode cX3_length 51 = .ok (.iconst 2, 1) := by decide +kernel
theorem dX3_length_52 : decode cX3_length 52 = .ok (.goto 4, 3) := by decide +kernel
theorem dX3_length_55 : decode cX3_length 55 = .ok (.iconst 3, 1) := by decide +kernel
theorem dX3_length_56 : decode cX3_length 56 = .ok (.ireturn, 1) := by decide +kernel
theorem dX3_length_57 : decode cX3_length 57 = .ok (.aload_n 0, 1) := by decide +kernel
theorem dX3_length_58 : decode cX3_length 58 = .ok (.iload_n 1, 1) := by decide +kernel
theorem dX3_length_59 : decode cX3_length 59 = .ok (.invokevirtual 97, 3) := by decide +kernel
theorem dX3_length_62 : decode cX3_length 62 = .ok (.ifCond .eq 12, 3) := by decide +kernel
theorem dX3_length_65 : decode cX3_length 65 = .ok (.aload_n 0, 1) := by decide +kernel
theorem dX3_length_66 : decode cX3_length 66 = .ok (.getfield 26, 3) := by decide +kernel
theorem dX3_length_69 : decode cX3_length 69 = .ok (.iload_n 1, 1) := by decide +kernel
theorem dX3_length_70 : decode cX3_length 70 = .ok (.iaload, 1) := by decide +kernel
theorem dX3_length_71 : decode cX3_length 71 = .ok (.goto 30, 3) := by decide +kernel
theorem dX3_length_74 : decode cX3_length 74 = .ok (.aload_n 0, 1) := by decide +kernel
theorem dX3_length_75 : decode cX3_length 75 = .ok (.getfield 16, 3) := by decide +kernel
theorem dX3_length_78 : decode cX3_length 78 = .ok (.iload_n 1, 1) := by decide +kernel
theorem dX3_length_79 : decode cX3_length 79 = .ok (.iaload, 1) := by decide +kernel
theorem dX3_length_80 : decode cX3_length 80 = .ok (.bipush 7, 2) := by decide +kernel
theorem dX3_length_82 : decode cX3_length 82 = .ok (.if_icmp .ne 17, 3) := by decide +kernel
theorem dX3_length_85 : decode cX3_length 85 = .ok (.aload_n 0, 1) := by decide +kernel
theorem dX3_length_86 : decode cX3_length 86 = .ok (.getfield 49, 3) := by decide +kernel
theorem dX3_length_89 : decode cX3_length 89 = .ok (.aload_n 0, 1) := by decide +kernel
theorem dX3_length_90 : decode cX3_length 90 = .ok (.getfield 20, 3) := by decide +kernel
theorem dX3_length_93 : decode cX3_length 93 = .ok (.iload_n 1, 1) := by decide +kernel
theorem dX3_length_94 : decode cX3_length 94 = .ok (.iaload, 1) := by decide +kernel
theorem dX3_length_95 : decode cX3_length 95 = .ok (.iaload, 1) := by decide +kernel
theorem dX3_length_96 : decode cX3_length 96 = .ok (.goto 5, 3) := by decide +kernel
theorem dX3_length_99 : decode cX3_length 99 = .ok (.bipush (-3), 2) := by decide +kernel
theorem dX3_length_101 : decode cX3_length 101 = .ok (.ireturn, 1) := by decide +kernel
theorem dX3_placeOf_0 : decode cX3_placeOf 0 = .ok (.iconst 0, 1) := by decide +kernel
theorem dX3_placeOf_1 : decode cX3_placeOf 1 = .ok (.istore 4, 2) := by decide +kernel
theorem dX3_placeOf_3 : decode cX3_placeOf 3 = .ok (.iload 4, 2) := by decide +kernel
theorem dX3_placeOf_5 : decode cX3_placeOf 5 = .ok (.aload_n 0, 1) := by decide +kernel
theorem dX3_placeOf_6 : decode cX3_placeOf 6 = .ok (.getfield 49, 3) := by decide +kernel
theorem dX3_placeOf_9 : decode cX3_placeOf 9 = .ok (.iload_n 1, 1) := by decide +kernel
theorem dX3_placeOf_10 : decode cX3_placeOf 10 = .ok (.iaload, 1) := by decide +kernel
theorem dX3_placeOf_11 : decode cX3_placeOf 11 = .ok (.if_icmp .ge 34, 3) := by decide +kernel
theorem dX3_placeOf_14 : decode cX3_placeOf 14 = .ok (.aload_n 0, 1) := by decide +kernel
theorem dX3_placeOf_15 : decode cX3_placeOf 15 = .ok (.getfield 52, 3) := by decide +kernel
theorem dX3_placeOf_18 : decode cX3_placeOf 18 = .ok (.bipush 32, 2) := by decide +kernel
theorem dX3_placeOf_20 : decode cX3_placeOf 20 = .ok (.iload_n 1, 1) := by decide +kernel
theorem dX3_placeOf_21 : decode cX3_placeOf 21 = .ok (.imul, 1) := by decide +kernel
theorem dX3_placeOf_22 : decode cX3_placeOf 22 = .ok (.iload 4, 2) := by decide +kernel
theorem dX3_placeOf_24 : decode cX3_placeOf 24 = .ok (.iadd, 1) := by decide +kernel
theorem dX3_placeOf_25 : decode cX3_placeOf 25 = .ok (.laload, 1) := by decide +kernel
theorem dX3_placeOf_26 : decode cX3_placeOf 26 = .ok (.lload_n 2, 1) := by decide +kernel
theorem dX3_placeOf_27 : decode cX3_placeOf 27 = .ok (.lcmp, 1) := by decide +kernel
theorem dX3_placeOf_28 : decode cX3_placeOf 28 = .ok (.ifCond .ne 11, 3) := by decide +kernel
theorem dX3_placeOf_31 : decode cX3_placeOf 31 = .ok (.bipush 32, 2) := by decide +kernel
theorem dX3_placeOf_33 : decode cX3_placeOf 33 = .ok (.iload_n 1, 1) := by decide +kernel
theorem dX3_placeOf_34 : decode cX3_placeOf 34 = .ok (.imul, 1) := by decide +kernel
theorem dX3_placeOf_35 : decode cX3_placeOf 35 = .ok (.iload 4, 2) := by decide +kernel
theorem dX3_placeOf_37 : decode cX3_placeOf 37 = .ok (.iadd, 1) := by decide +kernel
theorem dX3_placeOf_38 : decode cX3_placeOf 38 = .ok (.ireturn, 1) := by decide +kernel
theorem dX3_placeOf_39 : decode cX3_placeOf 39 = .ok (.iinc 4 1, 3) := by decide +kernel
theorem dX3_placeOf_42 : decode cX3_placeOf 42 = .ok (.goto (-39), 3) := by decide +kernel
theorem dX3_placeOf_45 : decode cX3_placeOf 45 = .ok (.iconst (-1), 1) := by decide +kernel
theorem dX3_placeOf_46 : decode cX3_placeOf 46 = .ok (.ireturn, 1) := by decide +kernel
set_option maxRecDepth 20000 in
theorem ggX3_isKey_X3_code : GoodIn wsX3_isKey wsX3_code := goodIn_r _ [6, 1, 7, 8, 9, 10, 11, 12, 5, 13, 14, 15, 16, 17, 18, 19, 20, 21, 22, 23, 24, 25, 26, 27, 28, 29, 30, 31, 32, 33, 34, 35, 36, 37, 38, 39, 40, 41, 42, 43, 44, 45, 46, 47, 48, 49, 50, 51] (by decide +kernel) (by decide +kernel)
set_option maxRecDepth 20000 in
theorem gX3_isKey_X3_code : GoodIn wsX3_isKey (wsV RX3 121 RX3 yX3_code wsX3_code) := goodIn_app (goodIn_of _ (by decide +kernel)) ggX3_isKey_X3_code
theorem dX3_isKey_0 : decode cX3_isKey 0 = .ok (.aload_n 0, 1) := by decide +kernel
theorem dX3_isKey_1 : decode cX3_isKey 1 = .ok (.getfield 16, 3) := by decide +kernel
theorem dX3_isKey_4 : decode cX3_isKey 4 = .ok (.iload_n 1, 1) := by decide +kernel
theorem dX3_isKey_5 : decode cX3_isKey 5 = .ok (.iaload, 1) := by decide +kernel
theorem dX3_isKey_6 : decode cX3_isKey 6 = .ok (.ifCond .eq 17, 3) := by decide +kernel
theorem dX3_isKey_9 : decode cX3_isKey 9 = .ok (.aload_n 0, 1) := by decide +kernel
theorem dX3_isKey_10 : decode cX3_isKey 10 = .ok (.iload_n 1, 1) := by decide +kernel
theorem dX3_isKey_11 : decode cX3_isKey 11 = .ok (.invokevirtual 121, 3) := by decide +kernel
theorem dX3_isKey_14 : decode cX3_isKey 14 = .ok (.lconst 0, 1) := by decide +kernel
theorem dX3_isKey_15 : decode cX3_isKey 15 = .ok (.lcmp, 1) := by decide +kernel
theorem dX3_isKey_16 : decode cX3_isKey 16 = .ok (.ifCond .lt 7, 3) := by decide +kernel
theorem dX3_isKey_19 : decode cX3_isKey 19 = .ok (.iconst 1, 1) := by decide +kernel
theorem dX3_isKey_20 : decode cX3_isKey 20 = .ok (.goto 4, 3) := by decide +kernel
theorem dX3_isKey_23 : decode cX3_isKey 23 = .ok (.iconst 0, 1) := by decide +kernel
theorem dX3_isKey_24 : decode cX3_isKey 24 = .ok (.ireturn, 1) := by decide +kernel
set_option maxRecDepth 20000 in
theorem ggX3_entry_X3_isObject : GoodIn wsX3_entry wsX3_isObject := goodIn_r _ [14, 15, 53, 54, 55, 56, 57, 58, 59, 60, 61, 62, 63, 64, 65, 66, 67, 68, 69, 70, 71] (by decide +kernel) (by decide +kernel)
set_option maxRecDepth 20000 in
theorem gX3_entry_X3_isObject : GoodIn wsX3_entry (wsV RX3 90 RX3 yX3_isObject wsX3_isObject) := goodIn_app (goodIn_of _ (by decide +kernel)) ggX3_entry_X3_isObject
set_option maxRecDepth 20000 in
theorem ggX3_entry_X3_accessOf : GoodIn wsX3_entry wsX3_accessOf := goodIn_r _ [19, 20, 21, 22, 23, 13, 24, 2, 3, 53, 54, 55, 56, 57, 58, 59, 60, 61, 62, 63, 64, 65, 66, 67, 68, 69, 70, 71] (by decide +kernel) (by decide +kernel)
set_option maxRecDepth 20000 in
theorem gX3_entry_X3_accessOf : GoodIn wsX3_entry (wsV RX3 94 RX3 yX3_accessOf wsX3_accessOf) := goodIn_app (goodIn_of _ (by decide +kernel)) ggX3_entry_X3_accessOf
set_option maxRecDepth 20000 in
theorem ggX3_entry_X3_isKey : GoodIn wsX3_entry wsX3_isKey := goodIn_r _ [28, 2, 29, 30, 31, 13, 32, 33, 34, 3, 35, 36, 37, 38, 39, 40, 41, 42, 43, 44, 45, 46, 47, 48, 16, 17, 18, 19, 20, 21, 22, 23, 24, 53, 54, 55, 56, 57, 58, 59, 60, 61, 62, 63, 64, 65, 66, 67, 68, 69, 70, 71] (by decide +kernel) (by decide +kernel)
set_option maxRecDepth 20000 in
theorem gX3_entry_X3_isKey : GoodIn wsX3_entry (wsV RX3 125 RX3 yX3_isKey wsX3_isKey) := goodIn_app (goodIn_of _ (by decide +kernel)) ggX3_entry_X3_isKey
set_option maxRecDepth 20000 in
theorem ggX3_entry_X3_code : GoodIn wsX3_entry wsX3_code := goodIn_r _ [32, 2, 33, 34, 3, 35, 36, 37, 13, 38, 39, 40, 41, 42, 43, 44, 45, 46, 47, 48, 16, 17, 18, 19, 20, 21, 22, 23, 24, 53, 54, 55, 56, 57, 58, 59, 60, 61, 62, 63, 64, 65, 66, 67, 68, 69, 70, 71] (by decide +kernel) (by decide +kernel)
set_option maxRecDepth 20000 in
theorem gX3_entry_X3_code : GoodIn wsX3_entry (wsV RX3 121 RX3 yX3_code wsX3_code) := goodIn_app (goodIn_of _ (by decide +kernel)) ggX3_entry_X3_code
set_option maxRecDepth 20000 in
theorem ggX3_entry_X3_placeOf : GoodIn wsX3_entry wsX3_placeOf := goodIn_r _ [52, 4, 8, 53, 54, 55, 56, 57, 58, 59, 60, 61, 62, 63, 64, 65, 66, 67, 68, 69, 70, 71] (by decide +kernel) (by decide +kernel)
set_option maxRecDepth 20000 in
theorem gX3_entry_X3_placeOf : GoodIn wsX3_entry (wsV RX3 128 RX3 yX3_placeOf wsX3_placeOf) := goodIn_app (goodIn_of _ (by decide +kernel)) ggX3_entry_X3_placeOf
theorem dX3_entry_0 : decode cX3_entry 0 = .ok (.aload_n 0, 1) := by decide +kernel
theorem dX3_entry_1 : decode cX3_entry 1 = .ok (.iconst 0, 1) := by decide +kernel
theorem dX3_entry_2 : decode cX3_entry 2 = .ok (.putfield 65, 3) := by decide +kernel
theorem dX3_entry_5 : decode cX3_entry 5 = .ok (.aload_n 0, 1) := by decide +kernel
theorem dX3_entry_6 : decode cX3_entry 6 = .ok (.iload_n 1, 1) := by decide +kernel
theorem dX3_entry_7 : decode cX3_entry 7 = .ok (.invokevirtual 90, 3) := by decide +kernel
theorem dX3_entry_10 : decode cX3_entry 10 = .ok (.ifCond .eq 19, 3) := by decide +kernel
theorem dX3_entry_13 : decode cX3_entry 13 = .ok (.aload_n 0, 1) := by decide +kernel
theorem dX3_entry_14 : decode cX3_entry 14 = .ok (.iload_n 2, 1) := by decide +kernel
theorem dX3_entry_15 : decode cX3_entry 15 = .ok (.invokevirtual 90, 3) := by decide +kernel
theorem dX3_entry_18 : decode cX3_entry 18 = .ok (.ifCond .eq 11, 3) := by decide +kernel
theorem dX3_entry_21 : decode cX3_entry 21 = .ok (.aload_n 0, 1) := by decide +kernel
theorem dX3_entry_22 : decode cX3_entry 22 = .ok (.iload_n 3, 1) := by decide +kernel
theorem dX3_entry_23 : decode cX3_entry 23 = .ok (.invokevirtual 90, 3) := by decide +kernel
theorem dX3_entry_26 : decode cX3_entry 26 = .ok (.ifCond .ne 5, 3) := by decide +kernel
theorem dX3_entry_29 : decode cX3_entry 29 = .ok (.iconst (-1), 1) := by decide +kernel
theorem dX3_entry_30 : decode cX3_entry 30 = .ok (.ireturn, 1) := by decide +kernel
theorem dX3_entry_31 : decode cX3_entry 31 = .ok (.aload_n 0, 1) := by decide +kernel
theorem dX3_entry_32 : decode cX3_entry 32 = .ok (.getfield 16, 3) := by decide +kernel
theorem dX3_entry_35 : decode cX3_entry 35 = .ok (.iload_n 1, 1) := by decide +kernel
theorem dX3_entry_36 : decode cX3_entry 36 = .ok (.iaload, 1) := by decide +kernel
theorem dX3_entry_37 : decode cX3_entry 37 = .ok (.bipush 7, 2) := by decide +kernel
theorem dX3_entry_39 : decode cX3_entry 39 = .ok (.if_icmp .ne 20, 3) := by decide +kernel
theorem dX3_entry_42 : decode cX3_entry 42 = .ok (.aload_n 0, 1) := by decide +kernel
theorem dX3_entry_43 : decode cX3_entry 43 = .ok (.iload_n 1, 1) := by decide +kernel
theorem dX3_entry_44 : decode cX3_entry 44 = .ok (.invokevirtual 94, 3) := by decide +kernel
theorem dX3_entry_47 : decode cX3_entry 47 = .ok (.iconst 3, 1) := by decide +kernel
theorem dX3_entry_48 : decode cX3_entry 48 = .ok (.if_icmp .ne 11, 3) := by decide +kernel
theorem dX3_entry_51 : decode cX3_entry 51 = .ok (.aload_n 0, 1) := by decide +kernel
theorem dX3_entry_52 : decode cX3_entry 52 = .ok (.iload_n 2, 1) := by decide +kernel
theorem dX3_entry_53 : decode cX3_entry 53 = .ok (.invokevirtual 125, 3) := by decide +kernel
theorem dX3_entry_56 : decode cX3_entry 56 = .ok (.ifCond .ne 6, 3) := by decide +kernel
theorem dX3_entry_59 : decode cX3_entry 59 = .ok (.bipush (-3), 2) := by decide +kernel
theorem dX3_entry_61 : decode cX3_entry 61 = .ok (.ireturn, 1) := by decide +kernel
theorem dX3_entry_62 : decode cX3_entry 62 = .ok (.aload_n 0, 1) := by decide +kernel
theorem dX3_entry_63 : decode cX3_entry 63 = .ok (.getfield 20, 3) := by decide +kernel
theorem dX3_entry_66 : decode cX3_entry 66 = .ok (.iload_n 1, 1) := by decide +kernel
theorem dX3_entry_67 : decode cX3_entry 67 = .ok (.iaload, 1) := by decide +kernel
theorem dX3_entry_68 : decode cX3_entry 68 = .ok (.istore 4, 2) := by decide +kernel
theorem dX3_entry_70 : decode cX3_entry 70 = .ok (.aload_n 0, 1) := by decide +kernel
theorem dX3_entry_71 : decode cX3_entry 71 = .ok (.iload 4, 2) := by decide +kernel
theorem dX3_entry_73 : decode cX3_entry 73 = .ok (.aload_n 0, 1) := by decide +kernel
theorem dX3_entry_74 : decode cX3_entry 74 = .ok (.iload_n 2, 1) := by decide +kernel
theorem dX3_entry_75 : decode cX3_entry 75 = .ok (.invokevirtual 121, 3) := by decide +kernel
theorem dX3_entry_78 : decode cX3_entry 78 = .ok (.invokevirtual 128, 3) := by decide +kernel
theorem dX3_entry_81 : decode cX3_entry 81 = .ok (.istore 5, 2) := by decide +kernel
theorem dX3_entry_83 : decode cX3_entry 83 = .ok (.iload 5, 2) := by decide +kernel
theorem dX3_entry_85 : decode cX3_entry 85 = .ok (.ifCond .ge 165, 3) := by decide +kernel
theorem dX3_entry_88 : decode cX3_entry 88 = .ok (.aload_n 0, 1) := by decide +kernel
theorem dX3_entry_89 : decode cX3_entry 89 = .ok (.getfield 49, 3) := by decide +kernel
theorem dX3_entry_92 : decode cX3_entry 92 = .ok (.iload 4, 2) := by decide +kernel
theorem dX3_entry_94 : decode cX3_entry 94 = .ok (.iaload, 1) := by decide +kernel
theorem dX3_entry_95 : decode cX3_entry 95 = .ok (.aload_n 0, 1) := by decide +kernel
theorem dX3_entry_96 : decode cX3_entry 96 = .ok (.getfield 43, 3) := by decide +kernel
theorem dX3_entry_99 : decode cX3_entry 99 = .ok (.iload 4, 2) := by decide +kernel
theorem dX3_entry_101 : decode cX3_entry 101 = .ok (.iaload, 1) := by decide +kernel
theorem dX3_entry_102 : decode cX3_entry 102 = .ok (.if_icmp .ne 7, 3) := by decide +kernel
theorem dX3_entry_105 : decode cX3_entry 105 = .ok (.iconst 1, 1) := by decide +kernel
theorem dX3_entry_106 : decode cX3_entry 106 = .ok (.goto 4, 3) := by decide +kernel
theorem dX3_entry_109 : decode cX3_entry 109 = .ok (.iconst 0, 1) := by decide +kernel
theorem dX3_entry_110 : decode cX3_entry 110 = .ok (.istore 6, 2) := by decide +kernel
theorem dX3_entry_112 : decode cX3_entry 112 = .ok (.iload 6, 2) := by decide +kernel
theorem dX3_entry_114 : decode cX3_entry 114 = .ok (.ifCond .eq 28, 3) := by decide +kernel
theorem dX3_entry_117 : decode cX3_entry 117 = .ok (.aload_n 0, 1) := by decide +kernel
theorem dX3_entry_118 : decode cX3_entry 118 = .ok (.getfield 46, 3) := by decide +kernel
theorem dX3_entry_121 : decode cX3_entry 121 = .ok (.iload 4, 2) := by decide +kernel
theorem dX3_entry_123 : decode cX3_entry 123 = .ok (.baload, 1) := by decide +kernel
theorem dX3_entry_124 : decode cX3_entry 124 = .ok (.ifCond .eq 15, 3) := by decide +kernel
theorem dX3_entry_127 : decode cX3_entry 127 = .ok (.aload_n 0, 1) := by decide +kernel
theorem dX3_entry_128 : decode cX3_entry 128 = .ok (.getfield 49, 3) := by decide +kernel
theorem dX3_entry_131 : decode cX3_entry 131 = .ok (.iload 4, 2) := by decide +kernel
theorem dX3_entry_133 : decode cX3_entry 133 = .ok (.iaload, 1) := by decide +kernel
theorem dX3_entry_134 : decode cX3_entry 134 = .ok (.bipush 32, 2) := by decide +kernel
theorem dX3_entry_136 : decode cX3_entry 136 = .ok (.if_icmp .ne 6, 3) := by decide +kernel
theorem dX3_entry_139 : decode cX3_entry 139 = .ok (.bipush (-4), 2) := by decide +kernel
theorem dX3_entry_141 : decode cX3_entry 141 = .ok (.ireturn, 1) := by decide +kernel
theorem dX3_entry_142 : decode cX3_entry 142 = .ok (.iload 6, 2) := by decide +kernel
theorem dX3_entry_144 : decode cX3_entry 144 = .ok (.ifCond .eq 68, 3) := by decide +kernel
theorem dX3_entry_147 : decode cX3_entry 147 = .ok (.iconst 2, 1) := by decide +kernel
theorem dX3_entry_148 : decode cX3_entry 148 = .ok (.aload_n 0, 1) := by decide +kernel
theorem dX3_entry_149 : decode cX3_entry 149 = .ok (.getfield 43, 3) := by decide +kernel
theorem dX3_entry_152 : decode cX3_entry 152 = .ok (.iload 4, 2) := by decide +kernel
theorem dX3_entry_154 : decode cX3_entry 154 = .ok (.iaload, 1) := by decide +kernel
theorem dX3_entry_155 : decode cX3_entry 155 = .ok (.imul, 1) := by decide +kernel
theorem dX3_entry_156 : decode cX3_entry 156 = .ok (.iconst 1, 1) := by decide +kernel
theorem dX3_entry_157 : decode cX3_entry 157 = .ok (.iadd, 1) := by decide +kernel
theorem dX3_entry_158 : decode cX3_entry 158 = .ok (.bipush 32, 2) := by decide +kernel
theorem dX3_entry_160 : decode cX3_entry 160 = .ok (.if_icmp .le 8, 3) := by decide +kernel
theorem dX3_entry_163 : decode cX3_entry 163 = .ok (.bipush 32, 2) := by decide +kernel
theorem dX3_entry_165 : decode cX3_entry 165 = .ok (.goto 14, 3) := by decide +kernel
theorem dX3_entry_168 : decode cX3_entry 168 = .ok (.iconst 2, 1) := by decide +kernel
theorem dX3_entry_169 : decode cX3_entry 169 = .ok (.aload_n 0, 1) := by decide +kernel
theorem dX3_entry_170 : decode cX3_entry 170 = .ok (.getfield 43, 3) := by decide +kernel
theorem dX3_entry_173 : decode cX3_entry 173 = .ok (.iload 4, 2) := by decide +kernel
theorem dX3_entry_175 : decode cX3_entry 175 = .ok (.iaload, 1) := by decide +kernel
theorem dX3_entry_176 : decode cX3_entry 176 = .ok (.imul, 1) := by decide +kernel
theorem dX3_entry_177 : decode cX3_entry 177 = .ok (.iconst 1, 1) := by decide +kernel
theorem dX3_entry_178 : decode cX3_entry 178 = .ok (.iadd, 1) := by decide +kernel
theorem dX3_entry_179 : decode cX3_entry 179 = .ok (.istore 7, 2) := by decide +kernel
theorem dX3_entry_181 : decode cX3_entry 181 = .ok (.aload_n 0, 1) := by decide +kernel
theorem dX3_entry_182 : decode cX3_entry 182 = .ok (.dup, 1) := by decide +kernel
theorem dX3_entry_183 : decode cX3_entry 183 = .ok (.getfield 13, 3) := by decide +kernel
theorem dX3_entry_186 : decode cX3_entry 186 = .ok (.bipush 16, 2) := by decide +kernel
theorem dX3_entry_188 : decode cX3_entry 188 = .ok (.iload 7, 2) := by decide +kernel
theorem dX3_entry_190 : decode cX3_entry 190 = .ok (.aload_n 0, 1) := by decide +kernel
theorem dX3_entry_191 : decode cX3_entry 191 = .ok (.getfield 43, 3) := by decide +kernel
theorem dX3_entry_194 : decode cX3_entry 194 = .ok (.iload 4, 2) := by decide +kernel
theorem dX3_entry_196 : decode cX3_entry 196 = .ok (.iaload, 1) := by decide +kernel
theorem dX3_entry_197 : decode cX3_entry 197 = .ok (.isub, 1) := by decide +kernel
theorem dX3_entry_198 : decode cX3_entry 198 = .ok (.imul, 1) := by decide +kernel
theorem dX3_entry_199 : decode cX3_entry 199 = .ok (.iadd, 1) := by decide +kernel
theorem dX3_entry_200 : decode cX3_entry 200 = .ok (.putfield 13, 3) := by decide +kernel
theorem dX3_entry_203 : decode cX3_entry 203 = .ok (.aload_n 0, 1) := by decide +kernel
theorem dX3_entry_204 : decode cX3_entry 204 = .ok (.getfield 43, 3) := by decide +kernel
theorem dX3_entry_207 : decode cX3_entry 207 = .ok (.iload 4, 2) := by decide +kernel
theorem dX3_entry_209 : decode cX3_entry 209 = .ok (.iload 7, 2) := by decide +kernel
theorem dX3_entry_211 : decode cX3_entry 211 = .ok (.iastore, 1) := by decide +kernel
theorem dX3_entry_212 : decode cX3_entry 212 = .ok (.bipush 32, 2) := by decide +kernel
theorem dX3_entry_214 : decode cX3_entry 214 = .ok (.iload 4, 2) := by decide +kernel
theorem dX3_entry_216 : decode cX3_entry 216 = .ok (.imul, 1) := by decide +kernel
theorem dX3_entry_217 : decode cX3_entry 217 = .ok (.aload_n 0, 1) := by decide +kernel
theorem dX3_entry_218 : decode cX3_entry 218 = .ok (.getfield 49, 3) := by decide +kernel
theorem dX3_entry_221 : decode cX3_entry 221 = .ok (.iload 4, 2) := by decide +kernel
theorem dX3_entry_223 : decode cX3_entry 223 = .ok (.iaload, 1) := by decide +kernel
theorem dX3_entry_224 : decode cX3_entry 224 = .ok (.iadd, 1) := by decide +kernel
theorem dX3_entry_225 : decode cX3_entry 225 = .ok (.istore 5, 2) := by decide +kernel
theorem dX3_entry_227 : decode cX3_entry 227 = .ok (.aload_n 0, 1) := by decide +kernel
theorem dX3_entry_228 : decode cX3_entry 228 = .ok (.getfield 52, 3) := by decide +kernel
theorem dX3_entry_231 : decode cX3_entry 231 = .ok (.iload 5, 2) := by decide +kernel
theorem dX3_entry_233 : decode cX3_entry 233 = .ok (.aload_n 0, 1) := by decide +kernel
theorem dX3_entry_234 : decode cX3_entry 234 = .ok (.iload_n 2, 1) := by decide +kernel
theorem dX3_entry_235 : decode cX3_entry 235 = .ok (.invokevirtual 121, 3) := by decide +kernel
theorem dX3_entry_238 : decode cX3_entry 238 = .ok (.lastore, 1) := by decide +kernel
theorem dX3_entry_239 : decode cX3_entry 239 = .ok (.aload_n 0, 1) := by decide +kernel
theorem dX3_entry_240 : decode cX3_entry 240 = .ok (.getfield 49, 3) := by decide +kernel
theorem dX3_entry_243 : decode cX3_entry 243 = .ok (.iload 4, 2) := by decide +kernel
theorem dX3_entry_245 : decode cX3_entry 245 = .ok (.dup2, 1) := by decide +kernel
theorem dX3_entry_246 : decode cX3_entry 246 = .ok (.iaload, 1) := by decide +kernel
theorem dX3_entry_247 : decode cX3_entry 247 = .ok (.iconst 1, 1) := by decide +kernel
theorem dX3_entry_248 : decode cX3_entry 248 = .ok (.iadd, 1) := by decide +kernel
theorem dX3_entry_249 : decode cX3_entry 249 = .ok (.iastore, 1) := by decide +kernel
theorem dX3_entry_250 : decode cX3_entry 250 = .ok (.aload_n 0, 1) := by decide +kernel
theorem dX3_entry_251 : decode cX3_entry 251 = .ok (.getfield 56, 3) := by decide +kernel
theorem dX3_entry_254 : decode cX3_entry 254 = .ok (.iload 5, 2) := by decide +kernel
theorem dX3_entry_256 : decode cX3_entry 256 = .ok (.iload_n 3, 1) := by decide +kernel
theorem dX3_entry_257 : decode cX3_entry 257 = .ok (.iastore, 1) := by decide +kernel
theorem dX3_entry_258 : decode cX3_entry 258 = .ok (.iconst 1, 1) := by decide +kernel
theorem dX3_entry_259 : decode cX3_entry 259 = .ok (.ireturn, 1) := by decide +kernel
set_option maxRecDepth 20000 in
theorem ggX3_look_X3_isObject : GoodIn wsX3_look wsX3_isObject := goodIn_r _ [9, 10, 50, 51, 52, 53, 54, 55, 56, 57, 58, 59, 60, 61, 62, 63, 64, 65, 66, 67, 68] (by decide +kernel) (by decide +kernel)
set_option maxRecDepth 20000 in
theorem gX3_look_X3_isObject : GoodIn wsX3_look (wsV RX3 90 RX3 yX3_isObject wsX3_isObject) := goodIn_app (goodIn_of _ (by decide +kernel)) ggX3_look_X3_isObject
set_option maxRecDepth 20000 in
theorem ggX3_look_X3_accessOf : GoodIn wsX3_look wsX3_accessOf := goodIn_r _ [14, 15, 16, 17, 18, 8, 19, 2, 3, 50, 51, 52, 53, 54, 55, 56, 57, 58, 59, 60, 61, 62, 63, 64, 65, 66, 67, 68] (by decide +kernel) (by decide +kernel)
set_option maxRecDepth 20000 in
theorem gX3_look_X3_accessOf : GoodIn wsX3_look (wsV RX3 94 RX3 yX3_accessOf wsX3_accessOf) := goodIn_app (goodIn_of _ (by decide +kernel)) ggX3_look_X3_accessOf
set_option maxRecDepth 20000 in
theorem ggX3_look_X3_isKey : GoodIn wsX3_look wsX3_isKey := goodIn_r _ [23, 2, 24, 25, 26, 8, 27, 28, 29, 3, 30, 31, 32, 33, 34, 35, 36, 37, 38, 39, 40, 41, 42, 43, 11, 12, 13, 14, 15, 16, 17, 18, 19, 50, 51, 52, 53, 54, 55, 56, 57, 58, 59, 60, 61, 62, 63, 64, 65, 66, 67, 68] (by decide +kernel) (by decide +kernel)
set_option maxRecDepth 20000 in
theorem gX3_look_X3_isKey : GoodIn wsX3_look (wsV RX3 125 RX3 yX3_isKey wsX3_isKey) := goodIn_app (goodIn_of _ (by decide +kernel)) ggX3_look_X3_isKey
set_option maxRecDepth 20000 in
theorem ggX3_look_X3_code : GoodIn wsX3_look wsX3_code := goodIn_r _ [27, 2, 28, 29, 3, 30, 31, 32, 8, 33, 34, 35, 36, 37, 38, 39, 40, 41, 42, 43, 11, 12, 13, 14, 15, 16, 17, 18, 19, 50, 51, 52, 53, 54, 55, 56, 57, 58, 59, 60, 61, 62, 63, 64, 65, 66, 67, 68] (by decide +kernel) (by decide +kernel)
set_option maxRecDepth 20000 in
theorem gX3_look_X3_code : GoodIn wsX3_look (wsV RX3 121 RX3 yX3_code wsX3_code) := goodIn_app (goodIn_of _ (by decide +kernel)) ggX3_look_X3_code
set_option maxRecDepth 20000 in
theorem ggX3_look_X3_placeOf : GoodIn wsX3_look wsX3_placeOf := goodIn_r _ [47, 48, 49, 50, 51, 52, 53, 54, 55, 56, 57, 58, 59, 60, 61, 62, 63, 64, 65, 66, 67, 68] (by decide +kernel) (by decide +kernel)
set_option maxRecDepth 20000 in
theorem gX3_look_X3_placeOf : GoodIn wsX3_look (wsV RX3 128 RX3 yX3_placeOf wsX3_placeOf) := goodIn_app (goodIn_of _ (by decide +kernel)) ggX3_look_X3_placeOf
theorem dX3_look_0 : decode cX3_look 0 = .ok (.aload_n 0, 1) := by decide +kernel
theorem dX3_look_1 : decode cX3_look 1 = .ok (.iconst 0, 1) := by decide +kernel
theorem dX3_look_2 : decode cX3_look 2 = .ok (.putfield 65, 3) := by decide +kernel
theorem dX3_look_5 : decode cX3_look 5 = .ok (.aload_n 0, 1) := by decide +kernel
theorem dX3_look_6 : decode cX3_look 6 = .ok (.iload_n 1, 1) := by decide +kernel
theorem dX3_look_7 : decode cX3_look 7 = .ok (.invokevirtual 90, 3) := by decide +kernel
theorem dX3_look_10 : decode cX3_look 10 = .ok (.ifCond .eq 11, 3) := by decide +kernel
theorem dX3_look_13 : decode cX3_look 13 = .ok (.aload_n 0, 1) := by decide +kernel
theorem dX3_look_14 : decode cX3_look 14 = .ok (.iload_n 2, 1) := by decide +kernel
theorem dX3_look_15 : decode cX3_look 15 = .ok (.invokevirtual 90, 3) := by decide +kernel
theorem dX3_look_18 : decode cX3_look 18 = .ok (.ifCond .ne 5, 3) := by decide +kernel
theorem dX3_look_21 : decode cX3_look 21 = .ok (.iconst (-1), 1) := by decide +kernel
theorem dX3_look_22 : decode cX3_look 22 = .ok (.ireturn, 1) := by decide +kernel
theorem dX3_look_23 : decode cX3_look 23 = .ok (.aload_n 0, 1) := by decide +kernel
theorem dX3_look_24 : decode cX3_look 24 = .ok (.getfield 16, 3) := by decide +kernel
theorem dX3_look_27 : decode cX3_look 27 = .ok (.iload_n 1, 1) := by decide +kernel
theorem dX3_look_28 : decode cX3_look 28 = .ok (.iaload, 1) := by decide +kernel
theorem dX3_look_29 : decode cX3_look 29 = .ok (.bipush 7, 2) := by decide +kernel
theorem dX3_look_31 : decode cX3_look 31 = .ok (.if_icmp .ne 20, 3) := by decide +kernel
theorem dX3_look_34 : decode cX3_look 34 = .ok (.aload_n 0, 1) := by decide +kernel
theorem dX3_look_35 : decode cX3_look 35 = .ok (.iload_n 1, 1) := by decide +kernel
theorem dX3_look_36 : decode cX3_look 36 = .ok (.invokevirtual 94, 3) := by decide +kernel
theorem dX3_look_39 : decode cX3_look 39 = .ok (.iconst 2, 1) := by decide +kernel
theorem dX3_look_40 : decode cX3_look 40 = .ok (.if_icmp .lt 11, 3) := by decide +kernel
theorem dX3_look_43 : decode cX3_look 43 = .ok (.aload_n 0, 1) := by decide +kernel
theorem dX3_look_44 : decode cX3_look 44 = .ok (.iload_n 2, 1) := by decide +kernel
theorem dX3_look_45 : decode cX3_look 45 = .ok (.invokevirtual 125, 3) := by decide +kernel
theorem dX3_look_48 : decode cX3_look 48 = .ok (.ifCond .ne 6, 3) := by decide +kernel
theorem dX3_look_51 : decode cX3_look 51 = .ok (.bipush (-3), 2) := by decide +kernel
theorem dX3_look_53 : decode cX3_look 53 = .ok (.ireturn, 1) := by decide +kernel
theorem dX3_look_54 : decode cX3_look 54 = .ok (.aload_n 0, 1) := by decide +kernel
theorem dX3_look_55 : decode cX3_look 55 = .ok (.aload_n 0, 1) := by decide +kernel
theorem dX3_look_56 : decode cX3_look 56 = .ok (.getfield 20, 3) := by decide +kernel
theorem dX3_look_59 : decode cX3_look 59 = .ok (.iload_n 1, 1) := by decide +kernel
theorem dX3_look_60 : decode cX3_look 60 = .ok (.iaload, 1) := by decide +kernel
theorem dX3_look_61 : decode cX3_look 61 = .ok (.aload_n 0, 1) := by decide +kernel
theorem dX3_look_62 : decode cX3_look 62 = .ok (.iload_n 2, 1) := by decide +kernel
theorem dX3_look_63 : decode cX3_look 63 = .ok (.invokevirtual 121, 3) := by decide +kernel
theorem dX3_look_66 : decode cX3_look 66 = .ok (.invokevirtual 128, 3) := by decide +kernel
theorem dX3_look_69 : decode cX3_look 69 = .ok (.istore_n 3, 1) := by decide +kernel
theorem dX3_look_70 : decode cX3_look 70 = .ok (.iload_n 3, 1) := by decide +kernel
theorem dX3_look_71 : decode cX3_look 71 = .ok (.ifCond .ge 8, 3) := by decide +kernel
