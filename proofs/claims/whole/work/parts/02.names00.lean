set_option maxRecDepth 20000 in
theorem ggX0_init_X1_init : GoodIn wsX0_init wsX1_init := goodIn_r _ [14, 15, 2, 3, 16, 17, 18, 19] (by decide +kernel) (by decide +kernel)
set_option maxRecDepth 20000 in
theorem gX0_init_X1_init_n9 : GoodIn wsX0_init (wsX1_init) := ggX0_init_X1_init
theorem dX0_init_0 : decode cX0_init 0 = .ok (.aload_n 0, 1) := by decide +kernel
theorem dX0_init_1 : decode cX0_init 1 = .ok (.invokespecial 1, 3) := by decide +kernel
theorem dX0_init_4 : decode cX0_init 4 = .ok (.aload_n 0, 1) := by decide +kernel
theorem dX0_init_5 : decode cX0_init 5 = .ok (.new 7, 3) := by decide +kernel
theorem dX0_init_8 : decode cX0_init 8 = .ok (.dup, 1) := by decide +kernel
theorem dX0_init_9 : decode cX0_init 9 = .ok (.invokespecial 9, 3) := by decide +kernel
theorem dX0_init_12 : decode cX0_init 12 = .ok (.putfield 10, 3) := by decide +kernel
theorem dX0_init_15 : decode cX0_init 15 = .ok (.aload_n 0, 1) := by decide +kernel
theorem dX0_init_16 : decode cX0_init 16 = .ok (.new 7, 3) := by decide +kernel
theorem dX0_init_19 : decode cX0_init 19 = .ok (.dup, 1) := by decide +kernel
theorem dX0_init_20 : decode cX0_init 20 = .ok (.invokespecial 9, 3) := by decide +kernel
theorem dX0_init_23 : decode cX0_init 23 = .ok (.putfield 16, 3) := by decide +kernel
theorem dX0_init_26 : decode cX0_init 26 = .ok (.aload_n 0, 1) := by decide +kernel
theorem dX0_init_27 : decode cX0_init 27 = .ok (.new 7, 3) := by decide +kernel
theorem dX0_init_30 : decode cX0_init 30 = .ok (.dup, 1) := by decide +kernel
theorem dX0_init_31 : decode cX0_init 31 = .ok (.invokespecial 9, 3) := by decide +kernel
theorem dX0_init_34 : decode cX0_init 34 = .ok (.putfield 19, 3) := by decide +kernel
theorem dX0_init_37 : decode cX0_init 37 = .ok (.aload_n 0, 1) := by decide +kernel
theorem dX0_init_38 : decode cX0_init 38 = .ok (.new 7, 3) := by decide +kernel
theorem dX0_init_41 : decode cX0_init 41 = .ok (.dup, 1) := by decide +kernel
theorem dX0_init_42 : decode cX0_init 42 = .ok (.invokespecial 9, 3) := by decide +kernel
theorem dX0_init_45 : decode cX0_init 45 = .ok (.putfield 22, 3) := by decide +kernel
theorem dX0_init_48 : decode cX0_init 48 = .ok (.aload_n 0, 1) := by decide +kernel
theorem dX0_init_49 : decode cX0_init 49 = .ok (.new 7, 3) := by decide +kernel
theorem dX0_init_52 : decode cX0_init 52 = .ok (.dup, 1) := by decide +kernel
theorem dX0_init_53 : decode cX0_init 53 = .ok (.invokespecial 9, 3) := by decide +kernel
theorem dX0_init_56 : decode cX0_init 56 = .ok (.putfield 25, 3) := by decide +kernel
theorem dX0_init_59 : decode cX0_init 59 = .ok (.aload_n 0, 1) := by decide +kernel
theorem dX0_init_60 : decode cX0_init 60 = .ok (.new 7, 3) := by decide +kernel
theorem dX0_init_63 : decode cX0_init 63 = .ok (.dup, 1) := by decide +kernel
theorem dX0_init_64 : decode cX0_init 64 = .ok (.invokespecial 9, 3) := by decide +kernel
theorem dX0_init_67 : decode cX0_init 67 = .ok (.putfield 28, 3) := by decide +kernel
theorem dX0_init_70 : decode cX0_init 70 = .ok (.return_, 1) := by decide +kernel
set_option maxRecDepth 20000 in
theorem ggX0_addCells_X1_add : GoodIn wsX0_addCells wsX1_add := goodIn_r _ [10, 11, 12, 13, 14, 9, 15, 16, 17, 18, 19, 20, 21, 22, 23, 24, 25, 26, 27, 28, 29, 30, 31, 32, 33, 34, 35, 36, 37, 38, 39, 40, 41, 42, 50, 51] (by decide +kernel) (by decide +kernel)
set_option maxRecDepth 20000 in
theorem gX0_addCells_X1_add : GoodIn wsX0_addCells (wsV RX0 31 RX1 yX1_add wsX1_add) := goodIn_app (goodIn_of _ (by decide +kernel)) ggX0_addCells_X1_add
theorem dX0_addCells_0 : decode cX0_addCells 0 = .ok (.aload_n 0, 1) := by decide +kernel
theorem dX0_addCells_1 : decode cX0_addCells 1 = .ok (.getfield 10, 3) := by decide +kernel
theorem dX0_addCells_4 : decode cX0_addCells 4 = .ok (.iconst 0, 1) := by decide +kernel
theorem dX0_addCells_5 : decode cX0_addCells 5 = .ok (.invokevirtual 31, 3) := by decide +kernel
theorem dX0_addCells_8 : decode cX0_addCells 8 = .ok (.aload_n 0, 1) := by decide +kernel
theorem dX0_addCells_9 : decode cX0_addCells 9 = .ok (.getfield 16, 3) := by decide +kernel
theorem dX0_addCells_12 : decode cX0_addCells 12 = .ok (.iload_n 1, 1) := by decide +kernel
theorem dX0_addCells_13 : decode cX0_addCells 13 = .ok (.invokevirtual 31, 3) := by decide +kernel
theorem dX0_addCells_16 : decode cX0_addCells 16 = .ok (.aload_n 0, 1) := by decide +kernel
theorem dX0_addCells_17 : decode cX0_addCells 17 = .ok (.getfield 19, 3) := by decide +kernel
theorem dX0_addCells_20 : decode cX0_addCells 20 = .ok (.iconst 0, 1) := by decide +kernel
theorem dX0_addCells_21 : decode cX0_addCells 21 = .ok (.invokevirtual 31, 3) := by decide +kernel
theorem dX0_addCells_24 : decode cX0_addCells 24 = .ok (.aload_n 0, 1) := by decide +kernel
theorem dX0_addCells_25 : decode cX0_addCells 25 = .ok (.getfield 22, 3) := by decide +kernel
theorem dX0_addCells_28 : decode cX0_addCells 28 = .ok (.iconst 0, 1) := by decide +kernel
theorem dX0_addCells_29 : decode cX0_addCells 29 = .ok (.invokevirtual 31, 3) := by decide +kernel
theorem dX0_addCells_32 : decode cX0_addCells 32 = .ok (.aload_n 0, 1) := by decide +kernel
theorem dX0_addCells_33 : decode cX0_addCells 33 = .ok (.getfield 25, 3) := by decide +kernel
theorem dX0_addCells_36 : decode cX0_addCells 36 = .ok (.iconst 0, 1) := by decide +kernel
theorem dX0_addCells_37 : decode cX0_addCells 37 = .ok (.invokevirtual 31, 3) := by decide +kernel
theorem dX0_addCells_40 : decode cX0_addCells 40 = .ok (.return_, 1) := by decide +kernel
set_option maxRecDepth 20000 in
theorem ggX0_become_X1_become : GoodIn wsX0_become wsX1_become := goodIn_r _ [12, 13, 14, 15, 16, 17, 18, 19, 20, 21, 22, 23, 24, 25, 11, 26, 27, 28, 29, 30, 31, 32, 33, 34, 35, 36, 37, 38, 39, 40, 41, 42, 50, 51] (by decide +kernel) (by decide +kernel)
set_option maxRecDepth 20000 in
theorem gX0_become_X1_become : GoodIn wsX0_become (wsV RX0 35 RX1 yX1_become wsX1_become) := goodIn_app (goodIn_of _ (by decide +kernel)) ggX0_become_X1_become
theorem dX0_become_0 : decode cX0_become 0 = .ok (.aload_n 0, 1) := by decide +kernel
theorem dX0_become_1 : decode cX0_become 1 = .ok (.getfield 10, 3) := by decide +kernel
theorem dX0_become_4 : decode cX0_become 4 = .ok (.aload_n 1, 1) := by decide +kernel
theorem dX0_become_5 : decode cX0_become 5 = .ok (.getfield 10, 3) := by decide +kernel
theorem dX0_become_8 : decode cX0_become 8 = .ok (.invokevirtual 35, 3) := by decide +kernel
theorem dX0_become_11 : decode cX0_become 11 = .ok (.aload_n 0, 1) := by decide +kernel
theorem dX0_become_12 : decode cX0_become 12 = .ok (.getfield 16, 3) := by decide +kernel
theorem dX0_become_15 : decode cX0_become 15 = .ok (.aload_n 1, 1) := by decide +kernel
theorem dX0_become_16 : decode cX0_become 16 = .ok (.getfield 16, 3) := by decide +kernel
theorem dX0_become_19 : decode cX0_become 19 = .ok (.invokevirtual 35, 3) := by decide +kernel
theorem dX0_become_22 : decode cX0_become 22 = .ok (.aload_n 0, 1) := by decide +kernel
theorem dX0_become_23 : decode cX0_become 23 = .ok (.getfield 19, 3) := by decide +kernel
theorem dX0_become_26 : decode cX0_become 26 = .ok (.aload_n 1, 1) := by decide +kernel
theorem dX0_become_27 : decode cX0_become 27 = .ok (.getfield 19, 3) := by decide +kernel
theorem dX0_become_30 : decode cX0_become 30 = .ok (.invokevirtual 35, 3) := by decide +kernel
theorem dX0_become_33 : decode cX0_become 33 = .ok (.aload_n 0, 1) := by decide +kernel
theorem dX0_become_34 : decode cX0_become 34 = .ok (.getfield 22, 3) := by decide +kernel
theorem dX0_become_37 : decode cX0_become 37 = .ok (.aload_n 1, 1) := by decide +kernel
theorem dX0_become_38 : decode cX0_become 38 = .ok (.getfield 22, 3) := by decide +kernel
theorem dX0_become_41 : decode cX0_become 41 = .ok (.invokevirtual 35, 3) := by decide +kernel
theorem dX0_become_44 : decode cX0_become 44 = .ok (.aload_n 0, 1) := by decide +kernel
theorem dX0_become_45 : decode cX0_become 45 = .ok (.getfield 25, 3) := by decide +kernel
theorem dX0_become_48 : decode cX0_become 48 = .ok (.aload_n 1, 1) := by decide +kernel
theorem dX0_become_49 : decode cX0_become 49 = .ok (.getfield 25, 3) := by decide +kernel
theorem dX0_become_52 : decode cX0_become 52 = .ok (.invokevirtual 35, 3) := by decide +kernel
theorem dX0_become_55 : decode cX0_become 55 = .ok (.aload_n 0, 1) := by decide +kernel
theorem dX0_become_56 : decode cX0_become 56 = .ok (.getfield 28, 3) := by decide +kernel
theorem dX0_become_59 : decode cX0_become 59 = .ok (.aload_n 1, 1) := by decide +kernel
theorem dX0_become_60 : decode cX0_become 60 = .ok (.getfield 28, 3) := by decide +kernel
theorem dX0_become_63 : decode cX0_become 63 = .ok (.invokevirtual 35, 3) := by decide +kernel
theorem dX0_become_66 : decode cX0_become 66 = .ok (.aload_n 0, 1) := by decide +kernel
theorem dX0_become_67 : decode cX0_become 67 = .ok (.aload_n 1, 1) := by decide +kernel
theorem dX0_become_68 : decode cX0_become 68 = .ok (.getfield 39, 3) := by decide +kernel
theorem dX0_become_71 : decode cX0_become 71 = .ok (.putfield 39, 3) := by decide +kernel
theorem dX0_become_74 : decode cX0_become 74 = .ok (.return_, 1) := by decide +kernel
theorem dX1_init_0 : decode cX1_init 0 = .ok (.aload_n 0, 1) := by decide +kernel
theorem dX1_init_1 : decode cX1_init 1 = .ok (.invokespecial 1, 3) := by decide +kernel
theorem dX1_init_4 : decode cX1_init 4 = .ok (.aload_n 0, 1) := by decide +kernel
theorem dX1_init_5 : decode cX1_init 5 = .ok (.bipush 8, 2) := by decide +kernel
theorem dX1_init_7 : decode cX1_init 7 = .ok (.newarray .int, 2) := by decide +kernel
theorem dX1_init_9 : decode cX1_init 9 = .ok (.putfield 9, 3) := by decide +kernel
theorem dX1_init_12 : decode cX1_init 12 = .ok (.return_, 1) := by decide +kernel
theorem dX1_size_0 : decode cX1_size 0 = .ok (.aload_n 0, 1) := by decide +kernel
theorem dX1_size_1 : decode cX1_size 1 = .ok (.getfield 13, 3) := by decide +kernel
theorem dX1_size_4 : decode cX1_size 4 = .ok (.ireturn, 1) := by decide +kernel
theorem dX1_at_0 : decode cX1_at 0 = .ok (.iload_n 1, 1) := by decide +kernel
theorem dX1_at_1 : decode cX1_at 1 = .ok (.ifCond .lt 21, 3) := by decide +kernel
theorem dX1_at_4 : decode cX1_at 4 = .ok (.iload_n 1, 1) := by decide +kernel
theorem dX1_at_5 : decode cX1_at 5 = .ok (.aload_n 0, 1) := by decide +kernel
theorem dX1_at_6 : decode cX1_at 6 = .ok (.getfield 9, 3) := by decide +kernel
theorem dX1_at_9 : decode cX1_at 9 = .ok (.arraylength, 1) := by decide +kernel
theorem dX1_at_10 : decode cX1_at 10 = .ok (.if_icmp .ge 12, 3) := by decide +kernel
theorem dX1_at_13 : decode cX1_at 13 = .ok (.aload_n 0, 1) := by decide +kernel
theorem dX1_at_14 : decode cX1_at 14 = .ok (.getfield 9, 3) := by decide +kernel
theorem dX1_at_17 : decode cX1_at 17 = .ok (.iload_n 1, 1) := by decide +kernel
theorem dX1_at_18 : decode cX1_at 18 = .ok (.iaload, 1) := by decide +kernel
theorem dX1_at_19 : decode cX1_at 19 = .ok (.goto 4, 3) := by decide +kernel
theorem dX1_at_22 : decode cX1_at 22 = .ok (.iconst 0, 1) := by decide +kernel
theorem dX1_at_23 : decode cX1_at 23 = .ok (.ireturn, 1) := by decide +kernel
theorem dX1_set_0 : decode cX1_set 0 = .ok (.iload_n 1, 1) := by decide +kernel
theorem dX1_set_1 : decode cX1_set 1 = .ok (.ifCond .lt 19, 3) := by decide +kernel
theorem dX1_set_4 : decode cX1_set 4 = .ok (.iload_n 1, 1) := by decide +kernel
theorem dX1_set_5 : decode cX1_set 5 = .ok (.aload_n 0, 1) := by decide +kernel
theorem dX1_set_6 : decode cX1_set 6 = .ok (.getfield 9, 3) := by decide +kernel
theorem dX1_set_9 : decode cX1_set 9 = .ok (.arraylength, 1) := by decide +kernel
theorem dX1_set_10 : decode cX1_set 10 = .ok (.if_icmp .ge 10, 3) := by decide +kernel
theorem dX1_set_13 : decode cX1_set 13 = .ok (.aload_n 0, 1) := by decide +kernel
theorem dX1_set_14 : decode cX1_set 14 = .ok (.getfield 9, 3) := by decide +kernel
theorem dX1_set_17 : decode cX1_set 17 = .ok (.iload_n 1, 1) := by decide +kernel
theorem dX1_set_18 : decode cX1_set 18 = .ok (.iload_n 2, 1) := by decide +kernel
theorem dX1_set_19 : decode cX1_set 19 = .ok (.iastore, 1) := by decide +kernel
theorem dX1_set_20 : decode cX1_set 20 = .ok (.return_, 1) := by decide +kernel
set_option maxRecDepth 20000 in
theorem ggX1_add_X1_reach : GoodIn wsX1_add wsX1_reach := goodIn_r _ [6, 7, 8, 9, 10, 11, 12, 13, 14, 15, 16, 17, 18, 19, 20, 21, 22, 23, 24, 25, 26, 27, 28, 29, 34, 35] (by decide +kernel) (by decide +kernel)
set_option maxRecDepth 20000 in
theorem gX1_add_X1_reach : GoodIn wsX1_add (wsV RX1 17 RX1 yX1_reach wsX1_reach) := goodIn_app (goodIn_of _ (by decide +kernel)) ggX1_add_X1_reach
set_option maxRecDepth 20000 in
theorem ggX1_add_X1_set : GoodIn wsX1_add wsX1_set := goodIn_r _ [33, 7, 34, 35] (by decide +kernel) (by decide +kernel)
set_option maxRecDepth 20000 in
theorem gX1_add_X1_set : GoodIn wsX1_add (wsV RX1 21 RX1 yX1_set wsX1_set) := goodIn_app (goodIn_of _ (by decide +kernel)) ggX1_add_X1_set
theorem dX1_add_0 : decode cX1_add 0 = .ok (.aload_n 0, 1) := by decide +kernel
theorem dX1_add_1 : decode cX1_add 1 = .ok (.aload_n 0, 1) := by decide +kernel
theorem dX1_add_2 : decode cX1_add 2 = .ok (.getfield 13, 3) := by decide +kernel
theorem dX1_add_5 : decode cX1_add 5 = .ok (.iconst 1, 1) := by decide +kernel
theorem dX1_add_6 : decode cX1_add 6 = .ok (.iadd, 1) := by decide +kernel
theorem dX1_add_7 : decode cX1_add 7 = .ok (.invokevirtual 17, 3) := by decide +kernel
theorem dX1_add_10 : decode cX1_add 10 = .ok (.aload_n 0, 1) := by decide +kernel
theorem dX1_add_11 : decode cX1_add 11 = .ok (.aload_n 0, 1) := by decide +kernel
theorem dX1_add_12 : decode cX1_add 12 = .ok (.getfield 13, 3) := by decide +kernel
theorem dX1_add_15 : decode cX1_add 15 = .ok (.iload_n 1, 1) := by decide +kernel
theorem dX1_add_16 : decode cX1_add 16 = .ok (.invokevirtual 21, 3) := by decide +kernel
theorem dX1_add_19 : decode cX1_add 19 = .ok (.aload_n 0, 1) := by decide +kernel
theorem dX1_add_20 : decode cX1_add 20 = .ok (.dup, 1) := by decide +kernel
theorem dX1_add_21 : decode cX1_add 21 = .ok (.getfield 13, 3) := by decide +kernel
theorem dX1_add_24 : decode cX1_add 24 = .ok (.iconst 1, 1) := by decide +kernel
theorem dX1_add_25 : decode cX1_add 25 = .ok (.iadd, 1) := by decide +kernel
theorem dX1_add_26 : decode cX1_add 26 = .ok (.putfield 13, 3) := by decide +kernel
theorem dX1_add_29 : decode cX1_add 29 = .ok (.return_, 1) := by decide +kernel
set_option maxRecDepth 20000 in
theorem ggX1_addZeros_X1_reach : GoodIn wsX1_addZeros wsX1_reach := goodIn_r _ [6, 7, 8, 9, 10, 11, 12, 13, 14, 15, 16, 17, 18, 19, 20, 21, 22, 23, 24, 25, 26, 27, 28, 29, 34, 35] (by decide +kernel) (by decide +kernel)
set_option maxRecDepth 20000 in
theorem gX1_addZeros_X1_reach : GoodIn wsX1_addZeros (wsV RX1 17 RX1 yX1_reach wsX1_reach) := goodIn_app (goodIn_of _ (by decide +kernel)) ggX1_addZeros_X1_reach
set_option maxRecDepth 20000 in
theorem ggX1_addZeros_X1_set : GoodIn wsX1_addZeros wsX1_set := goodIn_r _ [33, 7, 34, 35] (by decide +kernel) (by decide +kernel)
set_option maxRecDepth 20000 in
theorem gX1_addZeros_X1_set : GoodIn wsX1_addZeros (wsV RX1 21 RX1 yX1_set wsX1_set) := goodIn_app (goodIn_of _ (by decide +kernel)) ggX1_addZeros_X1_set
theorem dX1_addZeros_0 : decode cX1_addZeros 0 = .ok (.aload_n 0, 1) := by decide +kernel
theorem dX1_addZeros_1 : decode cX1_addZeros 1 = .ok (.getfield 13, 3) := by decide +kernel
theorem dX1_addZeros_4 : decode cX1_addZeros 4 = .ok (.istore_n 2, 1) := by decide +kernel
theorem dX1_addZeros_5 : decode cX1_addZeros 5 = .ok (.aload_n 0, 1) := by decide +kernel
theorem dX1_addZeros_6 : decode cX1_addZeros 6 = .ok (.iload_n 2, 1) := by decide +kernel
theorem dX1_addZeros_7 : decode cX1_addZeros 7 = .ok (.iload_n 1, 1) := by decide +kernel
theorem dX1_addZeros_8 : decode cX1_addZeros 8 = .ok (.iadd, 1) := by decide +kernel
theorem dX1_addZeros_9 : decode cX1_addZeros 9 = .ok (.invokevirtual 17, 3) := by decide +kernel
theorem dX1_addZeros_12 : decode cX1_addZeros 12 = .ok (.iconst 0, 1) := by decide +kernel
theorem dX1_addZeros_13 : decode cX1_addZeros 13 = .ok (.istore_n 3, 1) := by decide +kernel
theorem dX1_addZeros_14 : decode cX1_addZeros 14 = .ok (.iload_n 3, 1) := by decide +kernel
theorem dX1_addZeros_15 : decode cX1_addZeros 15 = .ok (.iload_n 1, 1) := by decide +kernel
theorem dX1_addZeros_16 : decode cX1_addZeros 16 = .ok (.if_icmp .ge 17, 3) := by decide +kernel
theorem dX1_addZeros_19 : decode cX1_addZeros 19 = .ok (.aload_n 0, 1) := by decide +kernel
theorem dX1_addZeros_20 : decode cX1_addZeros 20 = .ok (.iload_n 2, 1) := by decide +kernel
theorem dX1_addZeros_21 : decode cX1_addZeros 21 = .ok (.iload_n 3, 1) := by decide +kernel
theorem dX1_addZeros_22 : decode cX1_addZeros 22 = .ok (.iadd, 1) := by decide +kernel
theorem dX1_addZeros_23 : decode cX1_addZeros 23 = .ok (.iconst 0, 1) := by decide +kernel
theorem dX1_addZeros_24 : decode cX1_addZeros 24 = .ok (.invokevirtual 21, 3) := by decide +kernel
theorem dX1_addZeros_27 : decode cX1_addZeros 27 = .ok (.iinc 3 1, 3) := by decide +kernel
theorem dX1_addZeros_30 : decode cX1_addZeros 30 = .ok (.goto (-16), 3) := by decide +kernel
theorem dX1_addZeros_33 : decode cX1_addZeros 33 = .ok (.aload_n 0, 1) := by decide +kernel
theorem dX1_addZeros_34 : decode cX1_addZeros 34 = .ok (.iload_n 2, 1) := by decide +kernel
theorem dX1_addZeros_35 : decode cX1_addZeros 35 = .ok (.iload_n 1, 1) := by decide +kernel
theorem dX1_addZeros_36 : decode cX1_addZeros 36 = .ok (.iadd, 1) := by decide +kernel
theorem dX1_addZeros_37 : decode cX1_addZeros 37 = .ok (.putfield 13, 3) := by decide +kernel
theorem dX1_addZeros_40 : decode cX1_addZeros 40 = .ok (.iload_n 2, 1) := by decide +kernel
theorem dX1_addZeros_41 : decode cX1_addZeros 41 = .ok (.ireturn, 1) := by decide +kernel
theorem dX1_cut_0 : decode cX1_cut 0 = .ok (.iload_n 1, 1) := by decide +kernel
theorem dX1_cut_1 : decode cX1_cut 1 = .ok (.ifCond .lt 16, 3) := by decide +kernel
theorem dX1_cut_4 : decode cX1_cut 4 = .ok (.iload_n 1, 1) := by decide +kernel
theorem dX1_cut_5 : decode cX1_cut 5 = .ok (.aload_n 0, 1) := by decide +kernel
theorem dX1_cut_6 : decode cX1_cut 6 = .ok (.getfield 13, 3) := by decide +kernel
theorem dX1_cut_9 : decode cX1_cut 9 = .ok (.if_icmp .ge 8, 3) := by decide +kernel
theorem dX1_cut_12 : decode cX1_cut 12 = .ok (.aload_n 0, 1) := by decide +kernel
theorem dX1_cut_13 : decode cX1_cut 13 = .ok (.iload_n 1, 1) := by decide +kernel
theorem dX1_cut_14 : decode cX1_cut 14 = .ok (.putfield 13, 3) := by decide +kernel
theorem dX1_cut_17 : decode cX1_cut 17 = .ok (.return_, 1) := by decide +kernel
set_option maxRecDepth 20000 in
theorem ggX1_become_X1_reach : GoodIn wsX1_become wsX1_reach := goodIn_r _ [15, 2, 16, 17, 5, 18, 19, 20, 21, 22, 23, 24, 25, 26, 27, 28, 29, 30, 4, 6, 31, 8, 9, 10, 32, 33] (by decide +kernel) (by decide +kernel)
set_option maxRecDepth 20000 in
theorem gX1_become_X1_reach : GoodIn wsX1_become (wsV RX1 17 RX1 yX1_reach wsX1_reach) := goodIn_app (goodIn_of _ (by decide +kernel)) ggX1_become_X1_reach
theorem dX1_become_0 : decode cX1_become 0 = .ok (.aload_n 0, 1) := by decide +kernel
theorem dX1_become_1 : decode cX1_become 1 = .ok (.aload_n 1, 1) := by decide +kernel
theorem dX1_become_2 : decode cX1_become 2 = .ok (.getfield 13, 3) := by decide +kernel
theorem dX1_become_5 : decode cX1_become 5 = .ok (.invokevirtual 17, 3) := by decide +kernel
theorem dX1_become_8 : decode cX1_become 8 = .ok (.aload_n 0, 1) := by decide +kernel
theorem dX1_become_9 : decode cX1_become 9 = .ok (.aload_n 1, 1) := by decide +kernel
theorem dX1_become_10 : decode cX1_become 10 = .ok (.getfield 13, 3) := by decide +kernel
theorem dX1_become_13 : decode cX1_become 13 = .ok (.aload_n 0, 1) := by decide +kernel
theorem dX1_become_14 : decode cX1_become 14 = .ok (.getfield 9, 3) := by decide +kernel
theorem dX1_become_17 : decode cX1_become 17 = .ok (.arraylength, 1) := by decide +kernel
theorem dX1_become_18 : decode cX1_become 18 = .ok (.aload_n 1, 1) := by decide +kernel
theorem dX1_become_19 : decode cX1_become 19 = .ok (.getfield 9, 3) := by decide +kernel
theorem dX1_become_22 : decode cX1_become 22 = .ok (.arraylength, 1) := by decide +kernel
theorem dX1_become_23 : decode cX1_become 23 = .ok (.invokestatic 25, 3) := by decide +kernel
theorem dX1_become_26 : decode cX1_become 26 = .ok (.invokestatic 25, 3) := by decide +kernel
theorem dX1_become_29 : decode cX1_become 29 = .ok (.putfield 13, 3) := by decide +kernel
theorem dX1_become_32 : decode cX1_become 32 = .ok (.aload_n 1, 1) := by decide +kernel
theorem dX1_become_33 : decode cX1_become 33 = .ok (.getfield 9, 3) := by decide +kernel
theorem dX1_become_36 : decode cX1_become 36 = .ok (.iconst 0, 1) := by decide +kernel
theorem dX1_become_37 : decode cX1_become 37 = .ok (.aload_n 0, 1) := by decide +kernel
theorem dX1_become_38 : decode cX1_become 38 = .ok (.getfield 9, 3) := by decide +kernel
theorem dX1_become_41 : decode cX1_become 41 = .ok (.iconst 0, 1) := by decide +kernel
theorem dX1_become_42 : decode cX1_become 42 = .ok (.aload_n 0, 1) := by decide +kernel
theorem dX1_become_43 : decode cX1_become 43 = .ok (.getfield 13, 3) := by decide +kernel
theorem dX1_become_46 : decode cX1_become 46 = .ok (.invokestatic 31, 3) := by decide +kernel
theorem dX1_become_49 : decode cX1_become 49 = .ok (.return_, 1) := by decide +kernel
set_option maxRecDepth 20000 in
theorem ggX1_reach_J7_copyOf_59c91 : GoodIn wsX1_reach wsJ7_copyOf_59c91 := goodIn_r _ [9, 10, 11, 12, 13, 14, 15, 16, 17, 18, 4, 19, 20, 21, 22, 23] (by decide +kernel) (by decide +kernel)
set_option maxRecDepth 20000 in
theorem gX1_reach_J7_copyOf_59c91 : GoodIn wsX1_reach (va_wsS RX1 40 yJ7_copyOf_59c91 wsJ7_copyOf_59c91) := goodIn_app (goodIn_of _ (by decide +kernel)) ggX1_reach_J7_copyOf_59c91
theorem dX1_reach_0 : decode cX1_reach 0 = .ok (.iload_n 1, 1) := by decide +kernel
theorem dX1_reach_1 : decode cX1_reach 1 = .ok (.aload_n 0, 1) := by decide +kernel
theorem dX1_reach_2 : decode cX1_reach 2 = .ok (.getfield 9, 3) := by decide +kernel
theorem dX1_reach_5 : decode cX1_reach 5 = .ok (.arraylength, 1) := by decide +kernel
theorem dX1_reach_6 : decode cX1_reach 6 = .ok (.if_icmp .le 25, 3) := by decide +kernel
theorem dX1_reach_9 : decode cX1_reach 9 = .ok (.aload_n 0, 1) := by decide +kernel
theorem dX1_reach_10 : decode cX1_reach 10 = .ok (.aload_n 0, 1) := by decide +kernel
theorem dX1_reach_11 : decode cX1_reach 11 = .ok (.getfield 9, 3) := by decide +kernel
theorem dX1_reach_14 : decode cX1_reach 14 = .ok (.iload_n 1, 1) := by decide +kernel
theorem dX1_reach_15 : decode cX1_reach 15 = .ok (.iconst 2, 1) := by decide +kernel
theorem dX1_reach_16 : decode cX1_reach 16 = .ok (.aload_n 0, 1) := by decide +kernel
theorem dX1_reach_17 : decode cX1_reach 17 = .ok (.getfield 9, 3) := by decide +kernel
theorem dX1_reach_20 : decode cX1_reach 20 = .ok (.arraylength, 1) := by decide +kernel
theorem dX1_reach_21 : decode cX1_reach 21 = .ok (.imul, 1) := by decide +kernel
theorem dX1_reach_22 : decode cX1_reach 22 = .ok (.invokestatic 37, 3) := by decide +kernel
theorem dX1_reach_25 : decode cX1_reach 25 = .ok (.invokestatic 40, 3) := by decide +kernel
theorem dX1_reach_28 : decode cX1_reach 28 = .ok (.putfield 9, 3) := by decide +kernel
theorem dX1_reach_31 : decode cX1_reach 31 = .ok (.return_, 1) := by decide +kernel
set_option maxRecDepth 20000 in
theorem ggX2_init_X1_init : GoodIn wsX2_init wsX1_init := goodIn_r _ [19, 20, 2, 3, 21, 22, 82, 83] (by decide +kernel) (by decide +kernel)
set_option maxRecDepth 20000 in
theorem gX2_init_X1_init_n11 : GoodIn wsX2_init (wsX1_init) := ggX2_init_X1_init
set_option maxRecDepth 20000 in
theorem ggX2_init_X0_init : GoodIn wsX2_init wsX0_init := goodIn_r _ [24, 25, 2, 3, 26, 5, 6, 27, 28, 29, 30, 31, 32, 18, 19, 20, 21, 22, 82, 83, 94, 95, 96, 97, 98, 99, 100] (by decide +kernel) (by decide +kernel)
set_option maxRecDepth 20000 in
theorem gX2_init_X0_init_n33 : GoodIn wsX2_init (wsX0_init) := ggX2_init_X0_init
set_option maxRecDepth 20000 in
theorem ggX2_init_X2_addObject : GoodIn wsX2_init wsX2_addObject := goodIn_r _ [37, 38, 7, 8, 9, 10, 11, 16, 39, 40, 41, 42, 6, 43, 44, 45, 46, 47, 48, 22, 49, 50, 51, 52, 53, 54, 55, 56, 57, 58, 59, 60, 61, 62, 21, 63, 64, 65, 66, 67, 68, 69, 70, 71, 72, 73, 74, 75, 36, 76, 77, 78, 79, 15, 80, 27, 28, 29, 30, 31, 81, 84, 85, 86, 87, 88, 89, 90, 91, 92, 93, 94, 95, 96, 97, 98, 99, 100, 82, 83] (by decide +kernel) (by decide +kernel)
set_option maxRecDepth 20000 in
theorem gX2_init_X2_addObject : GoodIn wsX2_init (wsV RX2 42 RX2 yX2_addObject wsX2_addObject) := goodIn_app (goodIn_of _ (by decide +kernel)) ggX2_init_X2_addObject
theorem dX2_init_0 : decode cX2_init 0 = .ok (.aload_n 0, 1) := by decide +kernel
theorem dX2_init_1 : decode cX2_init 1 = .ok (.invokespecial 3, 3) := by decide +kernel
theorem dX2_init_4 : decode cX2_init 4 = .ok (.aload_n 0, 1) := by decide +kernel
theorem dX2_init_5 : decode cX2_init 5 = .ok (.new 9, 3) := by decide +kernel
theorem dX2_init_8 : decode cX2_init 8 = .ok (.dup, 1) := by decide +kernel
theorem dX2_init_9 : decode cX2_init 9 = .ok (.invokespecial 11, 3) := by decide +kernel
theorem dX2_init_12 : decode cX2_init 12 = .ok (.putfield 12, 3) := by decide +kernel
theorem dX2_init_15 : decode cX2_init 15 = .ok (.aload_n 0, 1) := by decide +kernel
theorem dX2_init_16 : decode cX2_init 16 = .ok (.new 9, 3) := by decide +kernel
theorem dX2_init_19 : decode cX2_init 19 = .ok (.dup, 1) := by decide +kernel
theorem dX2_init_20 : decode cX2_init 20 = .ok (.invokespecial 11, 3) := by decide +kernel
theorem dX2_init_23 : decode cX2_init 23 = .ok (.putfield 16, 3) := by decide +kernel
theorem dX2_init_26 : decode cX2_init 26 = .ok (.aload_n 0, 1) := by decide +kernel
theorem dX2_init_27 : decode cX2_init 27 = .ok (.new 9, 3) := by decide +kernel
theorem dX2_init_30 : decode cX2_init 30 = .ok (.dup, 1) := by decide +kernel
theorem dX2_init_31 : decode cX2_init 31 = .ok (.invokespecial 11, 3) := by decide +kernel
theorem dX2_init_34 : decode cX2_init 34 = .ok (.putfield 19, 3) := by decide +kernel
theorem dX2_init_37 : decode cX2_init 37 = .ok (.aload_n 0, 1) := by decide +kernel
theorem dX2_init_38 : decode cX2_init 38 = .ok (.new 9, 3) := by decide +kernel
theorem dX2_init_41 : decode cX2_init 41 = .ok (.dup, 1) := by decide +kernel
theorem dX2_init_42 : decode cX2_init 42 = .ok (.invokespecial 11, 3) := by decide +kernel
theorem dX2_init_45 : decode cX2_init 45 = .ok (.putfield 22, 3) := by decide +kernel
theorem dX2_init_48 : decode cX2_init 48 = .ok (.aload_n 0, 1) := by decide +kernel
theorem dX2_init_49 : decode cX2_init 49 = .ok (.new 9, 3) := by decide +kernel
theorem dX2_init_52 : decode cX2_init 52 = .ok (.dup, 1) := by decide +kernel
theorem dX2_init_53 : decode cX2_init 53 = .ok (.invokespecial 11, 3) := by decide +kernel
theorem dX2_init_56 : decode cX2_init 56 = .ok (.putfield 25, 3) := by decide +kernel
theorem dX2_init_59 : decode cX2_init 59 = .ok (.aload_n 0, 1) := by decide +kernel
theorem dX2_init_60 : decode cX2_init 60 = .ok (.new 9, 3) := by decide +kernel
theorem dX2_init_63 : decode cX2_init 63 = .ok (.dup, 1) := by decide +kernel
theorem dX2_init_64 : decode cX2_init 64 = .ok (.invokespecial 11, 3) := by decide +kernel
theorem dX2_init_67 : decode cX2_init 67 = .ok (.putfield 28, 3) := by decide +kernel
theorem dX2_init_70 : decode cX2_init 70 = .ok (.aload_n 0, 1) := by decide +kernel
theorem dX2_init_71 : decode cX2_init 71 = .ok (.new 31, 3) := by decide +kernel
theorem dX2_init_74 : decode cX2_init 74 = .ok (.dup, 1) := by decide +kernel
theorem dX2_init_75 : decode cX2_init 75 = .ok (.invokespecial 33, 3) := by decide +kernel
theorem dX2_init_78 : decode cX2_init 78 = .ok (.putfield 34, 3) := by decide +kernel
theorem dX2_init_81 : decode cX2_init 81 = .ok (.aload_n 0, 1) := by decide +kernel
theorem dX2_init_82 : decode cX2_init 82 = .ok (.iconst 3, 1) := by decide +kernel
theorem dX2_init_83 : decode cX2_init 83 = .ok (.anewarray 31, 3) := by decide +kernel
theorem dX2_init_86 : decode cX2_init 86 = .ok (.putfield 38, 3) := by decide +kernel
theorem dX2_init_89 : decode cX2_init 89 = .ok (.aload_n 0, 1) := by decide +kernel
theorem dX2_init_90 : decode cX2_init 90 = .ok (.iconst 0, 1) := by decide +kernel
theorem dX2_init_91 : decode cX2_init 91 = .ok (.iconst 0, 1) := by decide +kernel
theorem dX2_init_92 : decode cX2_init 92 = .ok (.iconst 0, 1) := by decide +kernel
theorem dX2_init_93 : decode cX2_init 93 = .ok (.iconst 0, 1) := by decide +kernel
theorem dX2_init_94 : decode cX2_init 94 = .ok (.invokevirtual 42, 3) := by decide +kernel
theorem dX2_init_97 : decode cX2_init 97 = .ok (.pop, 1) := by decide +kernel
theorem dX2_init_98 : decode cX2_init 98 = .ok (.return_, 1) := by decide +kernel
set_option maxRecDepth 20000 in
theorem ggX2_make_X2_sizeFits : GoodIn wsX2_make wsX2_sizeFits := goodIn_r _ [11, 1, 12, 13, 14, 15, 16, 17, 10, 18, 126, 127, 128, 129, 130, 131, 132, 133, 134, 135] (by decide +kernel) (by decide +kernel)
set_option maxRecDepth 20000 in
theorem gX2_make_X2_sizeFits : GoodIn wsX2_make (wsV RX2 46 RX2 yX2_sizeFits wsX2_sizeFits) := goodIn_app (goodIn_of _ (by decide +kernel)) ggX2_make_X2_sizeFits
set_option maxRecDepth 20000 in
theorem ggX2_make_X2_placeStorage : GoodIn wsX2_make wsX2_placeStorage := goodIn_r _ [21] (by decide +kernel) (by decide +kernel)
set_option maxRecDepth 20000 in
theorem gX2_make_X2_placeStorage : GoodIn wsX2_make (va_wsS RX2 60 yX2_placeStorage wsX2_placeStorage) := goodIn_app (goodIn_of _ (by decide +kernel)) ggX2_make_X2_placeStorage
set_option maxRecDepth 20000 in
theorem ggX2_make_X1_addZeros : GoodIn wsX2_make wsX1_addZeros := goodIn_r _ [26, 27, 28, 29, 30, 25, 31, 32, 33, 34, 14, 35, 36, 37, 38, 39, 40, 41, 42, 43, 44, 45, 46, 47, 13, 15, 48, 49, 50, 51, 52, 53, 54, 55, 143, 144] (by decide +kernel) (by decide +kernel)
set_option maxRecDepth 20000 in
theorem gX2_make_X1_addZeros : GoodIn wsX2_make (wsV RX2 64 RX1 yX1_addZeros wsX1_addZeros) := goodIn_app (goodIn_of _ (by decide +kernel)) ggX2_make_X1_addZeros
set_option maxRecDepth 20000 in
theorem ggX2_make_X2_addObject : GoodIn wsX2_make wsX2_addObject := goodIn_r _ [59, 1, 60, 61, 62, 63, 64, 3, 4, 65, 66, 67, 25, 68, 27, 28, 29, 30, 31, 32, 33, 34, 14, 35, 36, 37, 38, 39, 40, 41, 42, 43, 44, 45, 46, 47, 13, 15, 48, 49, 50, 51, 52, 53, 54, 55, 69, 70, 10, 71, 72, 73, 74, 75, 76, 77, 78, 79, 80, 81, 82, 126, 127, 128, 129, 130, 131, 132, 133, 134, 135, 136, 137, 138, 139, 140, 141, 142, 143, 144] (by decide +kernel) (by decide +kernel)
set_option maxRecDepth 20000 in
theorem gX2_make_X2_addObject : GoodIn wsX2_make (wsV RX2 42 RX2 yX2_addObject wsX2_addObject) := goodIn_app (goodIn_of _ (by decide +kernel)) ggX2_make_X2_addObject
set_option maxRecDepth 20000 in
theorem ggX2_make_X2_makePacked : GoodIn wsX2_make wsX2_makePacked := goodIn_r _ [86, 1, 3, 6, 22, 23, 24, 25, 26, 27, 28, 29, 30, 31, 32, 33, 34, 14, 35, 36, 37, 38, 39, 40, 41, 42, 43, 44, 45, 46, 47, 13, 15, 48, 49, 50, 51, 52, 53, 54, 55, 87, 56, 57, 58, 10, 59, 60, 61, 62, 63, 64, 4, 65, 66, 67, 68, 69, 70, 71, 72, 73, 74, 75, 76, 77, 78, 79, 80, 81, 82, 126, 127, 128, 129, 130, 131, 132, 133, 134, 135, 136, 137, 138, 139, 140, 141, 142, 143, 144] (by decide +kernel) (by decide +kernel)
set_option maxRecDepth 20000 in
theorem gX2_make_X2_makePacked : GoodIn wsX2_make (wsV RX2 70 RX2 yX2_makePacked wsX2_makePacked) := goodIn_app (goodIn_of _ (by decide +kernel)) ggX2_make_X2_makePacked
set_option maxRecDepth 20000 in
theorem ggX2_make_X2_makeDictionary : GoodIn wsX2_make wsX2_makeDictionary := goodIn_r _ [91, 3, 6, 92, 22, 23, 24, 25, 26, 27, 28, 29, 30, 31, 32, 33, 34, 14, 35, 36, 37, 38, 39, 40, 41, 42, 43, 44, 45, 46, 47, 13, 15, 48, 49, 50, 51, 52, 53, 54, 55, 56, 57, 58, 10, 59, 1, 60, 61, 62, 63, 64, 4, 65, 66, 67, 68, 69, 70, 71, 72, 73, 74, 75, 76, 77, 78, 79, 80, 81, 82, 87, 126, 127, 128, 129, 130, 131, 132, 133, 134, 135, 136, 137, 138, 139, 140, 141, 142, 143, 144] (by decide +kernel) (by decide +kernel)
set_option maxRecDepth 20000 in
theorem gX2_make_X2_makeDictionary : GoodIn wsX2_make (wsV RX2 73 RX2 yX2_makeDictionary wsX2_makeDictionary) := goodIn_app (goodIn_of _ (by decide +kernel)) ggX2_make_X2_makeDictionary
set_option maxRecDepth 20000 in
theorem ggX2_make_X2_makeSave : GoodIn wsX2_make wsX2_makeSave := goodIn_r _ [96, 2, 97, 98, 99, 75, 3, 5, 100, 101, 102, 103, 104, 105, 106, 25, 77, 78, 79, 80, 81, 107, 108, 109, 110, 46, 32, 111, 112, 113, 114, 115, 116, 117, 118, 119, 27, 120, 13, 14, 15, 121, 49, 50, 51, 28, 29, 30, 31, 33, 34, 35, 36, 37, 38, 39, 40, 41, 42, 43, 44, 45, 47, 48, 122, 123, 124, 125, 56, 57, 58, 10, 59, 1, 60, 61, 62, 63, 64, 4, 65, 66, 67, 68, 52, 53, 54, 55, 69, 70, 71, 72, 73, 74, 76, 82, 126, 127, 128, 129, 130, 131, 132, 133, 134, 135, 136, 137, 138, 139, 140, 141, 142, 143, 144] (by decide +kernel) (by decide +kernel)
set_option maxRecDepth 20000 in
theorem gX2_make_X2_makeSave : GoodIn wsX2_make (wsV RX2 76 RX2 yX2_makeSave wsX2_makeSave) := goodIn_app (goodIn_of _ (by decide +kernel)) ggX2_make_X2_makeSave
theorem dX2_make_0 : decode cX2_make 0 = .ok (.iload_n 1, 1) := by decide +kernel
theorem dX2_make_1 : decode cX2_make 1 = .ok (.ifCond .lt 9, 3) := by decide +kernel
theorem dX2_make_4 : decode cX2_make 4 = .ok (.iload_n 1, 1) := by decide +kernel
theorem dX2_make_5 : decode cX2_make 5 = .ok (.bipush 11, 2) := by decide +kernel
theorem dX2_make_7 : decode cX2_make 7 = .ok (.if_icmp .le 5, 3) := by decide +kernel
theorem dX2_make_10 : decode cX2_make 10 = .ok (.iconst (-1), 1) := by decide +kernel
theorem dX2_make_11 : decode cX2_make 11 = .ok (.ireturn, 1) := by decide +kernel
theorem dX2_make_12 : decode cX2_make 12 = .ok (.aload_n 0, 1) := by decide +kernel
theorem dX2_make_13 : decode cX2_make 13 = .ok (.iload_n 1, 1) := by decide +kernel
theorem dX2_make_14 : decode cX2_make 14 = .ok (.iload_n 2, 1) := by decide +kernel
theorem dX2_make_15 : decode cX2_make 15 = .ok (.invokevirtual 46, 3) := by decide +kernel
theorem dX2_make_18 : decode cX2_make 18 = .ok (.ifCond .ne 6, 3) := by decide +kernel
theorem dX2_make_21 : decode cX2_make 21 = .ok (.bipush (-2), 2) := by decide +kernel
theorem dX2_make_23 : decode cX2_make 23 = .ok (.ireturn, 1) := by decide +kernel
theorem dX2_make_24 : decode cX2_make 24 = .ok (.aload_n 0, 1) := by decide +kernel
theorem dX2_make_25 : decode cX2_make 25 = .ok (.getfield 50, 3) := by decide +kernel
theorem dX2_make_28 : decode cX2_make 28 = .ok (.bipush 100, 2) := by decide +kernel
theorem dX2_make_30 : decode cX2_make 30 = .ok (.if_icmp .ge 17, 3) := by decide +kernel
theorem dX2_make_33 : decode cX2_make 33 = .ok (.iload_n 1, 1) := by decide +kernel
theorem dX2_make_34 : decode cX2_make 34 = .ok (.bipush 11, 2) := by decide +kernel
theorem dX2_make_36 : decode cX2_make 36 = .ok (.if_icmp .ne 14, 3) := by decide +kernel
theorem dX2_make_39 : decode cX2_make 39 = .ok (.aload_n 0, 1) := by decide +kernel
theorem dX2_make_40 : decode cX2_make 40 = .ok (.getfield 54, 3) := by decide +kernel
theorem dX2_make_43 : decode cX2_make 43 = .ok (.iconst 3, 1) := by decide +kernel
theorem dX2_make_44 : decode cX2_make 44 = .ok (.if_icmp .lt 6, 3) := by decide +kernel
theorem dX2_make_47 : decode cX2_make 47 = .ok (.bipush (-4), 2) := by decide +kernel
theorem dX2_make_49 : decode cX2_make 49 = .ok (.ireturn, 1) := by decide +kernel
theorem dX2_make_50 : decode cX2_make 50 = .ok (.aload_n 0, 1) := by decide +kernel
theorem dX2_make_51 : decode cX2_make 51 = .ok (.getfield 34, 3) := by decide +kernel
theorem dX2_make_54 : decode cX2_make 54 = .ok (.dup, 1) := by decide +kernel
theorem dX2_make_55 : decode cX2_make 55 = .ok (.getfield 57, 3) := by decide +kernel
theorem dX2_make_58 : decode cX2_make 58 = .ok (.iload_n 2, 1) := by decide +kernel
theorem dX2_make_59 : decode cX2_make 59 = .ok (.iload_n 1, 1) := by decide +kernel
theorem dX2_make_60 : decode cX2_make 60 = .ok (.invokestatic 60, 3) := by decide +kernel
theorem dX2_make_63 : decode cX2_make 63 = .ok (.imul, 1) := by decide +kernel
theorem dX2_make_64 : decode cX2_make 64 = .ok (.iadd, 1) := by decide +kernel
theorem dX2_make_65 : decode cX2_make 65 = .ok (.putfield 57, 3) := by decide +kernel
theorem dX2_make_68 : decode cX2_make 68 = .ok (.iload_n 1, 1) := by decide +kernel
theorem dX2_make_69 : decode cX2_make 69 = .ok (.tableswitch 99 4 11 #[47, 63, 82, 88, 99, 99, 99, 94], 47) := by decide +kernel
theorem dX2_make_116 : decode cX2_make 116 = .ok (.aload_n 0, 1) := by decide +kernel
theorem dX2_make_117 : decode cX2_make 117 = .ok (.iload_n 1, 1) := by decide +kernel
theorem dX2_make_118 : decode cX2_make 118 = .ok (.iconst 0, 1) := by decide +kernel
theorem dX2_make_119 : decode cX2_make 119 = .ok (.aload_n 0, 1) := by decide +kernel
theorem dX2_make_120 : decode cX2_make 120 = .ok (.getfield 28, 3) := by decide +kernel
theorem dX2_make_123 : decode cX2_make 123 = .ok (.iload_n 2, 1) := by decide +kernel
theorem dX2_make_124 : decode cX2_make 124 = .ok (.invokevirtual 64, 3) := by decide +kernel
theorem dX2_make_127 : decode cX2_make 127 = .ok (.iload_n 2, 1) := by decide +kernel
theorem dX2_make_128 : decode cX2_make 128 = .ok (.invokevirtual 42, 3) := by decide +kernel
theorem dX2_make_131 : decode cX2_make 131 = .ok (.ireturn, 1) := by decide +kernel
theorem dX2_make_132 : decode cX2_make 132 = .ok (.aload_n 0, 1) := by decide +kernel
theorem dX2_make_133 : decode cX2_make 133 = .ok (.iload_n 1, 1) := by decide +kernel
theorem dX2_make_134 : decode cX2_make 134 = .ok (.iconst 0, 1) := by decide +kernel
theorem dX2_make_135 : decode cX2_make 135 = .ok (.aload_n 0, 1) := by decide +kernel
theorem dX2_make_136 : decode cX2_make 136 = .ok (.getfield 34, 3) := by decide +kernel
theorem dX2_make_139 : decode cX2_make 139 = .ok (.getfield 67, 3) := by decide +kernel
theorem dX2_make_142 : decode cX2_make 142 = .ok (.iload_n 2, 1) := by decide +kernel
theorem dX2_make_143 : decode cX2_make 143 = .ok (.invokevirtual 64, 3) := by decide +kernel
theorem dX2_make_146 : decode cX2_make 146 = .ok (.iload_n 2, 1) := by decide +kernel
theorem dX2_make_147 : decode cX2_make 147 = .ok (.invokevirtual 42, 3) := by decide +kernel
theorem dX2_make_150 : decode cX2_make 150 = .ok (.ireturn, 1) := by decide +kernel
theorem dX2_make_151 : decode cX2_make 151 = .ok (.aload_n 0, 1) := by decide +kernel
theorem dX2_make_152 : decode cX2_make 152 = .ok (.iload_n 2, 1) := by decide +kernel
theorem dX2_make_153 : decode cX2_make 153 = .ok (.invokevirtual 70, 3) := by decide +kernel
theorem dX2_make_156 : decode cX2_make 156 = .ok (.ireturn, 1) := by decide +kernel
theorem dX2_make_157 : decode cX2_make 157 = .ok (.aload_n 0, 1) := by decide +kernel
theorem dX2_make_158 : decode cX2_make 158 = .ok (.iload_n 2, 1) := by decide +kernel
theorem dX2_make_159 : decode cX2_make 159 = .ok (.invokevirtual 73, 3) := by decide +kernel
theorem dX2_make_162 : decode cX2_make 162 = .ok (.ireturn, 1) := by decide +kernel
theorem dX2_make_163 : decode cX2_make 163 = .ok (.aload_n 0, 1) := by decide +kernel
theorem dX2_make_164 : decode cX2_make 164 = .ok (.invokevirtual 76, 3) := by decide +kernel
theorem dX2_make_167 : decode cX2_make 167 = .ok (.ireturn, 1) := by decide +kernel
theorem dX2_make_168 : decode cX2_make 168 = .ok (.aload_n 0, 1) := by decide +kernel
theorem dX2_make_169 : decode cX2_make 169 = .ok (.iload_n 1, 1) := by decide +kernel
theorem dX2_make_170 : decode cX2_make 170 = .ok (.iload_n 2, 1) := by decide +kernel
theorem dX2_make_171 : decode cX2_make 171 = .ok (.iconst 0, 1) := by decide +kernel
theorem dX2_make_172 : decode cX2_make 172 = .ok (.iconst 0, 1) := by decide +kernel
theorem dX2_make_173 : decode cX2_make 173 = .ok (.invokevirtual 42, 3) := by decide +kernel
theorem dX2_make_176 : decode cX2_make 176 = .ok (.ireturn, 1) := by decide +kernel
set_option maxRecDepth 20000 in
theorem ggX2_put_X2_known : GoodIn wsX2_put wsX2_known := goodIn_r _ [7, 8, 44, 45, 46, 47, 48, 49, 50, 51, 52, 53] (by decide +kernel) (by decide +kernel)
set_option maxRecDepth 20000 in
theorem gX2_put_X2_known : GoodIn wsX2_put (wsV RX2 80 RX2 yX2_known wsX2_known) := goodIn_app (goodIn_of _ (by decide +kernel)) ggX2_put_X2_known
set_option maxRecDepth 20000 in
theorem ggX2_put_X1_at : GoodIn wsX2_put wsX1_at := goodIn_r _ [13, 14, 54, 55] (by decide +kernel) (by decide +kernel)
set_option maxRecDepth 20000 in
theorem gX2_put_X1_at : GoodIn wsX2_put (wsV RX2 84 RX1 yX1_at wsX1_at) := goodIn_app (goodIn_of _ (by decide +kernel)) ggX2_put_X1_at
set_option maxRecDepth 20000 in
theorem ggX2_put_X2_hasElement : GoodIn wsX2_put wsX2_hasElement := goodIn_r _ [18, 19, 9, 10, 11, 12, 13, 14, 44, 45, 46, 47, 48, 49, 50, 51, 52, 53, 54, 55] (by decide +kernel) (by decide +kernel)
set_option maxRecDepth 20000 in
theorem gX2_put_X2_hasElement : GoodIn wsX2_put (wsV RX2 87 RX2 yX2_hasElement wsX2_hasElement) := goodIn_app (goodIn_of _ (by decide +kernel)) ggX2_put_X2_hasElement
set_option maxRecDepth 20000 in
theorem ggX2_put_X2_within : GoodIn wsX2_put wsX2_within := goodIn_r _ [22] (by decide +kernel) (by decide +kernel)
set_option maxRecDepth 20000 in
theorem gX2_put_X2_within : GoodIn wsX2_put (va_wsS RX2 90 yX2_within wsX2_within) := goodIn_app (goodIn_of _ (by decide +kernel)) ggX2_put_X2_within
set_option maxRecDepth 20000 in
theorem ggX2_put_X2_accessOf : GoodIn wsX2_put wsX2_accessOf := goodIn_r _ [26, 27, 28, 29, 30, 31, 6, 32, 1, 33, 9, 10, 11, 12, 13, 14, 44, 45, 46, 47, 48, 49, 50, 51, 52, 53, 56, 57, 58, 59, 60, 61, 62, 54, 55] (by decide +kernel) (by decide +kernel)
set_option maxRecDepth 20000 in
theorem gX2_put_X2_accessOf : GoodIn wsX2_put (wsV RX2 93 RX2 yX2_accessOf wsX2_accessOf) := goodIn_app (goodIn_of _ (by decide +kernel)) ggX2_put_X2_accessOf
set_option maxRecDepth 20000 in
theorem ggX2_put_X2_storeRow : GoodIn wsX2_put wsX2_storeRow := goodIn_r _ [37, 38, 27, 39, 44, 45, 46, 47, 48, 49, 50, 51, 52, 53, 56, 57, 58, 59, 60, 61, 62] (by decide +kernel) (by decide +kernel)
set_option maxRecDepth 20000 in
theorem gX2_put_X2_storeRow : GoodIn wsX2_put (wsV RX2 96 RX2 yX2_storeRow wsX2_storeRow) := goodIn_app (goodIn_of _ (by decide +kernel)) ggX2_put_X2_storeRow
set_option maxRecDepth 20000 in
theorem ggX2_put_X1_set : GoodIn wsX2_put wsX1_set := goodIn_r _ [43, 14, 54, 55] (by decide +kernel) (by decide +kernel)
set_option maxRecDepth 20000 in
theorem gX2_put_X1_set : GoodIn wsX2_put (wsV RX2 100 RX1 yX1_set wsX1_set) := goodIn_app (goodIn_of _ (by decide +kernel)) ggX2_put_X1_set
theorem dX2_put_0 : decode cX2_put 0 = .ok (.aload_n 0, 1) := by decide +kernel
theorem dX2_put_1 : decode cX2_put 1 = .ok (.iload_n 1, 1) := by decide +kernel
theorem dX2_put_2 : decode cX2_put 2 = .ok (.invokevirtual 80, 3) := by decide +kernel
theorem dX2_put_5 : decode cX2_put 5 = .ok (.ifCond .ne 5, 3) := by decide +kernel
theorem dX2_put_8 : decode cX2_put 8 = .ok (.iconst (-1), 1) := by decide +kernel
theorem dX2_put_9 : decode cX2_put 9 = .ok (.ireturn, 1) := by decide +kernel
theorem dX2_put_10 : decode cX2_put 10 = .ok (.aload_n 0, 1) := by decide +kernel
theorem dX2_put_11 : decode cX2_put 11 = .ok (.getfield 12, 3) := by decide +kernel
theorem dX2_put_14 : decode cX2_put 14 = .ok (.iload_n 1, 1) := by decide +kernel
theorem dX2_put_15 : decode cX2_put 15 = .ok (.invokevirtual 84, 3) := by decide +kernel
theorem dX2_put_18 : decode cX2_put 18 = .ok (.istore 4, 2) := by decide +kernel
theorem dX2_put_20 : decode cX2_put 20 = .ok (.iload 4, 2) := by decide +kernel
theorem dX2_put_22 : decode cX2_put 22 = .ok (.iconst 4, 1) := by decide +kernel
theorem dX2_put_23 : decode cX2_put 23 = .ok (.if_icmp .eq 12, 3) := by decide +kernel
theorem dX2_put_26 : decode cX2_put 26 = .ok (.iload 4, 2) := by decide +kernel
theorem dX2_put_28 : decode cX2_put 28 = .ok (.iconst 5, 1) := by decide +kernel
theorem dX2_put_29 : decode cX2_put 29 = .ok (.if_icmp .eq 6, 3) := by decide +kernel
theorem dX2_put_32 : decode cX2_put 32 = .ok (.bipush (-3), 2) := by decide +kernel
theorem dX2_put_34 : decode cX2_put 34 = .ok (.ireturn, 1) := by decide +kernel
theorem dX2_put_35 : decode cX2_put 35 = .ok (.iload 4, 2) := by decide +kernel
theorem dX2_put_37 : decode cX2_put 37 = .ok (.iconst 5, 1) := by decide +kernel
theorem dX2_put_38 : decode cX2_put 38 = .ok (.if_icmp .ne 13, 3) := by decide +kernel
theorem dX2_put_41 : decode cX2_put 41 = .ok (.aload_n 0, 1) := by decide +kernel
theorem dX2_put_42 : decode cX2_put 42 = .ok (.iload_n 3, 1) := by decide +kernel
theorem dX2_put_43 : decode cX2_put 43 = .ok (.invokevirtual 80, 3) := by decide +kernel
theorem dX2_put_46 : decode cX2_put 46 = .ok (.ifCond .ne 5, 3) := by decide +kernel
theorem dX2_put_49 : decode cX2_put 49 = .ok (.iconst (-1), 1) := by decide +kernel
theorem dX2_put_50 : decode cX2_put 50 = .ok (.ireturn, 1) := by decide +kernel
theorem dX2_put_51 : decode cX2_put 51 = .ok (.aload_n 0, 1) := by decide +kernel
theorem dX2_put_52 : decode cX2_put 52 = .ok (.iload_n 1, 1) := by decide +kernel
theorem dX2_put_53 : decode cX2_put 53 = .ok (.iload_n 2, 1) := by decide +kernel
theorem dX2_put_54 : decode cX2_put 54 = .ok (.invokevirtual 87, 3) := by decide +kernel
theorem dX2_put_57 : decode cX2_put 57 = .ok (.ifCond .eq 19, 3) := by decide +kernel
theorem dX2_put_60 : decode cX2_put 60 = .ok (.iload 4, 2) := by decide +kernel
theorem dX2_put_62 : decode cX2_put 62 = .ok (.iconst 4, 1) := by decide +kernel
theorem dX2_put_63 : decode cX2_put 63 = .ok (.if_icmp .ne 16, 3) := by decide +kernel
theorem dX2_put_66 : decode cX2_put 66 = .ok (.iload_n 3, 1) := by decide +kernel
theorem dX2_put_67 : decode cX2_put 67 = .ok (.sipush 255, 3) := by decide +kernel
theorem dX2_put_70 : decode cX2_put 70 = .ok (.invokestatic 90, 3) := by decide +kernel
theorem dX2_put_73 : decode cX2_put 73 = .ok (.ifCond .ne 6, 3) := by decide +kernel
theorem dX2_put_76 : decode cX2_put 76 = .ok (.bipush (-2), 2) := by decide +kernel
theorem dX2_put_78 : decode cX2_put 78 = .ok (.ireturn, 1) := by decide +kernel
theorem dX2_put_79 : decode cX2_put 79 = .ok (.aload_n 0, 1) := by decide +kernel
theorem dX2_put_80 : decode cX2_put 80 = .ok (.iload_n 1, 1) := by decide +kernel
theorem dX2_put_81 : decode cX2_put 81 = .ok (.invokevirtual 93, 3) := by decide +kernel
theorem dX2_put_84 : decode cX2_put 84 = .ok (.iconst 3, 1) := by decide +kernel
theorem dX2_put_85 : decode cX2_put 85 = .ok (.if_icmp .eq 6, 3) := by decide +kernel
theorem dX2_put_88 : decode cX2_put 88 = .ok (.bipush (-3), 2) := by decide +kernel
theorem dX2_put_90 : decode cX2_put 90 = .ok (.ireturn, 1) := by decide +kernel
theorem dX2_put_91 : decode cX2_put 91 = .ok (.aload_n 0, 1) := by decide +kernel
theorem dX2_put_92 : decode cX2_put 92 = .ok (.iload 4, 2) := by decide +kernel
theorem dX2_put_94 : decode cX2_put 94 = .ok (.invokevirtual 96, 3) := by decide +kernel
theorem dX2_put_97 : decode cX2_put 97 = .ok (.aload_n 0, 1) := by decide +kernel
theorem dX2_put_98 : decode cX2_put 98 = .ok (.getfield 22, 3) := by decide +kernel
theorem dX2_put_101 : decode cX2_put 101 = .ok (.iload_n 1, 1) := by decide +kernel
theorem dX2_put_102 : decode cX2_put 102 = .ok (.invokevirtual 84, 3) := by decide +kernel
theorem dX2_put_105 : decode cX2_put 105 = .ok (.iload_n 2, 1) := by decide +kernel
theorem dX2_put_106 : decode cX2_put 106 = .ok (.iadd, 1) := by decide +kernel
theorem dX2_put_107 : decode cX2_put 107 = .ok (.iload_n 3, 1) := by decide +kernel
theorem dX2_put_108 : decode cX2_put 108 = .ok (.invokevirtual 100, 3) := by decide +kernel
theorem dX2_put_111 : decode cX2_put 111 = .ok (.iconst 1, 1) := by decide +kernel
theorem dX2_put_112 : decode cX2_put 112 = .ok (.ireturn, 1) := by decide +kernel
set_option maxRecDepth 20000 in
theorem ggX2_get_X2_known : GoodIn wsX2_get wsX2_known := goodIn_r _ [9, 10, 50, 51, 52, 53, 54, 55, 56, 57, 58, 59] (by decide +kernel) (by decide +kernel)
set_option maxRecDepth 20000 in
theorem gX2_get_X2_known : GoodIn wsX2_get (wsV RX2 80 RX2 yX2_known wsX2_known) := goodIn_app (goodIn_of _ (by decide +kernel)) ggX2_get_X2_known
set_option maxRecDepth 20000 in
theorem ggX2_get_X1_at : GoodIn wsX2_get wsX1_at := goodIn_r _ [15, 16, 66, 67] (by decide +kernel) (by decide +kernel)
set_option maxRecDepth 20000 in
theorem gX2_get_X1_at : GoodIn wsX2_get (wsV RX2 84 RX1 yX1_at wsX1_at) := goodIn_app (goodIn_of _ (by decide +kernel)) ggX2_get_X1_at
set_option maxRecDepth 20000 in
theorem ggX2_get_X2_isView : GoodIn wsX2_get wsX2_isView := goodIn_r _ [19, 20, 21, 8, 22] (by decide +kernel) (by decide +kernel)
set_option maxRecDepth 20000 in
theorem gX2_get_X2_isView : GoodIn wsX2_get (va_wsS RX2 104 yX2_isView wsX2_isView) := goodIn_app (goodIn_of _ (by decide +kernel)) ggX2_get_X2_isView
set_option maxRecDepth 20000 in
theorem ggX2_get_X2_accessOf : GoodIn wsX2_get wsX2_accessOf := goodIn_r _ [26, 27, 28, 29, 30, 31, 8, 32, 1, 33, 11, 12, 13, 14, 15, 16, 50, 51, 52, 53, 54, 55, 56, 57, 58, 59, 68, 69, 70, 71, 72, 73, 74, 66, 67] (by decide +kernel) (by decide +kernel)
set_option maxRecDepth 20000 in
theorem gX2_get_X2_accessOf : GoodIn wsX2_get (wsV RX2 93 RX2 yX2_accessOf wsX2_accessOf) := goodIn_app (goodIn_of _ (by decide +kernel)) ggX2_get_X2_accessOf
set_option maxRecDepth 20000 in
theorem ggX2_get_X2_hasElement : GoodIn wsX2_get wsX2_hasElement := goodIn_r _ [37, 38, 11, 12, 13, 14, 15, 16, 50, 51, 52, 53, 54, 55, 56, 57, 58, 59, 66, 67] (by decide +kernel) (by decide +kernel)
set_option maxRecDepth 20000 in
theorem gX2_get_X2_hasElement : GoodIn wsX2_get (wsV RX2 87 RX2 yX2_hasElement wsX2_hasElement) := goodIn_app (goodIn_of _ (by decide +kernel)) ggX2_get_X2_hasElement
set_option maxRecDepth 20000 in
theorem ggX2_get_X2_elementOf : GoodIn wsX2_get wsX2_elementOf := goodIn_r _ [42, 1, 43, 11, 12, 13, 14, 15, 16, 44, 45, 46, 8, 47, 48, 27, 49, 50, 51, 52, 53, 54, 55, 56, 57, 58, 59, 66, 67, 68, 69, 70, 71, 72, 73, 74] (by decide +kernel) (by decide +kernel)
set_option maxRecDepth 20000 in
theorem gX2_get_X2_elementOf : GoodIn wsX2_get (wsV RX2 114 RX2 yX2_elementOf wsX2_elementOf) := goodIn_app (goodIn_of _ (by decide +kernel)) ggX2_get_X2_elementOf
theorem dX2_get_0 : decode cX2_get 0 = .ok (.aload_n 0, 1) := by decide +kernel
theorem dX2_get_1 : decode cX2_get 1 = .ok (.iload_n 1, 1) := by decide +kernel
theorem dX2_get_2 : decode cX2_get 2 = .ok (.invokevirtual 80, 3) := by decide +kernel
theorem dX2_get_5 : decode cX2_get 5 = .ok (.ifCond .ne 5, 3) := by decide +kernel
theorem dX2_get_8 : decode cX2_get 8 = .ok (.iconst (-1), 1) := by decide +kernel
theorem dX2_get_9 : decode cX2_get 9 = .ok (.ireturn, 1) := by decide +kernel
theorem dX2_get_10 : decode cX2_get 10 = .ok (.aload_n 0, 1) := by decide +kernel
theorem dX2_get_11 : decode cX2_get 11 = .ok (.getfield 12, 3) := by decide +kernel
theorem dX2_get_14 : decode cX2_get 14 = .ok (.iload_n 1, 1) := by decide +kernel
theorem dX2_get_15 : decode cX2_get 15 = .ok (.invokevirtual 84, 3) := by decide +kernel
theorem dX2_get_18 : decode cX2_get 18 = .ok (.invokestatic 104, 3) := by decide +kernel
theorem dX2_get_21 : decode cX2_get 21 = .ok (.ifCond .eq 12, 3) := by decide +kernel
theorem dX2_get_24 : decode cX2_get 24 = .ok (.aload_n 0, 1) := by decide +kernel
theorem dX2_get_25 : decode cX2_get 25 = .ok (.iload_n 1, 1) := by decide +kernel
theorem dX2_get_26 : decode cX2_get 26 = .ok (.invokevirtual 93, 3) := by decide +kernel
theorem dX2_get_29 : decode cX2_get 29 = .ok (.iconst 2, 1) := by decide +kernel
theorem dX2_get_30 : decode cX2_get 30 = .ok (.if_icmp .ge 6, 3) := by decide +kernel
theorem dX2_get_33 : decode cX2_get 33 = .ok (.bipush (-3), 2) := by decide +kernel
theorem dX2_get_35 : decode cX2_get 35 = .ok (.ireturn, 1) := by decide +kernel
theorem dX2_get_36 : decode cX2_get 36 = .ok (.aload_n 0, 1) := by decide +kernel
theorem dX2_get_37 : decode cX2_get 37 = .ok (.iload_n 1, 1) := by decide +kernel
theorem dX2_get_38 : decode cX2_get 38 = .ok (.iload_n 2, 1) := by decide +kernel
theorem dX2_get_39 : decode cX2_get 39 = .ok (.invokevirtual 87, 3) := by decide +kernel
theorem dX2_get_42 : decode cX2_get 42 = .ok (.ifCond .ne 13, 3) := by decide +kernel
theorem dX2_get_45 : decode cX2_get 45 = .ok (.new 107, 3) := by decide +kernel
theorem dX2_get_48 : decode cX2_get 48 = .ok (.dup, 1) := by decide +kernel
theorem dX2_get_49 : decode cX2_get 49 = .ok (.ldc 109, 2) := by decide +kernel
theorem dX2_get_51 : decode cX2_get 51 = .ok (.invokespecial 111, 3) := by decide +kernel
theorem dX2_get_54 : decode cX2_get 54 = .ok (.athrow, 1) := by decide +kernel
theorem dX2_get_55 : decode cX2_get 55 = .ok (.aload_n 0, 1) := by decide +kernel
theorem dX2_get_56 : decode cX2_get 56 = .ok (.iload_n 1, 1) := by decide +kernel
theorem dX2_get_57 : decode cX2_get 57 = .ok (.iload_n 2, 1) := by decide +kernel
theorem dX2_get_58 : decode cX2_get 58 = .ok (.invokevirtual 114, 3) := by decide +kernel
theorem dX2_get_61 : decode cX2_get 61 = .ok (.ireturn, 1) := by decide +kernel
set_option maxRecDepth 20000 in
theorem ggX2_part_X2_known : GoodIn wsX2_part wsX2_known := goodIn_r _ [7, 2, 101, 102, 103, 104, 105, 106, 107, 108, 109, 110] (by decide +kernel) (by decide +kernel)
set_option maxRecDepth 20000 in
theorem gX2_part_X2_known : GoodIn wsX2_part (wsV RX2 80 RX2 yX2_known wsX2_known) := goodIn_app (goodIn_of _ (by decide +kernel)) ggX2_part_X2_known
set_option maxRecDepth 20000 in
theorem ggX2_part_X1_at : GoodIn wsX2_part wsX1_at := goodIn_r _ [12, 13, 111, 112] (by decide +kernel) (by decide +kernel)
set_option maxRecDepth 20000 in
theorem gX2_part_X1_at : GoodIn wsX2_part (wsV RX2 84 RX1 yX1_at wsX1_at) := goodIn_app (goodIn_of _ (by decide +kernel)) ggX2_part_X1_at
set_option maxRecDepth 20000 in
theorem ggX2_part_X2_isView : GoodIn wsX2_part wsX2_isView := goodIn_r _ [16, 17, 18, 6, 19] (by decide +kernel) (by decide +kernel)
set_option maxRecDepth 20000 in
theorem gX2_part_X2_isView : GoodIn wsX2_part (va_wsS RX2 104 yX2_isView wsX2_isView) := goodIn_app (goodIn_of _ (by decide +kernel)) ggX2_part_X2_isView
set_option maxRecDepth 20000 in
theorem ggX2_part_X2_hasPart : GoodIn wsX2_part wsX2_hasPart := goodIn_r _ [23, 24, 8, 9, 10, 11, 12, 13, 25, 26, 6, 27, 101, 102, 103, 104, 105, 106, 107, 108, 109, 110, 111, 112] (by decide +kernel) (by decide +kernel)
set_option maxRecDepth 20000 in
theorem gX2_part_X2_hasPart : GoodIn wsX2_part (wsV RX2 118 RX2 yX2_hasPart wsX2_hasPart) := goodIn_app (goodIn_of _ (by decide +kernel)) ggX2_part_X2_hasPart
set_option maxRecDepth 20000 in
theorem ggX2_part_X2_accessOf : GoodIn wsX2_part wsX2_accessOf := goodIn_r _ [31, 32, 33, 34, 35, 36, 6, 37, 1, 38, 8, 9, 10, 11, 12, 13, 101, 102, 103, 104, 105, 106, 107, 108, 109, 110, 113, 114, 115, 116, 117, 118, 119, 111, 112] (by decide +kernel) (by decide +kernel)
set_option maxRecDepth 20000 in
theorem gX2_part_X2_accessOf : GoodIn wsX2_part (wsV RX2 93 RX2 yX2_accessOf wsX2_accessOf) := goodIn_app (goodIn_of _ (by decide +kernel)) ggX2_part_X2_accessOf
set_option maxRecDepth 20000 in
theorem ggX2_part_X2_addPart : GoodIn wsX2_part wsX2_addPart := goodIn_r _ [42, 1, 43, 38, 32, 33, 44, 8, 9, 10, 11, 12, 13, 45, 46, 47, 6, 48, 2, 49, 24, 50, 51, 52, 53, 54, 55, 56, 57, 58, 59, 60, 61, 62, 63, 64, 65, 66, 67, 68, 69, 70, 71, 72, 73, 74, 75, 76, 77, 78, 79, 80, 81, 82, 83, 84, 85, 86, 87, 88, 89, 90, 91, 92, 93, 94, 95, 96, 97, 98, 99, 100, 101, 102, 103, 104, 105, 106, 107, 108, 109, 110, 113, 114, 115, 116, 117, 118, 119, 111, 112] (by decide +kernel) (by decide +kernel)
set_option maxRecDepth 20000 in
theorem gX2_part_X2_addPart : GoodIn wsX2_part (wsV RX2 122 RX2 yX2_addPart wsX2_addPart) := goodIn_app (goodIn_of _ (by decide +kernel)) ggX2_part_X2_addPart
theorem dX2_part_0 : decode cX2_part 0 = .ok (.aload_n 0, 1) := by decide +kernel
theorem dX2_part_1 : decode cX2_part 1 = .ok (.iload_n 1, 1) := by decide +kernel
theorem dX2_part_2 : decode cX2_part 2 = .ok (.invokevirtual 80, 3) := by decide +kernel
theorem dX2_part_5 : decode cX2_part 5 = .ok (.ifCond .ne 5, 3) := by decide +kernel
theorem dX2_part_8 : decode cX2_part 8 = .ok (.iconst (-1), 1) := by decide +kernel
theorem dX2_part_9 : decode cX2_part 9 = .ok (.ireturn, 1) := by decide +kernel
theorem dX2_part_10 : decode cX2_part 10 = .ok (.aload_n 0, 1) := by decide +kernel
theorem dX2_part_11 : decode cX2_part 11 = .ok (.getfield 12, 3) := by decide +kernel
theorem dX2_part_14 : decode cX2_part 14 = .ok (.iload_n 1, 1) := by decide +kernel
theorem dX2_part_15 : decode cX2_part 15 = .ok (.invokevirtual 84, 3) := by decide +kernel
theorem dX2_part_18 : decode cX2_part 18 = .ok (.istore 4, 2) := by decide +kernel
theorem dX2_part_20 : decode cX2_part 20 = .ok (.iload 4, 2) := by decide +kernel
theorem dX2_part_22 : decode cX2_part 22 = .ok (.invokestatic 104, 3) := by decide +kernel
theorem dX2_part_25 : decode cX2_part 25 = .ok (.ifCond .ne 13, 3) := by decide +kernel
theorem dX2_part_28 : decode cX2_part 28 = .ok (.iload 4, 2) := by decide +kernel
theorem dX2_part_30 : decode cX2_part 30 = .ok (.bipush 7, 2) := by decide +kernel
theorem dX2_part_32 : decode cX2_part 32 = .ok (.if_icmp .eq 6, 3) := by decide +kernel
theorem dX2_part_35 : decode cX2_part 35 = .ok (.bipush (-3), 2) := by decide +kernel
theorem dX2_part_37 : decode cX2_part 37 = .ok (.ireturn, 1) := by decide +kernel
theorem dX2_part_38 : decode cX2_part 38 = .ok (.iload 4, 2) := by decide +kernel
theorem dX2_part_40 : decode cX2_part 40 = .ok (.invokestatic 104, 3) := by decide +kernel
theorem dX2_part_43 : decode cX2_part 43 = .ok (.ifCond .eq 16, 3) := by decide +kernel
theorem dX2_part_46 : decode cX2_part 46 = .ok (.aload_n 0, 1) := by decide +kernel
theorem dX2_part_47 : decode cX2_part 47 = .ok (.iload_n 1, 1) := by decide +kernel
theorem dX2_part_48 : decode cX2_part 48 = .ok (.iload_n 2, 1) := by decide +kernel
theorem dX2_part_49 : decode cX2_part 49 = .ok (.iload_n 3, 1) := by decide +kernel
theorem dX2_part_50 : decode cX2_part 50 = .ok (.invokevirtual 118, 3) := by decide +kernel
theorem dX2_part_53 : decode cX2_part 53 = .ok (.ifCond .ne 6, 3) := by decide +kernel
theorem dX2_part_56 : decode cX2_part 56 = .ok (.bipush (-2), 2) := by decide +kernel
theorem dX2_part_58 : decode cX2_part 58 = .ok (.ireturn, 1) := by decide +kernel
theorem dX2_part_59 : decode cX2_part 59 = .ok (.aload_n 0, 1) := by decide +kernel
theorem dX2_part_60 : decode cX2_part 60 = .ok (.iload_n 1, 1) := by decide +kernel
theorem dX2_part_61 : decode cX2_part 61 = .ok (.invokevirtual 93, 3) := by decide +kernel
theorem dX2_part_64 : decode cX2_part 64 = .ok (.iconst 2, 1) := by decide +kernel
theorem dX2_part_65 : decode cX2_part 65 = .ok (.if_icmp .ge 6, 3) := by decide +kernel
theorem dX2_part_68 : decode cX2_part 68 = .ok (.bipush (-3), 2) := by decide +kernel
theorem dX2_part_70 : decode cX2_part 70 = .ok (.ireturn, 1) := by decide +kernel
theorem dX2_part_71 : decode cX2_part 71 = .ok (.aload_n 0, 1) := by decide +kernel
theorem dX2_part_72 : decode cX2_part 72 = .ok (.getfield 50, 3) := by decide +kernel
theorem dX2_part_75 : decode cX2_part 75 = .ok (.bipush 100, 2) := by decide +kernel
theorem dX2_part_77 : decode cX2_part 77 = .ok (.if_icmp .lt 6, 3) := by decide +kernel
theorem dX2_part_80 : decode cX2_part 80 = .ok (.bipush (-4), 2) := by decide +kernel
theorem dX2_part_82 : decode cX2_part 82 = .ok (.ireturn, 1) := by decide +kernel
theorem dX2_part_83 : decode cX2_part 83 = .ok (.iload 4, 2) := by decide +kernel
theorem dX2_part_85 : decode cX2_part 85 = .ok (.bipush 7, 2) := by decide +kernel
theorem dX2_part_87 : decode cX2_part 87 = .ok (.if_icmp .ne 13, 3) := by decide +kernel
theorem dX2_part_90 : decode cX2_part 90 = .ok (.aload_n 0, 1) := by decide +kernel
theorem dX2_part_91 : decode cX2_part 91 = .ok (.iload_n 1, 1) := by decide +kernel
theorem dX2_part_92 : decode cX2_part 92 = .ok (.iconst 0, 1) := by decide +kernel
theorem dX2_part_93 : decode cX2_part 93 = .ok (.iconst 0, 1) := by decide +kernel
theorem dX2_part_94 : decode cX2_part 94 = .ok (.invokevirtual 122, 3) := by decide +kernel
theorem dX2_part_97 : decode cX2_part 97 = .ok (.goto 10, 3) := by decide +kernel
theorem dX2_part_100 : decode cX2_part 100 = .ok (.aload_n 0, 1) := by decide +kernel
theorem dX2_part_101 : decode cX2_part 101 = .ok (.iload_n 1, 1) := by decide +kernel
theorem dX2_part_102 : decode cX2_part 102 = .ok (.iload_n 2, 1) := by decide +kernel
theorem dX2_part_103 : decode cX2_part 103 = .ok (.iload_n 3, 1) := by decide +kernel
theorem dX2_part_104 : decode cX2_part 104 = .ok (.invokevirtual 122, 3) := by decide +kernel
theorem dX2_part_107 : decode cX2_part 107 = .ok (.ireturn, 1) := by decide +kernel
set_option maxRecDepth 20000 in
theorem ggX2_attribute_X2_known : GoodIn wsX2_attribute wsX2_known := goodIn_r _ [7, 8, 45, 46, 47, 48, 49, 50, 51, 52, 53, 54] (by decide +kernel) (by decide +kernel)
set_option maxRecDepth 20000 in
theorem gX2_attribute_X2_known : GoodIn wsX2_attribute (wsV RX2 80 RX2 yX2_known wsX2_known) := goodIn_app (goodIn_of _ (by decide +kernel)) ggX2_attribute_X2_known
set_option maxRecDepth 20000 in
theorem ggX2_attribute_X2_within : GoodIn wsX2_attribute wsX2_within := goodIn_r _ [11] (by decide +kernel) (by decide +kernel)
set_option maxRecDepth 20000 in
theorem gX2_attribute_X2_within : GoodIn wsX2_attribute (va_wsS RX2 90 yX2_within wsX2_within) := goodIn_app (goodIn_of _ (by decide +kernel)) ggX2_attribute_X2_within
set_option maxRecDepth 20000 in
theorem ggX2_attribute_X1_set : GoodIn wsX2_attribute wsX1_set := goodIn_r _ [16, 17, 62, 63] (by decide +kernel) (by decide +kernel)
set_option maxRecDepth 20000 in
theorem gX2_attribute_X1_set : GoodIn wsX2_attribute (wsV RX2 100 RX1 yX1_set wsX1_set) := goodIn_app (goodIn_of _ (by decide +kernel)) ggX2_attribute_X1_set
set_option maxRecDepth 20000 in
theorem ggX2_attribute_X2_lowerAccess : GoodIn wsX2_attribute wsX2_lowerAccess := goodIn_r _ [21, 22, 1, 23, 24, 25, 26, 15, 27, 17, 28, 29, 6, 30, 31, 32, 33, 34, 35, 36, 37, 38, 39, 12, 13, 14, 16, 45, 46, 47, 48, 49, 50, 51, 52, 53, 54, 55, 56, 57, 58, 59, 60, 61, 62, 63] (by decide +kernel) (by decide +kernel)
set_option maxRecDepth 20000 in
theorem gX2_attribute_X2_lowerAccess : GoodIn wsX2_attribute (wsV RX2 129 RX2 yX2_lowerAccess wsX2_lowerAccess) := goodIn_app (goodIn_of _ (by decide +kernel)) ggX2_attribute_X2_lowerAccess
set_option maxRecDepth 20000 in
theorem ggX2_attribute_X2_letGrow : GoodIn wsX2_attribute wsX2_letGrow := goodIn_r _ [43, 22, 1, 44, 39, 24, 25, 26, 15, 27, 17, 12, 13, 14, 16, 45, 46, 47, 48, 49, 50, 51, 52, 53, 54, 55, 56, 57, 58, 59, 60, 61, 62, 63] (by decide +kernel) (by decide +kernel)
set_option maxRecDepth 20000 in
theorem gX2_attribute_X2_letGrow : GoodIn wsX2_attribute (wsV RX2 132 RX2 yX2_letGrow wsX2_letGrow) := goodIn_app (goodIn_of _ (by decide +kernel)) ggX2_attribute_X2_letGrow
theorem dX2_attribute_0 : decode cX2_attribute 0 = .ok (.aload_n 0, 1) := by decide +kernel
theorem dX2_attribute_1 : decode cX2_attribute 1 = .ok (.iload_n 1, 1) := by decide +kernel
theorem dX2_attribute_2 : decode cX2_attribute 2 = .ok (.invokevirtual 80, 3) := by decide +kernel
theorem dX2_attribute_5 : decode cX2_attribute 5 = .ok (.ifCond .ne 5, 3) := by decide +kernel
theorem dX2_attribute_8 : decode cX2_attribute 8 = .ok (.iconst (-1), 1) := by decide +kernel
theorem dX2_attribute_9 : decode cX2_attribute 9 = .ok (.ireturn, 1) := by decide +kernel
theorem dX2_attribute_10 : decode cX2_attribute 10 = .ok (.iload_n 2, 1) := by decide +kernel
theorem dX2_attribute_11 : decode cX2_attribute 11 = .ok (.ifCond .lt 25, 3) := by decide +kernel
theorem dX2_attribute_14 : decode cX2_attribute 14 = .ok (.iload_n 2, 1) := by decide +kernel
theorem dX2_attribute_15 : decode cX2_attribute 15 = .ok (.iconst 2, 1) := by decide +kernel
theorem dX2_attribute_16 : decode cX2_attribute 16 = .ok (.if_icmp .gt 20, 3) := by decide +kernel
theorem dX2_attribute_19 : decode cX2_attribute 19 = .ok (.iload_n 3, 1) := by decide +kernel
theorem dX2_attribute_20 : decode cX2_attribute 20 = .ok (.iload_n 2, 1) := by decide +kernel
theorem dX2_attribute_21 : decode cX2_attribute 21 = .ok (.iconst 1, 1) := by decide +kernel
theorem dX2_attribute_22 : decode cX2_attribute 22 = .ok (.if_icmp .ne 7, 3) := by decide +kernel
theorem dX2_attribute_25 : decode cX2_attribute 25 = .ok (.iconst 3, 1) := by decide +kernel
theorem dX2_attribute_26 : decode cX2_attribute 26 = .ok (.goto 4, 3) := by decide +kernel
theorem dX2_attribute_29 : decode cX2_attribute 29 = .ok (.iconst 1, 1) := by decide +kernel
theorem dX2_attribute_30 : decode cX2_attribute 30 = .ok (.invokestatic 90, 3) := by decide +kernel
theorem dX2_attribute_33 : decode cX2_attribute 33 = .ok (.ifCond .ne 6, 3) := by decide +kernel
theorem dX2_attribute_36 : decode cX2_attribute 36 = .ok (.bipush (-2), 2) := by decide +kernel
