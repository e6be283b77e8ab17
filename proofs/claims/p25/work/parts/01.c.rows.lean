theorem dX0_init_0 : decode cX0_init 0 = .ok (.aload_n 0, 1) := by decide +kernel
theorem dX0_init_1 : decode cX0_init 1 = .ok (.invokespecial 3, 3) := by decide +kernel
theorem dX0_init_4 : decode cX0_init 4 = .ok (.aload_n 0, 1) := by decide +kernel
theorem dX0_init_5 : decode cX0_init 5 = .ok (.bipush 12, 2) := by decide +kernel
theorem dX0_init_7 : decode cX0_init 7 = .ok (.newarray .int, 2) := by decide +kernel
theorem dX0_init_9 : decode cX0_init 9 = .ok (.putfield 9, 3) := by decide +kernel
theorem dX0_init_12 : decode cX0_init 12 = .ok (.return_, 1) := by decide +kernel
set_option maxRecDepth 20000 in
theorem ggX0_find_X0_fillExchanges : GoodIn wsX0_find wsX0_fillExchanges := goodIn_r _ [10, 4, 11, 12, 5, 13, 14, 15, 16, 17, 18, 19, 20, 21, 22, 34, 35, 36, 37, 30, 31, 32, 33] (by decide +kernel) (by decide +kernel)
set_option maxRecDepth 20000 in
theorem gX0_find_X0_fillExchanges : GoodIn wsX0_find (wsV RX0 15 RX0 yX0_fillExchanges wsX0_fillExchanges) := goodIn_app (goodIn_of _ (by decide +kernel)) ggX0_find_X0_fillExchanges
set_option maxRecDepth 20000 in
theorem ggX0_find_X0_brokenByNone : GoodIn wsX0_find wsX0_brokenByNone := goodIn_r _ [25, 11, 26, 34, 35, 36, 37] (by decide +kernel) (by decide +kernel)
set_option maxRecDepth 20000 in
theorem gX0_find_X0_brokenByNone : GoodIn wsX0_find (va_wsS RX0 19 yX0_brokenByNone wsX0_brokenByNone) := goodIn_app (goodIn_of _ (by decide +kernel)) ggX0_find_X0_brokenByNone
set_option maxRecDepth 20000 in
theorem ggX0_find_J6_bitCount_0f7a4 : GoodIn wsX0_find wsJ6_bitCount_0f7a4 := goodIn_r _ [19, 20, 21, 22] (by decide +kernel) (by decide +kernel)
set_option maxRecDepth 20000 in
theorem gX0_find_J6_bitCount_0f7a4 : GoodIn wsX0_find (va_wsS RX0 27 yJ6_bitCount_0f7a4 wsJ6_bitCount_0f7a4) := goodIn_app (goodIn_of _ (by decide +kernel)) ggX0_find_J6_bitCount_0f7a4
set_option maxRecDepth 20000 in
theorem ggX0_find_X5_lowestBit : GoodIn wsX0_find wsX5_lowestBit := goodIn_r _ [29, 16, 17, 18, 19, 20, 21, 22] (by decide +kernel) (by decide +kernel)
set_option maxRecDepth 20000 in
theorem gX0_find_X5_lowestBit_n44 : GoodIn wsX0_find (wsX5_lowestBit) := ggX0_find_X5_lowestBit
theorem dX0_find_0 : decode cX0_find 0 = .ok (.aload_n 0, 1) := by decide +kernel
theorem dX0_find_1 : decode cX0_find 1 = .ok (.aload_n 1, 1) := by decide +kernel
theorem dX0_find_2 : decode cX0_find 2 = .ok (.invokevirtual 15, 3) := by decide +kernel
theorem dX0_find_5 : decode cX0_find 5 = .ok (.aload_n 1, 1) := by decide +kernel
theorem dX0_find_6 : decode cX0_find 6 = .ok (.invokestatic 19, 3) := by decide +kernel
theorem dX0_find_9 : decode cX0_find 9 = .ok (.istore_n 2, 1) := by decide +kernel
theorem dX0_find_10 : decode cX0_find 10 = .ok (.aload_n 0, 1) := by decide +kernel
theorem dX0_find_11 : decode cX0_find 11 = .ok (.iconst 0, 1) := by decide +kernel
theorem dX0_find_12 : decode cX0_find 12 = .ok (.putfield 23, 3) := by decide +kernel
theorem dX0_find_15 : decode cX0_find 15 = .ok (.aload_n 0, 1) := by decide +kernel
theorem dX0_find_16 : decode cX0_find 16 = .ok (.iload_n 2, 1) := by decide +kernel
theorem dX0_find_17 : decode cX0_find 17 = .ok (.invokestatic 27, 3) := by decide +kernel
theorem dX0_find_20 : decode cX0_find 20 = .ok (.putfield 33, 3) := by decide +kernel
theorem dX0_find_23 : decode cX0_find 23 = .ok (.aload_n 0, 1) := by decide +kernel
theorem dX0_find_24 : decode cX0_find 24 = .ok (.iconst 1, 1) := by decide +kernel
theorem dX0_find_25 : decode cX0_find 25 = .ok (.putfield 36, 3) := by decide +kernel
theorem dX0_find_28 : decode cX0_find 28 = .ok (.iconst 1, 1) := by decide +kernel
theorem dX0_find_29 : decode cX0_find 29 = .ok (.aload_n 1, 1) := by decide +kernel
theorem dX0_find_30 : decode cX0_find 30 = .ok (.getfield 39, 3) := by decide +kernel
theorem dX0_find_33 : decode cX0_find 33 = .ok (.ishl, 1) := by decide +kernel
theorem dX0_find_34 : decode cX0_find 34 = .ok (.iconst 1, 1) := by decide +kernel
theorem dX0_find_35 : decode cX0_find 35 = .ok (.isub, 1) := by decide +kernel
theorem dX0_find_36 : decode cX0_find 36 = .ok (.istore_n 3, 1) := by decide +kernel
theorem dX0_find_37 : decode cX0_find 37 = .ok (.iconst 1, 1) := by decide +kernel
theorem dX0_find_38 : decode cX0_find 38 = .ok (.istore 4, 2) := by decide +kernel
theorem dX0_find_40 : decode cX0_find 40 = .ok (.iload 4, 2) := by decide +kernel
theorem dX0_find_42 : decode cX0_find 42 = .ok (.iload_n 3, 1) := by decide +kernel
theorem dX0_find_43 : decode cX0_find 43 = .ok (.if_icmp .gt 76, 3) := by decide +kernel
theorem dX0_find_46 : decode cX0_find 46 = .ok (.iload_n 2, 1) := by decide +kernel
theorem dX0_find_47 : decode cX0_find 47 = .ok (.aload_n 0, 1) := by decide +kernel
theorem dX0_find_48 : decode cX0_find 48 = .ok (.getfield 9, 3) := by decide +kernel
theorem dX0_find_51 : decode cX0_find 51 = .ok (.iload 4, 2) := by decide +kernel
theorem dX0_find_53 : decode cX0_find 53 = .ok (.invokestatic 44, 3) := by decide +kernel
theorem dX0_find_56 : decode cX0_find 56 = .ok (.iaload, 1) := by decide +kernel
theorem dX0_find_57 : decode cX0_find 57 = .ok (.ixor, 1) := by decide +kernel
theorem dX0_find_58 : decode cX0_find 58 = .ok (.istore_n 2, 1) := by decide +kernel
theorem dX0_find_59 : decode cX0_find 59 = .ok (.iload_n 2, 1) := by decide +kernel
theorem dX0_find_60 : decode cX0_find 60 = .ok (.invokestatic 27, 3) := by decide +kernel
theorem dX0_find_63 : decode cX0_find 63 = .ok (.istore 5, 2) := by decide +kernel
theorem dX0_find_65 : decode cX0_find 65 = .ok (.iload 5, 2) := by decide +kernel
theorem dX0_find_67 : decode cX0_find 67 = .ok (.aload_n 0, 1) := by decide +kernel
theorem dX0_find_68 : decode cX0_find 68 = .ok (.getfield 33, 3) := by decide +kernel
theorem dX0_find_71 : decode cX0_find 71 = .ok (.if_icmp .ge 23, 3) := by decide +kernel
theorem dX0_find_74 : decode cX0_find 74 = .ok (.aload_n 0, 1) := by decide +kernel
theorem dX0_find_75 : decode cX0_find 75 = .ok (.iload 4, 2) := by decide +kernel
theorem dX0_find_77 : decode cX0_find 77 = .ok (.putfield 23, 3) := by decide +kernel
theorem dX0_find_80 : decode cX0_find 80 = .ok (.aload_n 0, 1) := by decide +kernel
theorem dX0_find_81 : decode cX0_find 81 = .ok (.iload 5, 2) := by decide +kernel
theorem dX0_find_83 : decode cX0_find 83 = .ok (.putfield 33, 3) := by decide +kernel
theorem dX0_find_86 : decode cX0_find 86 = .ok (.aload_n 0, 1) := by decide +kernel
theorem dX0_find_87 : decode cX0_find 87 = .ok (.iconst 1, 1) := by decide +kernel
theorem dX0_find_88 : decode cX0_find 88 = .ok (.putfield 36, 3) := by decide +kernel
theorem dX0_find_91 : decode cX0_find 91 = .ok (.goto 22, 3) := by decide +kernel
theorem dX0_find_94 : decode cX0_find 94 = .ok (.iload 5, 2) := by decide +kernel
theorem dX0_find_96 : decode cX0_find 96 = .ok (.aload_n 0, 1) := by decide +kernel
theorem dX0_find_97 : decode cX0_find 97 = .ok (.getfield 33, 3) := by decide +kernel
theorem dX0_find_100 : decode cX0_find 100 = .ok (.if_icmp .ne 13, 3) := by decide +kernel
theorem dX0_find_103 : decode cX0_find 103 = .ok (.aload_n 0, 1) := by decide +kernel
theorem dX0_find_104 : decode cX0_find 104 = .ok (.dup, 1) := by decide +kernel
theorem dX0_find_105 : decode cX0_find 105 = .ok (.getfield 36, 3) := by decide +kernel
theorem dX0_find_108 : decode cX0_find 108 = .ok (.iconst 1, 1) := by decide +kernel
theorem dX0_find_109 : decode cX0_find 109 = .ok (.iadd, 1) := by decide +kernel
theorem dX0_find_110 : decode cX0_find 110 = .ok (.putfield 36, 3) := by decide +kernel
theorem dX0_find_113 : decode cX0_find 113 = .ok (.iinc 4 1, 3) := by decide +kernel
theorem dX0_find_116 : decode cX0_find 116 = .ok (.goto (-76), 3) := by decide +kernel
theorem dX0_find_119 : decode cX0_find 119 = .ok (.return_, 1) := by decide +kernel
theorem dX0_brokenByNone_0 : decode cX0_brokenByNone 0 = .ok (.iconst 0, 1) := by decide +kernel
theorem dX0_brokenByNone_1 : decode cX0_brokenByNone 1 = .ok (.istore_n 1, 1) := by decide +kernel
theorem dX0_brokenByNone_2 : decode cX0_brokenByNone 2 = .ok (.iconst 0, 1) := by decide +kernel
theorem dX0_brokenByNone_3 : decode cX0_brokenByNone 3 = .ok (.istore_n 2, 1) := by decide +kernel
theorem dX0_brokenByNone_4 : decode cX0_brokenByNone 4 = .ok (.iload_n 2, 1) := by decide +kernel
theorem dX0_brokenByNone_5 : decode cX0_brokenByNone 5 = .ok (.aload_n 0, 1) := by decide +kernel
theorem dX0_brokenByNone_6 : decode cX0_brokenByNone 6 = .ok (.getfield 47, 3) := by decide +kernel
theorem dX0_brokenByNone_9 : decode cX0_brokenByNone 9 = .ok (.if_icmp .ge 20, 3) := by decide +kernel
theorem dX0_brokenByNone_12 : decode cX0_brokenByNone 12 = .ok (.iload_n 1, 1) := by decide +kernel
theorem dX0_brokenByNone_13 : decode cX0_brokenByNone 13 = .ok (.aload_n 0, 1) := by decide +kernel
theorem dX0_brokenByNone_14 : decode cX0_brokenByNone 14 = .ok (.getfield 50, 3) := by decide +kernel
theorem dX0_brokenByNone_17 : decode cX0_brokenByNone 17 = .ok (.iload_n 2, 1) := by decide +kernel
theorem dX0_brokenByNone_18 : decode cX0_brokenByNone 18 = .ok (.iaload, 1) := by decide +kernel
theorem dX0_brokenByNone_19 : decode cX0_brokenByNone 19 = .ok (.iload_n 2, 1) := by decide +kernel
theorem dX0_brokenByNone_20 : decode cX0_brokenByNone 20 = .ok (.ishl, 1) := by decide +kernel
theorem dX0_brokenByNone_21 : decode cX0_brokenByNone 21 = .ok (.ior, 1) := by decide +kernel
theorem dX0_brokenByNone_22 : decode cX0_brokenByNone 22 = .ok (.istore_n 1, 1) := by decide +kernel
theorem dX0_brokenByNone_23 : decode cX0_brokenByNone 23 = .ok (.iinc 2 1, 3) := by decide +kernel
theorem dX0_brokenByNone_26 : decode cX0_brokenByNone 26 = .ok (.goto (-22), 3) := by decide +kernel
theorem dX0_brokenByNone_29 : decode cX0_brokenByNone 29 = .ok (.iload_n 1, 1) := by decide +kernel
theorem dX0_brokenByNone_30 : decode cX0_brokenByNone 30 = .ok (.ireturn, 1) := by decide +kernel
set_option maxRecDepth 20000 in
theorem ggX0_fillExchanges_X5_parity : GoodIn wsX0_fillExchanges wsX5_parity := goodIn_r _ [7, 8, 9, 10, 11, 12, 13, 14] (by decide +kernel) (by decide +kernel)
set_option maxRecDepth 20000 in
theorem gX0_fillExchanges_X5_parity_n56 : GoodIn wsX0_fillExchanges (wsX5_parity) := ggX0_fillExchanges_X5_parity
theorem dX0_fillExchanges_0 : decode cX0_fillExchanges 0 = .ok (.iconst 0, 1) := by decide +kernel
theorem dX0_fillExchanges_1 : decode cX0_fillExchanges 1 = .ok (.istore_n 2, 1) := by decide +kernel
theorem dX0_fillExchanges_2 : decode cX0_fillExchanges 2 = .ok (.iload_n 2, 1) := by decide +kernel
theorem dX0_fillExchanges_3 : decode cX0_fillExchanges 3 = .ok (.aload_n 1, 1) := by decide +kernel
theorem dX0_fillExchanges_4 : decode cX0_fillExchanges 4 = .ok (.getfield 39, 3) := by decide +kernel
theorem dX0_fillExchanges_7 : decode cX0_fillExchanges 7 = .ok (.if_icmp .ge 64, 3) := by decide +kernel
theorem dX0_fillExchanges_10 : decode cX0_fillExchanges 10 = .ok (.iconst 2, 1) := by decide +kernel
theorem dX0_fillExchanges_11 : decode cX0_fillExchanges 11 = .ok (.iload_n 2, 1) := by decide +kernel
theorem dX0_fillExchanges_12 : decode cX0_fillExchanges 12 = .ok (.ishl, 1) := by decide +kernel
theorem dX0_fillExchanges_13 : decode cX0_fillExchanges 13 = .ok (.iconst 1, 1) := by decide +kernel
theorem dX0_fillExchanges_14 : decode cX0_fillExchanges 14 = .ok (.isub, 1) := by decide +kernel
theorem dX0_fillExchanges_15 : decode cX0_fillExchanges 15 = .ok (.istore_n 3, 1) := by decide +kernel
theorem dX0_fillExchanges_16 : decode cX0_fillExchanges 16 = .ok (.iconst 0, 1) := by decide +kernel
theorem dX0_fillExchanges_17 : decode cX0_fillExchanges 17 = .ok (.istore 4, 2) := by decide +kernel
theorem dX0_fillExchanges_19 : decode cX0_fillExchanges 19 = .ok (.iconst 0, 1) := by decide +kernel
theorem dX0_fillExchanges_20 : decode cX0_fillExchanges 20 = .ok (.istore 5, 2) := by decide +kernel
theorem dX0_fillExchanges_22 : decode cX0_fillExchanges 22 = .ok (.iload 5, 2) := by decide +kernel
theorem dX0_fillExchanges_24 : decode cX0_fillExchanges 24 = .ok (.aload_n 1, 1) := by decide +kernel
theorem dX0_fillExchanges_25 : decode cX0_fillExchanges 25 = .ok (.getfield 47, 3) := by decide +kernel
theorem dX0_fillExchanges_28 : decode cX0_fillExchanges 28 = .ok (.if_icmp .ge 29, 3) := by decide +kernel
theorem dX0_fillExchanges_31 : decode cX0_fillExchanges 31 = .ok (.iload 4, 2) := by decide +kernel
theorem dX0_fillExchanges_33 : decode cX0_fillExchanges 33 = .ok (.aload_n 1, 1) := by decide +kernel
theorem dX0_fillExchanges_34 : decode cX0_fillExchanges 34 = .ok (.getfield 53, 3) := by decide +kernel
theorem dX0_fillExchanges_37 : decode cX0_fillExchanges 37 = .ok (.iload 5, 2) := by decide +kernel
theorem dX0_fillExchanges_39 : decode cX0_fillExchanges 39 = .ok (.iaload, 1) := by decide +kernel
theorem dX0_fillExchanges_40 : decode cX0_fillExchanges 40 = .ok (.iload_n 3, 1) := by decide +kernel
theorem dX0_fillExchanges_41 : decode cX0_fillExchanges 41 = .ok (.iand, 1) := by decide +kernel
theorem dX0_fillExchanges_42 : decode cX0_fillExchanges 42 = .ok (.invokestatic 56, 3) := by decide +kernel
theorem dX0_fillExchanges_45 : decode cX0_fillExchanges 45 = .ok (.iload 5, 2) := by decide +kernel
theorem dX0_fillExchanges_47 : decode cX0_fillExchanges 47 = .ok (.ishl, 1) := by decide +kernel
theorem dX0_fillExchanges_48 : decode cX0_fillExchanges 48 = .ok (.ior, 1) := by decide +kernel
theorem dX0_fillExchanges_49 : decode cX0_fillExchanges 49 = .ok (.istore 4, 2) := by decide +kernel
theorem dX0_fillExchanges_51 : decode cX0_fillExchanges 51 = .ok (.iinc 5 1, 3) := by decide +kernel
theorem dX0_fillExchanges_54 : decode cX0_fillExchanges 54 = .ok (.goto (-32), 3) := by decide +kernel
theorem dX0_fillExchanges_57 : decode cX0_fillExchanges 57 = .ok (.aload_n 0, 1) := by decide +kernel
theorem dX0_fillExchanges_58 : decode cX0_fillExchanges 58 = .ok (.getfield 9, 3) := by decide +kernel
theorem dX0_fillExchanges_61 : decode cX0_fillExchanges 61 = .ok (.iload_n 2, 1) := by decide +kernel
theorem dX0_fillExchanges_62 : decode cX0_fillExchanges 62 = .ok (.iload 4, 2) := by decide +kernel
theorem dX0_fillExchanges_64 : decode cX0_fillExchanges 64 = .ok (.iastore, 1) := by decide +kernel
theorem dX0_fillExchanges_65 : decode cX0_fillExchanges 65 = .ok (.iinc 2 1, 3) := by decide +kernel
theorem dX0_fillExchanges_68 : decode cX0_fillExchanges 68 = .ok (.goto (-66), 3) := by decide +kernel
theorem dX0_fillExchanges_71 : decode cX0_fillExchanges 71 = .ok (.return_, 1) := by decide +kernel
set_option maxRecDepth 20000 in
theorem ggX1_init_X3_init : GoodIn wsX1_init wsX3_init := goodIn_r _ [9, 10, 2, 3, 11, 12, 13, 14, 17, 18, 19, 20] (by decide +kernel) (by decide +kernel)
set_option maxRecDepth 20000 in
theorem gX1_init_X3_init_n17 : GoodIn wsX1_init (wsX3_init) := ggX1_init_X3_init
theorem dX1_init_0 : decode cX1_init 0 = .ok (.aload_n 0, 1) := by decide +kernel
theorem dX1_init_1 : decode cX1_init 1 = .ok (.invokespecial 3, 3) := by decide +kernel
theorem dX1_init_4 : decode cX1_init 4 = .ok (.aload_n 0, 1) := by decide +kernel
theorem dX1_init_5 : decode cX1_init 5 = .ok (.bipush 6, 2) := by decide +kernel
theorem dX1_init_7 : decode cX1_init 7 = .ok (.anewarray 9, 3) := by decide +kernel
theorem dX1_init_10 : decode cX1_init 10 = .ok (.putfield 11, 3) := by decide +kernel
theorem dX1_init_13 : decode cX1_init 13 = .ok (.iconst 0, 1) := by decide +kernel
theorem dX1_init_14 : decode cX1_init 14 = .ok (.istore_n 1, 1) := by decide +kernel
theorem dX1_init_15 : decode cX1_init 15 = .ok (.iload_n 1, 1) := by decide +kernel
theorem dX1_init_16 : decode cX1_init 16 = .ok (.bipush 6, 2) := by decide +kernel
theorem dX1_init_18 : decode cX1_init 18 = .ok (.if_icmp .ge 22, 3) := by decide +kernel
theorem dX1_init_21 : decode cX1_init 21 = .ok (.aload_n 0, 1) := by decide +kernel
theorem dX1_init_22 : decode cX1_init 22 = .ok (.getfield 11, 3) := by decide +kernel
theorem dX1_init_25 : decode cX1_init 25 = .ok (.iload_n 1, 1) := by decide +kernel
theorem dX1_init_26 : decode cX1_init 26 = .ok (.new 9, 3) := by decide +kernel
theorem dX1_init_29 : decode cX1_init 29 = .ok (.dup, 1) := by decide +kernel
theorem dX1_init_30 : decode cX1_init 30 = .ok (.invokespecial 17, 3) := by decide +kernel
theorem dX1_init_33 : decode cX1_init 33 = .ok (.aastore, 1) := by decide +kernel
theorem dX1_init_34 : decode cX1_init 34 = .ok (.iinc 1 1, 3) := by decide +kernel
theorem dX1_init_37 : decode cX1_init 37 = .ok (.goto (-22), 3) := by decide +kernel
theorem dX1_init_40 : decode cX1_init 40 = .ok (.return_, 1) := by decide +kernel
set_option maxRecDepth 20000 in
theorem ggX1_remember_X1_dropOldest : GoodIn wsX1_remember wsX1_dropOldest := goodIn_r _ [7, 2, 1, 21, 22] (by decide +kernel) (by decide +kernel)
set_option maxRecDepth 20000 in
theorem gX1_remember_X1_dropOldest : GoodIn wsX1_remember (wsV RX1 22 RX1 yX1_dropOldest wsX1_dropOldest) := goodIn_app (goodIn_of _ (by decide +kernel)) ggX1_remember_X1_dropOldest
set_option maxRecDepth 20000 in
theorem ggX1_remember_X3_become : GoodIn wsX1_remember wsX3_become := goodIn_r _ [12, 13, 14, 15, 16, 17, 18, 19, 20, 23, 24, 25, 26] (by decide +kernel) (by decide +kernel)
set_option maxRecDepth 20000 in
theorem gX1_remember_X3_become : GoodIn wsX1_remember (wsV RX1 25 RX3 yX3_become wsX3_become) := goodIn_app (goodIn_of _ (by decide +kernel)) ggX1_remember_X3_become
theorem dX1_remember_0 : decode cX1_remember 0 = .ok (.aload_n 0, 1) := by decide +kernel
theorem dX1_remember_1 : decode cX1_remember 1 = .ok (.getfield 18, 3) := by decide +kernel
theorem dX1_remember_4 : decode cX1_remember 4 = .ok (.bipush 6, 2) := by decide +kernel
theorem dX1_remember_6 : decode cX1_remember 6 = .ok (.if_icmp .lt 7, 3) := by decide +kernel
theorem dX1_remember_9 : decode cX1_remember 9 = .ok (.aload_n 0, 1) := by decide +kernel
theorem dX1_remember_10 : decode cX1_remember 10 = .ok (.invokevirtual 22, 3) := by decide +kernel
theorem dX1_remember_13 : decode cX1_remember 13 = .ok (.aload_n 0, 1) := by decide +kernel
theorem dX1_remember_14 : decode cX1_remember 14 = .ok (.getfield 11, 3) := by decide +kernel
theorem dX1_remember_17 : decode cX1_remember 17 = .ok (.aload_n 0, 1) := by decide +kernel
theorem dX1_remember_18 : decode cX1_remember 18 = .ok (.getfield 18, 3) := by decide +kernel
theorem dX1_remember_21 : decode cX1_remember 21 = .ok (.aaload, 1) := by decide +kernel
theorem dX1_remember_22 : decode cX1_remember 22 = .ok (.aload_n 1, 1) := by decide +kernel
theorem dX1_remember_23 : decode cX1_remember 23 = .ok (.invokevirtual 25, 3) := by decide +kernel
theorem dX1_remember_26 : decode cX1_remember 26 = .ok (.aload_n 0, 1) := by decide +kernel
theorem dX1_remember_27 : decode cX1_remember 27 = .ok (.dup, 1) := by decide +kernel
theorem dX1_remember_28 : decode cX1_remember 28 = .ok (.getfield 18, 3) := by decide +kernel
theorem dX1_remember_31 : decode cX1_remember 31 = .ok (.iconst 1, 1) := by decide +kernel
theorem dX1_remember_32 : decode cX1_remember 32 = .ok (.iadd, 1) := by decide +kernel
theorem dX1_remember_33 : decode cX1_remember 33 = .ok (.putfield 18, 3) := by decide +kernel
theorem dX1_remember_36 : decode cX1_remember 36 = .ok (.return_, 1) := by decide +kernel
theorem dX1_dropOldest_0 : decode cX1_dropOldest 0 = .ok (.aload_n 0, 1) := by decide +kernel
theorem dX1_dropOldest_1 : decode cX1_dropOldest 1 = .ok (.getfield 11, 3) := by decide +kernel
theorem dX1_dropOldest_4 : decode cX1_dropOldest 4 = .ok (.iconst 0, 1) := by decide +kernel
theorem dX1_dropOldest_5 : decode cX1_dropOldest 5 = .ok (.aaload, 1) := by decide +kernel
theorem dX1_dropOldest_6 : decode cX1_dropOldest 6 = .ok (.astore_n 1, 1) := by decide +kernel
theorem dX1_dropOldest_7 : decode cX1_dropOldest 7 = .ok (.iconst 1, 1) := by decide +kernel
theorem dX1_dropOldest_8 : decode cX1_dropOldest 8 = .ok (.istore_n 2, 1) := by decide +kernel
theorem dX1_dropOldest_9 : decode cX1_dropOldest 9 = .ok (.iload_n 2, 1) := by decide +kernel
theorem dX1_dropOldest_10 : decode cX1_dropOldest 10 = .ok (.bipush 6, 2) := by decide +kernel
theorem dX1_dropOldest_12 : decode cX1_dropOldest 12 = .ok (.if_icmp .ge 23, 3) := by decide +kernel
theorem dX1_dropOldest_15 : decode cX1_dropOldest 15 = .ok (.aload_n 0, 1) := by decide +kernel
theorem dX1_dropOldest_16 : decode cX1_dropOldest 16 = .ok (.getfield 11, 3) := by decide +kernel
theorem dX1_dropOldest_19 : decode cX1_dropOldest 19 = .ok (.iload_n 2, 1) := by decide +kernel
theorem dX1_dropOldest_20 : decode cX1_dropOldest 20 = .ok (.iconst 1, 1) := by decide +kernel
theorem dX1_dropOldest_21 : decode cX1_dropOldest 21 = .ok (.isub, 1) := by decide +kernel
theorem dX1_dropOldest_22 : decode cX1_dropOldest 22 = .ok (.aload_n 0, 1) := by decide +kernel
theorem dX1_dropOldest_23 : decode cX1_dropOldest 23 = .ok (.getfield 11, 3) := by decide +kernel
theorem dX1_dropOldest_26 : decode cX1_dropOldest 26 = .ok (.iload_n 2, 1) := by decide +kernel
theorem dX1_dropOldest_27 : decode cX1_dropOldest 27 = .ok (.aaload, 1) := by decide +kernel
theorem dX1_dropOldest_28 : decode cX1_dropOldest 28 = .ok (.aastore, 1) := by decide +kernel
theorem dX1_dropOldest_29 : decode cX1_dropOldest 29 = .ok (.iinc 2 1, 3) := by decide +kernel
theorem dX1_dropOldest_32 : decode cX1_dropOldest 32 = .ok (.goto (-23), 3) := by decide +kernel
theorem dX1_dropOldest_35 : decode cX1_dropOldest 35 = .ok (.aload_n 0, 1) := by decide +kernel
theorem dX1_dropOldest_36 : decode cX1_dropOldest 36 = .ok (.getfield 11, 3) := by decide +kernel
theorem dX1_dropOldest_39 : decode cX1_dropOldest 39 = .ok (.iconst 5, 1) := by decide +kernel
theorem dX1_dropOldest_40 : decode cX1_dropOldest 40 = .ok (.aload_n 1, 1) := by decide +kernel
theorem dX1_dropOldest_41 : decode cX1_dropOldest 41 = .ok (.aastore, 1) := by decide +kernel
theorem dX1_dropOldest_42 : decode cX1_dropOldest 42 = .ok (.aload_n 0, 1) := by decide +kernel
theorem dX1_dropOldest_43 : decode cX1_dropOldest 43 = .ok (.iconst 5, 1) := by decide +kernel
theorem dX1_dropOldest_44 : decode cX1_dropOldest 44 = .ok (.putfield 18, 3) := by decide +kernel
theorem dX1_dropOldest_47 : decode cX1_dropOldest 47 = .ok (.return_, 1) := by decide +kernel
set_option maxRecDepth 20000 in
theorem ggX1_giveBack_X3_become : GoodIn wsX1_giveBack wsX3_become := goodIn_r _ [7, 8, 9, 10, 11, 12, 13, 14, 15, 18, 19, 20, 21] (by decide +kernel) (by decide +kernel)
set_option maxRecDepth 20000 in
theorem gX1_giveBack_X3_become : GoodIn wsX1_giveBack (wsV RX1 25 RX3 yX3_become wsX3_become) := goodIn_app (goodIn_of _ (by decide +kernel)) ggX1_giveBack_X3_become
theorem dX1_giveBack_0 : decode cX1_giveBack 0 = .ok (.aload_n 0, 1) := by decide +kernel
theorem dX1_giveBack_1 : decode cX1_giveBack 1 = .ok (.getfield 18, 3) := by decide +kernel
theorem dX1_giveBack_4 : decode cX1_giveBack 4 = .ok (.ifCond .le 26, 3) := by decide +kernel
theorem dX1_giveBack_7 : decode cX1_giveBack 7 = .ok (.aload_n 0, 1) := by decide +kernel
theorem dX1_giveBack_8 : decode cX1_giveBack 8 = .ok (.dup, 1) := by decide +kernel
theorem dX1_giveBack_9 : decode cX1_giveBack 9 = .ok (.getfield 18, 3) := by decide +kernel
theorem dX1_giveBack_12 : decode cX1_giveBack 12 = .ok (.iconst 1, 1) := by decide +kernel
theorem dX1_giveBack_13 : decode cX1_giveBack 13 = .ok (.isub, 1) := by decide +kernel
theorem dX1_giveBack_14 : decode cX1_giveBack 14 = .ok (.putfield 18, 3) := by decide +kernel
theorem dX1_giveBack_17 : decode cX1_giveBack 17 = .ok (.aload_n 1, 1) := by decide +kernel
theorem dX1_giveBack_18 : decode cX1_giveBack 18 = .ok (.aload_n 0, 1) := by decide +kernel
theorem dX1_giveBack_19 : decode cX1_giveBack 19 = .ok (.getfield 11, 3) := by decide +kernel
theorem dX1_giveBack_22 : decode cX1_giveBack 22 = .ok (.aload_n 0, 1) := by decide +kernel
theorem dX1_giveBack_23 : decode cX1_giveBack 23 = .ok (.getfield 18, 3) := by decide +kernel
theorem dX1_giveBack_26 : decode cX1_giveBack 26 = .ok (.aaload, 1) := by decide +kernel
theorem dX1_giveBack_27 : decode cX1_giveBack 27 = .ok (.invokevirtual 25, 3) := by decide +kernel
theorem dX1_giveBack_30 : decode cX1_giveBack 30 = .ok (.return_, 1) := by decide +kernel
theorem dX2_init_0 : decode cX2_init 0 = .ok (.aload_n 0, 1) := by decide +kernel
theorem dX2_init_1 : decode cX2_init 1 = .ok (.invokespecial 3, 3) := by decide +kernel
theorem dX2_init_4 : decode cX2_init 4 = .ok (.aload_n 0, 1) := by decide +kernel
theorem dX2_init_5 : decode cX2_init 5 = .ok (.bipush 80, 2) := by decide +kernel
theorem dX2_init_7 : decode cX2_init 7 = .ok (.newarray .char, 2) := by decide +kernel
theorem dX2_init_9 : decode cX2_init 9 = .ok (.putfield 9, 3) := by decide +kernel
theorem dX2_init_12 : decode cX2_init 12 = .ok (.return_, 1) := by decide +kernel
theorem dX3_init_0 : decode cX3_init 0 = .ok (.aload_n 0, 1) := by decide +kernel
theorem dX3_init_1 : decode cX3_init 1 = .ok (.invokespecial 3, 3) := by decide +kernel
theorem dX3_init_4 : decode cX3_init 4 = .ok (.aload_n 0, 1) := by decide +kernel
theorem dX3_init_5 : decode cX3_init 5 = .ok (.bipush 6, 2) := by decide +kernel
theorem dX3_init_7 : decode cX3_init 7 = .ok (.putfield 9, 3) := by decide +kernel
theorem dX3_init_10 : decode cX3_init 10 = .ok (.aload_n 0, 1) := by decide +kernel
theorem dX3_init_11 : decode cX3_init 11 = .ok (.bipush 20, 2) := by decide +kernel
theorem dX3_init_13 : decode cX3_init 13 = .ok (.newarray .int, 2) := by decide +kernel
theorem dX3_init_15 : decode cX3_init 15 = .ok (.putfield 15, 3) := by decide +kernel
theorem dX3_init_18 : decode cX3_init 18 = .ok (.aload_n 0, 1) := by decide +kernel
theorem dX3_init_19 : decode cX3_init 19 = .ok (.bipush 20, 2) := by decide +kernel
theorem dX3_init_21 : decode cX3_init 21 = .ok (.newarray .int, 2) := by decide +kernel
theorem dX3_init_23 : decode cX3_init 23 = .ok (.putfield 19, 3) := by decide +kernel
theorem dX3_init_26 : decode cX3_init 26 = .ok (.return_, 1) := by decide +kernel
theorem dX3_hasPlace_0 : decode cX3_hasPlace 0 = .ok (.iload_n 1, 1) := by decide +kernel
theorem dX3_hasPlace_1 : decode cX3_hasPlace 1 = .ok (.ifCond .lt 15, 3) := by decide +kernel
theorem dX3_hasPlace_4 : decode cX3_hasPlace 4 = .ok (.iload_n 1, 1) := by decide +kernel
theorem dX3_hasPlace_5 : decode cX3_hasPlace 5 = .ok (.aload_n 0, 1) := by decide +kernel
theorem dX3_hasPlace_6 : decode cX3_hasPlace 6 = .ok (.getfield 22, 3) := by decide +kernel
theorem dX3_hasPlace_9 : decode cX3_hasPlace 9 = .ok (.if_icmp .ge 7, 3) := by decide +kernel
theorem dX3_hasPlace_12 : decode cX3_hasPlace 12 = .ok (.iconst 1, 1) := by decide +kernel
theorem dX3_hasPlace_13 : decode cX3_hasPlace 13 = .ok (.goto 4, 3) := by decide +kernel
theorem dX3_hasPlace_16 : decode cX3_hasPlace 16 = .ok (.iconst 0, 1) := by decide +kernel
theorem dX3_hasPlace_17 : decode cX3_hasPlace 17 = .ok (.ireturn, 1) := by decide +kernel
theorem dX3_hasSet_0 : decode cX3_hasSet 0 = .ok (.iload_n 1, 1) := by decide +kernel
theorem dX3_hasSet_1 : decode cX3_hasSet 1 = .ok (.ifCond .lt 17, 3) := by decide +kernel
theorem dX3_hasSet_4 : decode cX3_hasSet 4 = .ok (.iload_n 1, 1) := by decide +kernel
theorem dX3_hasSet_5 : decode cX3_hasSet 5 = .ok (.iconst 1, 1) := by decide +kernel
theorem dX3_hasSet_6 : decode cX3_hasSet 6 = .ok (.aload_n 0, 1) := by decide +kernel
theorem dX3_hasSet_7 : decode cX3_hasSet 7 = .ok (.getfield 9, 3) := by decide +kernel
theorem dX3_hasSet_10 : decode cX3_hasSet 10 = .ok (.ishl, 1) := by decide +kernel
theorem dX3_hasSet_11 : decode cX3_hasSet 11 = .ok (.if_icmp .ge 7, 3) := by decide +kernel
theorem dX3_hasSet_14 : decode cX3_hasSet 14 = .ok (.iconst 1, 1) := by decide +kernel
theorem dX3_hasSet_15 : decode cX3_hasSet 15 = .ok (.goto 4, 3) := by decide +kernel
theorem dX3_hasSet_18 : decode cX3_hasSet 18 = .ok (.iconst 0, 1) := by decide +kernel
theorem dX3_hasSet_19 : decode cX3_hasSet 19 = .ok (.ireturn, 1) := by decide +kernel
theorem dX3_setsStayBelow_0 : decode cX3_setsStayBelow 0 = .ok (.iconst 0, 1) := by decide +kernel
theorem dX3_setsStayBelow_1 : decode cX3_setsStayBelow 1 = .ok (.istore_n 2, 1) := by decide +kernel
theorem dX3_setsStayBelow_2 : decode cX3_setsStayBelow 2 = .ok (.iconst 0, 1) := by decide +kernel
theorem dX3_setsStayBelow_3 : decode cX3_setsStayBelow 3 = .ok (.istore_n 3, 1) := by decide +kernel
theorem dX3_setsStayBelow_4 : decode cX3_setsStayBelow 4 = .ok (.iload_n 3, 1) := by decide +kernel
theorem dX3_setsStayBelow_5 : decode cX3_setsStayBelow 5 = .ok (.aload_n 0, 1) := by decide +kernel
theorem dX3_setsStayBelow_6 : decode cX3_setsStayBelow 6 = .ok (.getfield 22, 3) := by decide +kernel
theorem dX3_setsStayBelow_9 : decode cX3_setsStayBelow 9 = .ok (.if_icmp .ge 18, 3) := by decide +kernel
theorem dX3_setsStayBelow_12 : decode cX3_setsStayBelow 12 = .ok (.iload_n 2, 1) := by decide +kernel
theorem dX3_setsStayBelow_13 : decode cX3_setsStayBelow 13 = .ok (.aload_n 0, 1) := by decide +kernel
theorem dX3_setsStayBelow_14 : decode cX3_setsStayBelow 14 = .ok (.getfield 15, 3) := by decide +kernel
theorem dX3_setsStayBelow_17 : decode cX3_setsStayBelow 17 = .ok (.iload_n 3, 1) := by decide +kernel
theorem dX3_setsStayBelow_18 : decode cX3_setsStayBelow 18 = .ok (.iaload, 1) := by decide +kernel
theorem dX3_setsStayBelow_19 : decode cX3_setsStayBelow 19 = .ok (.ior, 1) := by decide +kernel
theorem dX3_setsStayBelow_20 : decode cX3_setsStayBelow 20 = .ok (.istore_n 2, 1) := by decide +kernel
theorem dX3_setsStayBelow_21 : decode cX3_setsStayBelow 21 = .ok (.iinc 3 1, 3) := by decide +kernel
theorem dX3_setsStayBelow_24 : decode cX3_setsStayBelow 24 = .ok (.goto (-20), 3) := by decide +kernel
theorem dX3_setsStayBelow_27 : decode cX3_setsStayBelow 27 = .ok (.iload_n 2, 1) := by decide +kernel
theorem dX3_setsStayBelow_28 : decode cX3_setsStayBelow 28 = .ok (.iload_n 1, 1) := by decide +kernel
theorem dX3_setsStayBelow_29 : decode cX3_setsStayBelow 29 = .ok (.ishr, 1) := by decide +kernel
theorem dX3_setsStayBelow_30 : decode cX3_setsStayBelow 30 = .ok (.ifCond .ne 7, 3) := by decide +kernel
theorem dX3_setsStayBelow_33 : decode cX3_setsStayBelow 33 = .ok (.iconst 1, 1) := by decide +kernel
theorem dX3_setsStayBelow_34 : decode cX3_setsStayBelow 34 = .ok (.goto 4, 3) := by decide +kernel
theorem dX3_setsStayBelow_37 : decode cX3_setsStayBelow 37 = .ok (.iconst 0, 1) := by decide +kernel
theorem dX3_setsStayBelow_38 : decode cX3_setsStayBelow 38 = .ok (.ireturn, 1) := by decide +kernel
theorem dX3_rulesWith_0 : decode cX3_rulesWith 0 = .ok (.iconst 0, 1) := by decide +kernel
theorem dX3_rulesWith_1 : decode cX3_rulesWith 1 = .ok (.istore_n 2, 1) := by decide +kernel
theorem dX3_rulesWith_2 : decode cX3_rulesWith 2 = .ok (.iconst 0, 1) := by decide +kernel
theorem dX3_rulesWith_3 : decode cX3_rulesWith 3 = .ok (.istore_n 3, 1) := by decide +kernel
theorem dX3_rulesWith_4 : decode cX3_rulesWith 4 = .ok (.iload_n 3, 1) := by decide +kernel
theorem dX3_rulesWith_5 : decode cX3_rulesWith 5 = .ok (.aload_n 0, 1) := by decide +kernel
theorem dX3_rulesWith_6 : decode cX3_rulesWith 6 = .ok (.getfield 22, 3) := by decide +kernel
theorem dX3_rulesWith_9 : decode cX3_rulesWith 9 = .ok (.if_icmp .ge 22, 3) := by decide +kernel
theorem dX3_rulesWith_12 : decode cX3_rulesWith 12 = .ok (.iload_n 2, 1) := by decide +kernel
theorem dX3_rulesWith_13 : decode cX3_rulesWith 13 = .ok (.aload_n 0, 1) := by decide +kernel
theorem dX3_rulesWith_14 : decode cX3_rulesWith 14 = .ok (.getfield 15, 3) := by decide +kernel
theorem dX3_rulesWith_17 : decode cX3_rulesWith 17 = .ok (.iload_n 3, 1) := by decide +kernel
theorem dX3_rulesWith_18 : decode cX3_rulesWith 18 = .ok (.iaload, 1) := by decide +kernel
theorem dX3_rulesWith_19 : decode cX3_rulesWith 19 = .ok (.iload_n 1, 1) := by decide +kernel
theorem dX3_rulesWith_20 : decode cX3_rulesWith 20 = .ok (.ishr, 1) := by decide +kernel
theorem dX3_rulesWith_21 : decode cX3_rulesWith 21 = .ok (.iconst 1, 1) := by decide +kernel
theorem dX3_rulesWith_22 : decode cX3_rulesWith 22 = .ok (.iand, 1) := by decide +kernel
theorem dX3_rulesWith_23 : decode cX3_rulesWith 23 = .ok (.iadd, 1) := by decide +kernel
theorem dX3_rulesWith_24 : decode cX3_rulesWith 24 = .ok (.istore_n 2, 1) := by decide +kernel
theorem dX3_rulesWith_25 : decode cX3_rulesWith 25 = .ok (.iinc 3 1, 3) := by decide +kernel
theorem dX3_rulesWith_28 : decode cX3_rulesWith 28 = .ok (.goto (-24), 3) := by decide +kernel
theorem dX3_rulesWith_31 : decode cX3_rulesWith 31 = .ok (.iload_n 2, 1) := by decide +kernel
theorem dX3_rulesWith_32 : decode cX3_rulesWith 32 = .ok (.ireturn, 1) := by decide +kernel
theorem dX3_become_0 : decode cX3_become 0 = .ok (.aload_n 0, 1) := by decide +kernel
theorem dX3_become_1 : decode cX3_become 1 = .ok (.aload_n 1, 1) := by decide +kernel
theorem dX3_become_2 : decode cX3_become 2 = .ok (.getfield 9, 3) := by decide +kernel
theorem dX3_become_5 : decode cX3_become 5 = .ok (.putfield 9, 3) := by decide +kernel
theorem dX3_become_8 : decode cX3_become 8 = .ok (.aload_n 0, 1) := by decide +kernel
theorem dX3_become_9 : decode cX3_become 9 = .ok (.aload_n 1, 1) := by decide +kernel
theorem dX3_become_10 : decode cX3_become 10 = .ok (.getfield 22, 3) := by decide +kernel
theorem dX3_become_13 : decode cX3_become 13 = .ok (.putfield 22, 3) := by decide +kernel
theorem dX3_become_16 : decode cX3_become 16 = .ok (.aload_n 1, 1) := by decide +kernel
theorem dX3_become_17 : decode cX3_become 17 = .ok (.getfield 15, 3) := by decide +kernel
theorem dX3_become_20 : decode cX3_become 20 = .ok (.iconst 0, 1) := by decide +kernel
theorem dX3_become_21 : decode cX3_become 21 = .ok (.aload_n 0, 1) := by decide +kernel
theorem dX3_become_22 : decode cX3_become 22 = .ok (.getfield 15, 3) := by decide +kernel
theorem dX3_become_25 : decode cX3_become 25 = .ok (.iconst 0, 1) := by decide +kernel
theorem dX3_become_26 : decode cX3_become 26 = .ok (.bipush 20, 2) := by decide +kernel
theorem dX3_become_28 : decode cX3_become 28 = .ok (.invokestatic 25, 3) := by decide +kernel
theorem dX3_become_31 : decode cX3_become 31 = .ok (.aload_n 1, 1) := by decide +kernel
theorem dX3_become_32 : decode cX3_become 32 = .ok (.getfield 19, 3) := by decide +kernel
theorem dX3_become_35 : decode cX3_become 35 = .ok (.iconst 0, 1) := by decide +kernel
theorem dX3_become_36 : decode cX3_become 36 = .ok (.aload_n 0, 1) := by decide +kernel
theorem dX3_become_37 : decode cX3_become 37 = .ok (.getfield 19, 3) := by decide +kernel
theorem dX3_become_40 : decode cX3_become 40 = .ok (.iconst 0, 1) := by decide +kernel
theorem dX3_become_41 : decode cX3_become 41 = .ok (.bipush 20, 2) := by decide +kernel
theorem dX3_become_43 : decode cX3_become 43 = .ok (.invokestatic 25, 3) := by decide +kernel
theorem dX3_become_46 : decode cX3_become 46 = .ok (.return_, 1) := by decide +kernel
theorem dX3_append_0 : decode cX3_append 0 = .ok (.aload_n 0, 1) := by decide +kernel
theorem dX3_append_1 : decode cX3_append 1 = .ok (.getfield 22, 3) := by decide +kernel
theorem dX3_append_4 : decode cX3_append 4 = .ok (.bipush 20, 2) := by decide +kernel
theorem dX3_append_6 : decode cX3_append 6 = .ok (.if_icmp .ge 33, 3) := by decide +kernel
theorem dX3_append_9 : decode cX3_append 9 = .ok (.aload_n 0, 1) := by decide +kernel
theorem dX3_append_10 : decode cX3_append 10 = .ok (.getfield 15, 3) := by decide +kernel
theorem dX3_append_13 : decode cX3_append 13 = .ok (.aload_n 0, 1) := by decide +kernel
theorem dX3_append_14 : decode cX3_append 14 = .ok (.getfield 22, 3) := by decide +kernel
theorem dX3_append_17 : decode cX3_append 17 = .ok (.iload_n 1, 1) := by decide +kernel
theorem dX3_append_18 : decode cX3_append 18 = .ok (.iastore, 1) := by decide +kernel
theorem dX3_append_19 : decode cX3_append 19 = .ok (.aload_n 0, 1) := by decide +kernel
theorem dX3_append_20 : decode cX3_append 20 = .ok (.getfield 19, 3) := by decide +kernel
theorem dX3_append_23 : decode cX3_append 23 = .ok (.aload_n 0, 1) := by decide +kernel
theorem dX3_append_24 : decode cX3_append 24 = .ok (.getfield 22, 3) := by decide +kernel
theorem dX3_append_27 : decode cX3_append 27 = .ok (.iload_n 2, 1) := by decide +kernel
theorem dX3_append_28 : decode cX3_append 28 = .ok (.iastore, 1) := by decide +kernel
theorem dX3_append_29 : decode cX3_append 29 = .ok (.aload_n 0, 1) := by decide +kernel
theorem dX3_append_30 : decode cX3_append 30 = .ok (.dup, 1) := by decide +kernel
theorem dX3_append_31 : decode cX3_append 31 = .ok (.getfield 22, 3) := by decide +kernel
theorem dX3_append_34 : decode cX3_append 34 = .ok (.iconst 1, 1) := by decide +kernel
theorem dX3_append_35 : decode cX3_append 35 = .ok (.iadd, 1) := by decide +kernel
theorem dX3_append_36 : decode cX3_append 36 = .ok (.putfield 22, 3) := by decide +kernel
theorem dX3_append_39 : decode cX3_append 39 = .ok (.return_, 1) := by decide +kernel
set_option maxRecDepth 20000 in
theorem ggX3_carryRule_X5_carry : GoodIn wsX3_carryRule wsX5_carry := goodIn_r _ [5] (by decide +kernel) (by decide +kernel)
set_option maxRecDepth 20000 in
theorem gX3_carryRule_X5_carry_n31 : GoodIn wsX3_carryRule (wsX5_carry) := ggX3_carryRule_X5_carry
theorem dX3_carryRule_0 : decode cX3_carryRule 0 = .ok (.aload_n 0, 1) := by decide +kernel
theorem dX3_carryRule_1 : decode cX3_carryRule 1 = .ok (.getfield 15, 3) := by decide +kernel
theorem dX3_carryRule_4 : decode cX3_carryRule 4 = .ok (.iload_n 1, 1) := by decide +kernel
theorem dX3_carryRule_5 : decode cX3_carryRule 5 = .ok (.iload_n 2, 1) := by decide +kernel
theorem dX3_carryRule_6 : decode cX3_carryRule 6 = .ok (.invokestatic 31, 3) := by decide +kernel
theorem dX3_carryRule_9 : decode cX3_carryRule 9 = .ok (.aload_n 0, 1) := by decide +kernel
theorem dX3_carryRule_10 : decode cX3_carryRule 10 = .ok (.getfield 19, 3) := by decide +kernel
theorem dX3_carryRule_13 : decode cX3_carryRule 13 = .ok (.iload_n 1, 1) := by decide +kernel
theorem dX3_carryRule_14 : decode cX3_carryRule 14 = .ok (.iload_n 2, 1) := by decide +kernel
theorem dX3_carryRule_15 : decode cX3_carryRule 15 = .ok (.invokestatic 31, 3) := by decide +kernel
theorem dX3_carryRule_18 : decode cX3_carryRule 18 = .ok (.return_, 1) := by decide +kernel
set_option maxRecDepth 20000 in
theorem ggX3_takeOut_X3_carryRule : GoodIn wsX3_takeOut wsX3_carryRule := goodIn_r _ [6, 7, 8, 9, 10, 11, 12, 13, 14, 15] (by decide +kernel) (by decide +kernel)
set_option maxRecDepth 20000 in
theorem gX3_takeOut_X3_carryRule : GoodIn wsX3_takeOut (wsV RX3 35 RX3 yX3_carryRule wsX3_carryRule) := goodIn_app (goodIn_of _ (by decide +kernel)) ggX3_takeOut_X3_carryRule
theorem dX3_takeOut_0 : decode cX3_takeOut 0 = .ok (.aload_n 0, 1) := by decide +kernel
theorem dX3_takeOut_1 : decode cX3_takeOut 1 = .ok (.iload_n 1, 1) := by decide +kernel
theorem dX3_takeOut_2 : decode cX3_takeOut 2 = .ok (.aload_n 0, 1) := by decide +kernel
theorem dX3_takeOut_3 : decode cX3_takeOut 3 = .ok (.getfield 22, 3) := by decide +kernel
theorem dX3_takeOut_6 : decode cX3_takeOut 6 = .ok (.iconst 1, 1) := by decide +kernel
theorem dX3_takeOut_7 : decode cX3_takeOut 7 = .ok (.isub, 1) := by decide +kernel
theorem dX3_takeOut_8 : decode cX3_takeOut 8 = .ok (.invokevirtual 35, 3) := by decide +kernel
theorem dX3_takeOut_11 : decode cX3_takeOut 11 = .ok (.aload_n 0, 1) := by decide +kernel
theorem dX3_takeOut_12 : decode cX3_takeOut 12 = .ok (.dup, 1) := by decide +kernel
theorem dX3_takeOut_13 : decode cX3_takeOut 13 = .ok (.getfield 22, 3) := by decide +kernel
theorem dX3_takeOut_16 : decode cX3_takeOut 16 = .ok (.iconst 1, 1) := by decide +kernel
theorem dX3_takeOut_17 : decode cX3_takeOut 17 = .ok (.isub, 1) := by decide +kernel
theorem dX3_takeOut_18 : decode cX3_takeOut 18 = .ok (.putfield 22, 3) := by decide +kernel
theorem dX3_takeOut_21 : decode cX3_takeOut 21 = .ok (.return_, 1) := by decide +kernel
theorem dX4_init_0 : decode cX4_init 0 = .ok (.aload_n 0, 1) := by decide +kernel
theorem dX4_init_1 : decode cX4_init 1 = .ok (.invokespecial 3, 3) := by decide +kernel
theorem dX4_init_4 : decode cX4_init 4 = .ok (.aload_n 0, 1) := by decide +kernel
theorem dX4_init_5 : decode cX4_init 5 = .ok (.bipush 20, 2) := by decide +kernel
theorem dX4_init_7 : decode cX4_init 7 = .ok (.newarray .int, 2) := by decide +kernel
theorem dX4_init_9 : decode cX4_init 9 = .ok (.putfield 9, 3) := by decide +kernel
theorem dX4_init_12 : decode cX4_init 12 = .ok (.aload_n 0, 1) := by decide +kernel
theorem dX4_init_13 : decode cX4_init 13 = .ok (.bipush 20, 2) := by decide +kernel
theorem dX4_init_15 : decode cX4_init 15 = .ok (.newarray .int, 2) := by decide +kernel
theorem dX4_init_17 : decode cX4_init 17 = .ok (.putfield 15, 3) := by decide +kernel
theorem dX4_init_20 : decode cX4_init 20 = .ok (.aload_n 0, 1) := by decide +kernel
theorem dX4_init_21 : decode cX4_init 21 = .ok (.iconst 3, 1) := by decide +kernel
theorem dX4_init_22 : decode cX4_init 22 = .ok (.newarray .int, 2) := by decide +kernel
theorem dX4_init_24 : decode cX4_init 24 = .ok (.putfield 18, 3) := by decide +kernel
theorem dX4_init_27 : decode cX4_init 27 = .ok (.aload_n 0, 1) := by decide +kernel
theorem dX4_init_28 : decode cX4_init 28 = .ok (.bipush 12, 2) := by decide +kernel
theorem dX4_init_30 : decode cX4_init 30 = .ok (.newarray .int, 2) := by decide +kernel
theorem dX4_init_32 : decode cX4_init 32 = .ok (.putfield 21, 3) := by decide +kernel
theorem dX4_init_35 : decode cX4_init 35 = .ok (.aload_n 0, 1) := by decide +kernel
theorem dX4_init_36 : decode cX4_init 36 = .ok (.bipush 12, 2) := by decide +kernel
theorem dX4_init_38 : decode cX4_init 38 = .ok (.newarray .int, 2) := by decide +kernel
theorem dX4_init_40 : decode cX4_init 40 = .ok (.putfield 24, 3) := by decide +kernel
theorem dX4_init_43 : decode cX4_init 43 = .ok (.aload_n 0, 1) := by decide +kernel
theorem dX4_init_44 : decode cX4_init 44 = .ok (.bipush 12, 2) := by decide +kernel
theorem dX4_init_46 : decode cX4_init 46 = .ok (.newarray .int, 2) := by decide +kernel
theorem dX4_init_48 : decode cX4_init 48 = .ok (.putfield 27, 3) := by decide +kernel
theorem dX4_init_51 : decode cX4_init 51 = .ok (.aload_n 0, 1) := by decide +kernel
theorem dX4_init_52 : decode cX4_init 52 = .ok (.bipush 12, 2) := by decide +kernel
theorem dX4_init_54 : decode cX4_init 54 = .ok (.newarray .int, 2) := by decide +kernel
theorem dX4_init_56 : decode cX4_init 56 = .ok (.putfield 30, 3) := by decide +kernel
theorem dX4_init_59 : decode cX4_init 59 = .ok (.return_, 1) := by decide +kernel
set_option maxRecDepth 20000 in
theorem ggX4_judge_X4_judgeNext : GoodIn wsX4_judge wsX4_judgeNext := goodIn_r _ [13, 14, 5, 15, 16, 17, 18, 3, 19, 20, 4, 21, 22, 23, 12, 24, 25, 26, 27, 28, 29, 30, 31, 32, 33, 34, 35, 36, 37, 38, 43, 44, 45, 46, 47, 48, 49, 50, 51, 52, 53, 54] (by decide +kernel) (by decide +kernel)
set_option maxRecDepth 20000 in
theorem gX4_judge_X4_judgeNext : GoodIn wsX4_judge (wsV RX4 50 RX4 yX4_judgeNext wsX4_judgeNext) := goodIn_app (goodIn_of _ (by decide +kernel)) ggX4_judge_X4_judgeNext
theorem dX4_judge_0 : decode cX4_judge 0 = .ok (.aload_n 0, 1) := by decide +kernel
theorem dX4_judge_1 : decode cX4_judge 1 = .ok (.aload_n 1, 1) := by decide +kernel
theorem dX4_judge_2 : decode cX4_judge 2 = .ok (.getfield 33, 3) := by decide +kernel
theorem dX4_judge_5 : decode cX4_judge 5 = .ok (.putfield 39, 3) := by decide +kernel
theorem dX4_judge_8 : decode cX4_judge 8 = .ok (.aload_n 0, 1) := by decide +kernel
theorem dX4_judge_9 : decode cX4_judge 9 = .ok (.iconst 0, 1) := by decide +kernel
theorem dX4_judge_10 : decode cX4_judge 10 = .ok (.putfield 40, 3) := by decide +kernel
theorem dX4_judge_13 : decode cX4_judge 13 = .ok (.iconst 0, 1) := by decide +kernel
theorem dX4_judge_14 : decode cX4_judge 14 = .ok (.istore_n 2, 1) := by decide +kernel
theorem dX4_judge_15 : decode cX4_judge 15 = .ok (.iload_n 2, 1) := by decide +kernel
theorem dX4_judge_16 : decode cX4_judge 16 = .ok (.iconst 2, 1) := by decide +kernel
theorem dX4_judge_17 : decode cX4_judge 17 = .ok (.if_icmp .gt 16, 3) := by decide +kernel
theorem dX4_judge_20 : decode cX4_judge 20 = .ok (.aload_n 0, 1) := by decide +kernel
theorem dX4_judge_21 : decode cX4_judge 21 = .ok (.getfield 18, 3) := by decide +kernel
theorem dX4_judge_24 : decode cX4_judge 24 = .ok (.iload_n 2, 1) := by decide +kernel
theorem dX4_judge_25 : decode cX4_judge 25 = .ok (.iconst 0, 1) := by decide +kernel
theorem dX4_judge_26 : decode cX4_judge 26 = .ok (.iastore, 1) := by decide +kernel
theorem dX4_judge_27 : decode cX4_judge 27 = .ok (.iinc 2 1, 3) := by decide +kernel
theorem dX4_judge_30 : decode cX4_judge 30 = .ok (.goto (-15), 3) := by decide +kernel
theorem dX4_judge_33 : decode cX4_judge 33 = .ok (.iconst 0, 1) := by decide +kernel
theorem dX4_judge_34 : decode cX4_judge 34 = .ok (.istore_n 2, 1) := by decide +kernel
theorem dX4_judge_35 : decode cX4_judge 35 = .ok (.iload_n 2, 1) := by decide +kernel
theorem dX4_judge_36 : decode cX4_judge 36 = .ok (.bipush 12, 2) := by decide +kernel
theorem dX4_judge_38 : decode cX4_judge 38 = .ok (.if_icmp .ge 16, 3) := by decide +kernel
theorem dX4_judge_41 : decode cX4_judge 41 = .ok (.aload_n 0, 1) := by decide +kernel
theorem dX4_judge_42 : decode cX4_judge 42 = .ok (.getfield 21, 3) := by decide +kernel
theorem dX4_judge_45 : decode cX4_judge 45 = .ok (.iload_n 2, 1) := by decide +kernel
theorem dX4_judge_46 : decode cX4_judge 46 = .ok (.iconst 0, 1) := by decide +kernel
theorem dX4_judge_47 : decode cX4_judge 47 = .ok (.iastore, 1) := by decide +kernel
theorem dX4_judge_48 : decode cX4_judge 48 = .ok (.iinc 2 1, 3) := by decide +kernel
theorem dX4_judge_51 : decode cX4_judge 51 = .ok (.goto (-16), 3) := by decide +kernel
theorem dX4_judge_54 : decode cX4_judge 54 = .ok (.iconst 0, 1) := by decide +kernel
theorem dX4_judge_55 : decode cX4_judge 55 = .ok (.istore_n 2, 1) := by decide +kernel
theorem dX4_judge_56 : decode cX4_judge 56 = .ok (.iload_n 2, 1) := by decide +kernel
theorem dX4_judge_57 : decode cX4_judge 57 = .ok (.aload_n 1, 1) := by decide +kernel
theorem dX4_judge_58 : decode cX4_judge 58 = .ok (.getfield 43, 3) := by decide +kernel
theorem dX4_judge_61 : decode cX4_judge 61 = .ok (.if_icmp .ge 25, 3) := by decide +kernel
theorem dX4_judge_64 : decode cX4_judge 64 = .ok (.aload_n 0, 1) := by decide +kernel
theorem dX4_judge_65 : decode cX4_judge 65 = .ok (.aload_n 1, 1) := by decide +kernel
theorem dX4_judge_66 : decode cX4_judge 66 = .ok (.getfield 44, 3) := by decide +kernel
theorem dX4_judge_69 : decode cX4_judge 69 = .ok (.iload_n 2, 1) := by decide +kernel
theorem dX4_judge_70 : decode cX4_judge 70 = .ok (.iaload, 1) := by decide +kernel
theorem dX4_judge_71 : decode cX4_judge 71 = .ok (.aload_n 1, 1) := by decide +kernel
theorem dX4_judge_72 : decode cX4_judge 72 = .ok (.getfield 47, 3) := by decide +kernel
theorem dX4_judge_75 : decode cX4_judge 75 = .ok (.iload_n 2, 1) := by decide +kernel
theorem dX4_judge_76 : decode cX4_judge 76 = .ok (.iaload, 1) := by decide +kernel
theorem dX4_judge_77 : decode cX4_judge 77 = .ok (.invokevirtual 50, 3) := by decide +kernel
theorem dX4_judge_80 : decode cX4_judge 80 = .ok (.iinc 2 1, 3) := by decide +kernel
theorem dX4_judge_83 : decode cX4_judge 83 = .ok (.goto (-27), 3) := by decide +kernel
theorem dX4_judge_86 : decode cX4_judge 86 = .ok (.return_, 1) := by decide +kernel
set_option maxRecDepth 20000 in
theorem ggX4_judgeNext_X4_stateOf : GoodIn wsX4_judgeNext wsX4_stateOf := goodIn_r _ [15, 1, 4, 16, 17, 18, 14, 19, 6, 2, 3, 5, 30, 31, 32, 33, 34, 35, 36, 37, 38, 39, 40, 41] (by decide +kernel) (by decide +kernel)
set_option maxRecDepth 20000 in
theorem gX4_judgeNext_X4_stateOf : GoodIn wsX4_judgeNext (wsV RX4 54 RX4 yX4_stateOf wsX4_stateOf) := goodIn_app (goodIn_of _ (by decide +kernel)) ggX4_judgeNext_X4_stateOf
set_option maxRecDepth 20000 in
theorem ggX4_judgeNext_X5_lowestBit : GoodIn wsX4_judgeNext wsX5_lowestBit := goodIn_r _ [22, 23, 24, 25, 26, 27, 28, 29] (by decide +kernel) (by decide +kernel)
set_option maxRecDepth 20000 in
theorem gX4_judgeNext_X5_lowestBit_n61 : GoodIn wsX4_judgeNext (wsX5_lowestBit) := ggX4_judgeNext_X5_lowestBit
theorem dX4_judgeNext_0 : decode cX4_judgeNext 0 = .ok (.aload_n 0, 1) := by decide +kernel
theorem dX4_judgeNext_1 : decode cX4_judgeNext 1 = .ok (.iload_n 1, 1) := by decide +kernel
theorem dX4_judgeNext_2 : decode cX4_judgeNext 2 = .ok (.iload_n 2, 1) := by decide +kernel
theorem dX4_judgeNext_3 : decode cX4_judgeNext 3 = .ok (.invokevirtual 54, 3) := by decide +kernel
theorem dX4_judgeNext_6 : decode cX4_judgeNext 6 = .ok (.istore_n 3, 1) := by decide +kernel
theorem dX4_judgeNext_7 : decode cX4_judgeNext 7 = .ok (.iload_n 3, 1) := by decide +kernel
theorem dX4_judgeNext_8 : decode cX4_judgeNext 8 = .ok (.ifCond .ne 52, 3) := by decide +kernel
theorem dX4_judgeNext_11 : decode cX4_judgeNext 11 = .ok (.aload_n 0, 1) := by decide +kernel
theorem dX4_judgeNext_12 : decode cX4_judgeNext 12 = .ok (.getfield 58, 3) := by decide +kernel
theorem dX4_judgeNext_15 : decode cX4_judgeNext 15 = .ok (.invokestatic 61, 3) := by decide +kernel
theorem dX4_judgeNext_18 : decode cX4_judgeNext 18 = .ok (.istore 4, 2) := by decide +kernel
theorem dX4_judgeNext_20 : decode cX4_judgeNext 20 = .ok (.aload_n 0, 1) := by decide +kernel
theorem dX4_judgeNext_21 : decode cX4_judgeNext 21 = .ok (.getfield 21, 3) := by decide +kernel
theorem dX4_judgeNext_24 : decode cX4_judgeNext 24 = .ok (.iload 4, 2) := by decide +kernel
theorem dX4_judgeNext_26 : decode cX4_judgeNext 26 = .ok (.aload_n 0, 1) := by decide +kernel
theorem dX4_judgeNext_27 : decode cX4_judgeNext 27 = .ok (.getfield 58, 3) := by decide +kernel
theorem dX4_judgeNext_30 : decode cX4_judgeNext 30 = .ok (.iastore, 1) := by decide +kernel
theorem dX4_judgeNext_31 : decode cX4_judgeNext 31 = .ok (.aload_n 0, 1) := by decide +kernel
theorem dX4_judgeNext_32 : decode cX4_judgeNext 32 = .ok (.getfield 24, 3) := by decide +kernel
theorem dX4_judgeNext_35 : decode cX4_judgeNext 35 = .ok (.iload 4, 2) := by decide +kernel
theorem dX4_judgeNext_37 : decode cX4_judgeNext 37 = .ok (.aload_n 0, 1) := by decide +kernel
theorem dX4_judgeNext_38 : decode cX4_judgeNext 38 = .ok (.getfield 65, 3) := by decide +kernel
theorem dX4_judgeNext_41 : decode cX4_judgeNext 41 = .ok (.iastore, 1) := by decide +kernel
theorem dX4_judgeNext_42 : decode cX4_judgeNext 42 = .ok (.aload_n 0, 1) := by decide +kernel
theorem dX4_judgeNext_43 : decode cX4_judgeNext 43 = .ok (.getfield 27, 3) := by decide +kernel
theorem dX4_judgeNext_46 : decode cX4_judgeNext 46 = .ok (.iload 4, 2) := by decide +kernel
theorem dX4_judgeNext_48 : decode cX4_judgeNext 48 = .ok (.aload_n 0, 1) := by decide +kernel
theorem dX4_judgeNext_49 : decode cX4_judgeNext 49 = .ok (.getfield 68, 3) := by decide +kernel
theorem dX4_judgeNext_52 : decode cX4_judgeNext 52 = .ok (.iconst 1, 1) := by decide +kernel
theorem dX4_judgeNext_53 : decode cX4_judgeNext 53 = .ok (.aload_n 0, 1) := by decide +kernel
theorem dX4_judgeNext_54 : decode cX4_judgeNext 54 = .ok (.getfield 40, 3) := by decide +kernel
theorem dX4_judgeNext_57 : decode cX4_judgeNext 57 = .ok (.ishl, 1) := by decide +kernel
theorem dX4_judgeNext_58 : decode cX4_judgeNext 58 = .ok (.ior, 1) := by decide +kernel
theorem dX4_judgeNext_59 : decode cX4_judgeNext 59 = .ok (.iastore, 1) := by decide +kernel
theorem dX4_judgeNext_60 : decode cX4_judgeNext 60 = .ok (.aload_n 0, 1) := by decide +kernel
theorem dX4_judgeNext_61 : decode cX4_judgeNext 61 = .ok (.getfield 9, 3) := by decide +kernel
theorem dX4_judgeNext_64 : decode cX4_judgeNext 64 = .ok (.aload_n 0, 1) := by decide +kernel
theorem dX4_judgeNext_65 : decode cX4_judgeNext 65 = .ok (.getfield 40, 3) := by decide +kernel
theorem dX4_judgeNext_68 : decode cX4_judgeNext 68 = .ok (.iload_n 3, 1) := by decide +kernel
theorem dX4_judgeNext_69 : decode cX4_judgeNext 69 = .ok (.iastore, 1) := by decide +kernel
theorem dX4_judgeNext_70 : decode cX4_judgeNext 70 = .ok (.aload_n 0, 1) := by decide +kernel
theorem dX4_judgeNext_71 : decode cX4_judgeNext 71 = .ok (.getfield 15, 3) := by decide +kernel
theorem dX4_judgeNext_74 : decode cX4_judgeNext 74 = .ok (.aload_n 0, 1) := by decide +kernel
theorem dX4_judgeNext_75 : decode cX4_judgeNext 75 = .ok (.getfield 40, 3) := by decide +kernel
theorem dX4_judgeNext_78 : decode cX4_judgeNext 78 = .ok (.iload_n 3, 1) := by decide +kernel
theorem dX4_judgeNext_79 : decode cX4_judgeNext 79 = .ok (.ifCond .ne 7, 3) := by decide +kernel
theorem dX4_judgeNext_82 : decode cX4_judgeNext 82 = .ok (.iconst 0, 1) := by decide +kernel
theorem dX4_judgeNext_83 : decode cX4_judgeNext 83 = .ok (.goto 7, 3) := by decide +kernel
theorem dX4_judgeNext_86 : decode cX4_judgeNext 86 = .ok (.aload_n 0, 1) := by decide +kernel
theorem dX4_judgeNext_87 : decode cX4_judgeNext 87 = .ok (.getfield 68, 3) := by decide +kernel
theorem dX4_judgeNext_90 : decode cX4_judgeNext 90 = .ok (.iastore, 1) := by decide +kernel
theorem dX4_judgeNext_91 : decode cX4_judgeNext 91 = .ok (.aload_n 0, 1) := by decide +kernel
theorem dX4_judgeNext_92 : decode cX4_judgeNext 92 = .ok (.getfield 18, 3) := by decide +kernel
theorem dX4_judgeNext_95 : decode cX4_judgeNext 95 = .ok (.iload_n 3, 1) := by decide +kernel
theorem dX4_judgeNext_96 : decode cX4_judgeNext 96 = .ok (.dup2, 1) := by decide +kernel
theorem dX4_judgeNext_97 : decode cX4_judgeNext 97 = .ok (.iaload, 1) := by decide +kernel
theorem dX4_judgeNext_98 : decode cX4_judgeNext 98 = .ok (.iconst 1, 1) := by decide +kernel
theorem dX4_judgeNext_99 : decode cX4_judgeNext 99 = .ok (.iadd, 1) := by decide +kernel
theorem dX4_judgeNext_100 : decode cX4_judgeNext 100 = .ok (.iastore, 1) := by decide +kernel
theorem dX4_judgeNext_101 : decode cX4_judgeNext 101 = .ok (.aload_n 0, 1) := by decide +kernel
theorem dX4_judgeNext_102 : decode cX4_judgeNext 102 = .ok (.dup, 1) := by decide +kernel
theorem dX4_judgeNext_103 : decode cX4_judgeNext 103 = .ok (.getfield 40, 3) := by decide +kernel
theorem dX4_judgeNext_106 : decode cX4_judgeNext 106 = .ok (.iconst 1, 1) := by decide +kernel
theorem dX4_judgeNext_107 : decode cX4_judgeNext 107 = .ok (.iadd, 1) := by decide +kernel
theorem dX4_judgeNext_108 : decode cX4_judgeNext 108 = .ok (.putfield 40, 3) := by decide +kernel
theorem dX4_judgeNext_111 : decode cX4_judgeNext 111 = .ok (.return_, 1) := by decide +kernel
set_option maxRecDepth 20000 in
theorem ggX4_stateOf_X4_combine : GoodIn wsX4_stateOf wsX4_combine := goodIn_r _ [7, 1, 2, 8, 9, 10, 11, 12, 13, 14, 15, 16, 17, 18, 19, 20, 21, 22, 23] (by decide +kernel) (by decide +kernel)
set_option maxRecDepth 20000 in
theorem gX4_stateOf_X4_combine : GoodIn wsX4_stateOf (wsV RX4 71 RX4 yX4_combine wsX4_combine) := goodIn_app (goodIn_of _ (by decide +kernel)) ggX4_stateOf_X4_combine
theorem dX4_stateOf_0 : decode cX4_stateOf 0 = .ok (.aload_n 0, 1) := by decide +kernel
theorem dX4_stateOf_1 : decode cX4_stateOf 1 = .ok (.iload_n 1, 1) := by decide +kernel
theorem dX4_stateOf_2 : decode cX4_stateOf 2 = .ok (.iload_n 2, 1) := by decide +kernel
theorem dX4_stateOf_3 : decode cX4_stateOf 3 = .ok (.invokevirtual 71, 3) := by decide +kernel
theorem dX4_stateOf_6 : decode cX4_stateOf 6 = .ok (.aload_n 0, 1) := by decide +kernel
theorem dX4_stateOf_7 : decode cX4_stateOf 7 = .ok (.getfield 58, 3) := by decide +kernel
theorem dX4_stateOf_10 : decode cX4_stateOf 10 = .ok (.ifCond .eq 5, 3) := by decide +kernel
theorem dX4_stateOf_13 : decode cX4_stateOf 13 = .ok (.iconst 0, 1) := by decide +kernel
theorem dX4_stateOf_14 : decode cX4_stateOf 14 = .ok (.ireturn, 1) := by decide +kernel
theorem dX4_stateOf_15 : decode cX4_stateOf 15 = .ok (.aload_n 0, 1) := by decide +kernel
theorem dX4_stateOf_16 : decode cX4_stateOf 16 = .ok (.getfield 65, 3) := by decide +kernel
theorem dX4_stateOf_19 : decode cX4_stateOf 19 = .ok (.ifCond .ne 7, 3) := by decide +kernel
theorem dX4_stateOf_22 : decode cX4_stateOf 22 = .ok (.iconst 1, 1) := by decide +kernel
theorem dX4_stateOf_23 : decode cX4_stateOf 23 = .ok (.goto 4, 3) := by decide +kernel
theorem dX4_stateOf_26 : decode cX4_stateOf 26 = .ok (.iconst 2, 1) := by decide +kernel
theorem dX4_stateOf_27 : decode cX4_stateOf 27 = .ok (.ireturn, 1) := by decide +kernel
set_option maxRecDepth 20000 in
theorem ggX4_sumOf_X4_combine : GoodIn wsX4_sumOf wsX4_combine := goodIn_r _ [7, 1, 2, 8, 9, 10, 11, 12, 13, 14, 15, 16, 17, 18, 19, 20, 21, 22, 23] (by decide +kernel) (by decide +kernel)
set_option maxRecDepth 20000 in
theorem gX4_sumOf_X4_combine : GoodIn wsX4_sumOf (wsV RX4 71 RX4 yX4_combine wsX4_combine) := goodIn_app (goodIn_of _ (by decide +kernel)) ggX4_sumOf_X4_combine
theorem dX4_sumOf_0 : decode cX4_sumOf 0 = .ok (.aload_n 0, 1) := by decide +kernel
theorem dX4_sumOf_1 : decode cX4_sumOf 1 = .ok (.iload_n 1, 1) := by decide +kernel
theorem dX4_sumOf_2 : decode cX4_sumOf 2 = .ok (.iconst 0, 1) := by decide +kernel
theorem dX4_sumOf_3 : decode cX4_sumOf 3 = .ok (.invokevirtual 71, 3) := by decide +kernel
theorem dX4_sumOf_6 : decode cX4_sumOf 6 = .ok (.aload_n 0, 1) := by decide +kernel
theorem dX4_sumOf_7 : decode cX4_sumOf 7 = .ok (.getfield 58, 3) := by decide +kernel
theorem dX4_sumOf_10 : decode cX4_sumOf 10 = .ok (.ifCond .ne 10, 3) := by decide +kernel
theorem dX4_sumOf_13 : decode cX4_sumOf 13 = .ok (.aload_n 0, 1) := by decide +kernel
theorem dX4_sumOf_14 : decode cX4_sumOf 14 = .ok (.getfield 65, 3) := by decide +kernel
theorem dX4_sumOf_17 : decode cX4_sumOf 17 = .ok (.goto 5, 3) := by decide +kernel
theorem dX4_sumOf_20 : decode cX4_sumOf 20 = .ok (.bipush (-6), 2) := by decide +kernel
theorem dX4_sumOf_22 : decode cX4_sumOf 22 = .ok (.ireturn, 1) := by decide +kernel
theorem dX4_combine_0 : decode cX4_combine 0 = .ok (.aload_n 0, 1) := by decide +kernel
theorem dX4_combine_1 : decode cX4_combine 1 = .ok (.iload_n 1, 1) := by decide +kernel
theorem dX4_combine_2 : decode cX4_combine 2 = .ok (.putfield 58, 3) := by decide +kernel
theorem dX4_combine_5 : decode cX4_combine 5 = .ok (.aload_n 0, 1) := by decide +kernel
theorem dX4_combine_6 : decode cX4_combine 6 = .ok (.iload_n 2, 1) := by decide +kernel
theorem dX4_combine_7 : decode cX4_combine 7 = .ok (.putfield 65, 3) := by decide +kernel
theorem dX4_combine_10 : decode cX4_combine 10 = .ok (.aload_n 0, 1) := by decide +kernel
theorem dX4_combine_11 : decode cX4_combine 11 = .ok (.iconst 0, 1) := by decide +kernel
theorem dX4_combine_12 : decode cX4_combine 12 = .ok (.putfield 68, 3) := by decide +kernel
theorem dX4_combine_15 : decode cX4_combine 15 = .ok (.iconst 0, 1) := by decide +kernel
theorem dX4_combine_16 : decode cX4_combine 16 = .ok (.istore_n 3, 1) := by decide +kernel
theorem dX4_combine_17 : decode cX4_combine 17 = .ok (.iload_n 3, 1) := by decide +kernel
theorem dX4_combine_18 : decode cX4_combine 18 = .ok (.bipush 12, 2) := by decide +kernel
theorem dX4_combine_20 : decode cX4_combine 20 = .ok (.if_icmp .ge 75, 3) := by decide +kernel
theorem dX4_combine_23 : decode cX4_combine 23 = .ok (.aload_n 0, 1) := by decide +kernel
theorem dX4_combine_24 : decode cX4_combine 24 = .ok (.getfield 58, 3) := by decide +kernel
theorem dX4_combine_27 : decode cX4_combine 27 = .ok (.iload_n 3, 1) := by decide +kernel
theorem dX4_combine_28 : decode cX4_combine 28 = .ok (.ishr, 1) := by decide +kernel
theorem dX4_combine_29 : decode cX4_combine 29 = .ok (.iconst 1, 1) := by decide +kernel
theorem dX4_combine_30 : decode cX4_combine 30 = .ok (.iand, 1) := by decide +kernel
theorem dX4_combine_31 : decode cX4_combine 31 = .ok (.iconst 1, 1) := by decide +kernel
theorem dX4_combine_32 : decode cX4_combine 32 = .ok (.if_icmp .ne 57, 3) := by decide +kernel
theorem dX4_combine_35 : decode cX4_combine 35 = .ok (.aload_n 0, 1) := by decide +kernel
theorem dX4_combine_36 : decode cX4_combine 36 = .ok (.getfield 21, 3) := by decide +kernel
theorem dX4_combine_39 : decode cX4_combine 39 = .ok (.iload_n 3, 1) := by decide +kernel
theorem dX4_combine_40 : decode cX4_combine 40 = .ok (.iaload, 1) := by decide +kernel
theorem dX4_combine_41 : decode cX4_combine 41 = .ok (.ifCond .eq 48, 3) := by decide +kernel
theorem dX4_combine_44 : decode cX4_combine 44 = .ok (.aload_n 0, 1) := by decide +kernel
theorem dX4_combine_45 : decode cX4_combine 45 = .ok (.dup, 1) := by decide +kernel
theorem dX4_combine_46 : decode cX4_combine 46 = .ok (.getfield 58, 3) := by decide +kernel
theorem dX4_combine_49 : decode cX4_combine 49 = .ok (.aload_n 0, 1) := by decide +kernel
theorem dX4_combine_50 : decode cX4_combine 50 = .ok (.getfield 21, 3) := by decide +kernel
theorem dX4_combine_53 : decode cX4_combine 53 = .ok (.iload_n 3, 1) := by decide +kernel
theorem dX4_combine_54 : decode cX4_combine 54 = .ok (.iaload, 1) := by decide +kernel
theorem dX4_combine_55 : decode cX4_combine 55 = .ok (.ixor, 1) := by decide +kernel
theorem dX4_combine_56 : decode cX4_combine 56 = .ok (.putfield 58, 3) := by decide +kernel
theorem dX4_combine_59 : decode cX4_combine 59 = .ok (.aload_n 0, 1) := by decide +kernel
theorem dX4_combine_60 : decode cX4_combine 60 = .ok (.dup, 1) := by decide +kernel
theorem dX4_combine_61 : decode cX4_combine 61 = .ok (.getfield 65, 3) := by decide +kernel
theorem dX4_combine_64 : decode cX4_combine 64 = .ok (.aload_n 0, 1) := by decide +kernel
theorem dX4_combine_65 : decode cX4_combine 65 = .ok (.getfield 24, 3) := by decide +kernel
theorem dX4_combine_68 : decode cX4_combine 68 = .ok (.iload_n 3, 1) := by decide +kernel
theorem dX4_combine_69 : decode cX4_combine 69 = .ok (.iaload, 1) := by decide +kernel
theorem dX4_combine_70 : decode cX4_combine 70 = .ok (.ixor, 1) := by decide +kernel
theorem dX4_combine_71 : decode cX4_combine 71 = .ok (.putfield 65, 3) := by decide +kernel
theorem dX4_combine_74 : decode cX4_combine 74 = .ok (.aload_n 0, 1) := by decide +kernel
theorem dX4_combine_75 : decode cX4_combine 75 = .ok (.dup, 1) := by decide +kernel
theorem dX4_combine_76 : decode cX4_combine 76 = .ok (.getfield 68, 3) := by decide +kernel
theorem dX4_combine_79 : decode cX4_combine 79 = .ok (.aload_n 0, 1) := by decide +kernel
theorem dX4_combine_80 : decode cX4_combine 80 = .ok (.getfield 27, 3) := by decide +kernel
theorem dX4_combine_83 : decode cX4_combine 83 = .ok (.iload_n 3, 1) := by decide +kernel
theorem dX4_combine_84 : decode cX4_combine 84 = .ok (.iaload, 1) := by decide +kernel
theorem dX4_combine_85 : decode cX4_combine 85 = .ok (.ixor, 1) := by decide +kernel
theorem dX4_combine_86 : decode cX4_combine 86 = .ok (.putfield 68, 3) := by decide +kernel
theorem dX4_combine_89 : decode cX4_combine 89 = .ok (.iinc 3 1, 3) := by decide +kernel
theorem dX4_combine_92 : decode cX4_combine 92 = .ok (.goto (-75), 3) := by decide +kernel
theorem dX4_combine_95 : decode cX4_combine 95 = .ok (.return_, 1) := by decide +kernel
theorem dX4_reasonsWith_0 : decode cX4_reasonsWith 0 = .ok (.iconst 0, 1) := by decide +kernel
theorem dX4_reasonsWith_1 : decode cX4_reasonsWith 1 = .ok (.istore_n 2, 1) := by decide +kernel
theorem dX4_reasonsWith_2 : decode cX4_reasonsWith 2 = .ok (.iconst 0, 1) := by decide +kernel
theorem dX4_reasonsWith_3 : decode cX4_reasonsWith 3 = .ok (.istore_n 3, 1) := by decide +kernel
theorem dX4_reasonsWith_4 : decode cX4_reasonsWith 4 = .ok (.iload_n 3, 1) := by decide +kernel
theorem dX4_reasonsWith_5 : decode cX4_reasonsWith 5 = .ok (.aload_n 0, 1) := by decide +kernel
theorem dX4_reasonsWith_6 : decode cX4_reasonsWith 6 = .ok (.getfield 40, 3) := by decide +kernel
theorem dX4_reasonsWith_9 : decode cX4_reasonsWith 9 = .ok (.if_icmp .ge 22, 3) := by decide +kernel
theorem dX4_reasonsWith_12 : decode cX4_reasonsWith 12 = .ok (.iload_n 2, 1) := by decide +kernel
theorem dX4_reasonsWith_13 : decode cX4_reasonsWith 13 = .ok (.aload_n 0, 1) := by decide +kernel
theorem dX4_reasonsWith_14 : decode cX4_reasonsWith 14 = .ok (.getfield 15, 3) := by decide +kernel
theorem dX4_reasonsWith_17 : decode cX4_reasonsWith 17 = .ok (.iload_n 3, 1) := by decide +kernel
theorem dX4_reasonsWith_18 : decode cX4_reasonsWith 18 = .ok (.iaload, 1) := by decide +kernel
theorem dX4_reasonsWith_19 : decode cX4_reasonsWith 19 = .ok (.iload_n 1, 1) := by decide +kernel
theorem dX4_reasonsWith_20 : decode cX4_reasonsWith 20 = .ok (.ishr, 1) := by decide +kernel
theorem dX4_reasonsWith_21 : decode cX4_reasonsWith 21 = .ok (.iconst 1, 1) := by decide +kernel
theorem dX4_reasonsWith_22 : decode cX4_reasonsWith 22 = .ok (.iand, 1) := by decide +kernel
theorem dX4_reasonsWith_23 : decode cX4_reasonsWith 23 = .ok (.iadd, 1) := by decide +kernel
theorem dX4_reasonsWith_24 : decode cX4_reasonsWith 24 = .ok (.istore_n 2, 1) := by decide +kernel
theorem dX4_reasonsWith_25 : decode cX4_reasonsWith 25 = .ok (.iinc 3 1, 3) := by decide +kernel
theorem dX4_reasonsWith_28 : decode cX4_reasonsWith 28 = .ok (.goto (-24), 3) := by decide +kernel
theorem dX4_reasonsWith_31 : decode cX4_reasonsWith 31 = .ok (.iload_n 2, 1) := by decide +kernel
theorem dX4_reasonsWith_32 : decode cX4_reasonsWith 32 = .ok (.ireturn, 1) := by decide +kernel
set_option maxRecDepth 20000 in
theorem ggX4_settled_X4_sumOf : GoodIn wsX4_settled wsX4_sumOf := goodIn_r _ [6, 7, 8, 9, 10, 11, 5, 12, 13, 14, 15, 16, 17, 18, 19, 20, 21, 22, 23, 24, 25, 26, 27, 28] (by decide +kernel) (by decide +kernel)
set_option maxRecDepth 20000 in
theorem gX4_settled_X4_sumOf : GoodIn wsX4_settled (wsV RX4 74 RX4 yX4_sumOf wsX4_sumOf) := goodIn_app (goodIn_of _ (by decide +kernel)) ggX4_settled_X4_sumOf
theorem dX4_settled_0 : decode cX4_settled 0 = .ok (.iconst 0, 1) := by decide +kernel
theorem dX4_settled_1 : decode cX4_settled 1 = .ok (.istore_n 1, 1) := by decide +kernel
theorem dX4_settled_2 : decode cX4_settled 2 = .ok (.iconst 0, 1) := by decide +kernel
theorem dX4_settled_3 : decode cX4_settled 3 = .ok (.istore_n 2, 1) := by decide +kernel
theorem dX4_settled_4 : decode cX4_settled 4 = .ok (.iload_n 2, 1) := by decide +kernel
theorem dX4_settled_5 : decode cX4_settled 5 = .ok (.aload_n 0, 1) := by decide +kernel
theorem dX4_settled_6 : decode cX4_settled 6 = .ok (.getfield 39, 3) := by decide +kernel
theorem dX4_settled_9 : decode cX4_settled 9 = .ok (.if_icmp .ge 27, 3) := by decide +kernel
theorem dX4_settled_12 : decode cX4_settled 12 = .ok (.aload_n 0, 1) := by decide +kernel
theorem dX4_settled_13 : decode cX4_settled 13 = .ok (.iconst 1, 1) := by decide +kernel
theorem dX4_settled_14 : decode cX4_settled 14 = .ok (.iload_n 2, 1) := by decide +kernel
theorem dX4_settled_15 : decode cX4_settled 15 = .ok (.ishl, 1) := by decide +kernel
theorem dX4_settled_16 : decode cX4_settled 16 = .ok (.invokevirtual 74, 3) := by decide +kernel
theorem dX4_settled_19 : decode cX4_settled 19 = .ok (.bipush (-6), 2) := by decide +kernel
theorem dX4_settled_21 : decode cX4_settled 21 = .ok (.if_icmp .eq 9, 3) := by decide +kernel
theorem dX4_settled_24 : decode cX4_settled 24 = .ok (.iload_n 1, 1) := by decide +kernel
theorem dX4_settled_25 : decode cX4_settled 25 = .ok (.iconst 1, 1) := by decide +kernel
theorem dX4_settled_26 : decode cX4_settled 26 = .ok (.iload_n 2, 1) := by decide +kernel
theorem dX4_settled_27 : decode cX4_settled 27 = .ok (.ishl, 1) := by decide +kernel
theorem dX4_settled_28 : decode cX4_settled 28 = .ok (.ior, 1) := by decide +kernel
theorem dX4_settled_29 : decode cX4_settled 29 = .ok (.istore_n 1, 1) := by decide +kernel
theorem dX4_settled_30 : decode cX4_settled 30 = .ok (.iinc 2 1, 3) := by decide +kernel
theorem dX4_settled_33 : decode cX4_settled 33 = .ok (.goto (-29), 3) := by decide +kernel
theorem dX4_settled_36 : decode cX4_settled 36 = .ok (.iload_n 1, 1) := by decide +kernel
theorem dX4_settled_37 : decode cX4_settled 37 = .ok (.ireturn, 1) := by decide +kernel
set_option maxRecDepth 20000 in
theorem ggX4_boundTo_X4_sumOf : GoodIn wsX4_boundTo wsX4_sumOf := goodIn_r _ [6, 7, 8, 9, 10, 11, 5, 12, 13, 14, 15, 16, 17, 18, 19, 20, 21, 22, 23, 24, 25, 26, 27, 28] (by decide +kernel) (by decide +kernel)
set_option maxRecDepth 20000 in
theorem gX4_boundTo_X4_sumOf : GoodIn wsX4_boundTo (wsV RX4 74 RX4 yX4_sumOf wsX4_sumOf) := goodIn_app (goodIn_of _ (by decide +kernel)) ggX4_boundTo_X4_sumOf
theorem dX4_boundTo_0 : decode cX4_boundTo 0 = .ok (.iconst 1, 1) := by decide +kernel
theorem dX4_boundTo_1 : decode cX4_boundTo 1 = .ok (.iload_n 1, 1) := by decide +kernel
theorem dX4_boundTo_2 : decode cX4_boundTo 2 = .ok (.ishl, 1) := by decide +kernel
theorem dX4_boundTo_3 : decode cX4_boundTo 3 = .ok (.istore_n 2, 1) := by decide +kernel
theorem dX4_boundTo_4 : decode cX4_boundTo 4 = .ok (.aload_n 0, 1) := by decide +kernel
theorem dX4_boundTo_5 : decode cX4_boundTo 5 = .ok (.iload_n 2, 1) := by decide +kernel
theorem dX4_boundTo_6 : decode cX4_boundTo 6 = .ok (.invokevirtual 74, 3) := by decide +kernel
theorem dX4_boundTo_9 : decode cX4_boundTo 9 = .ok (.bipush (-6), 2) := by decide +kernel
theorem dX4_boundTo_11 : decode cX4_boundTo 11 = .ok (.if_icmp .eq 5, 3) := by decide +kernel
theorem dX4_boundTo_14 : decode cX4_boundTo 14 = .ok (.iconst 0, 1) := by decide +kernel
theorem dX4_boundTo_15 : decode cX4_boundTo 15 = .ok (.ireturn, 1) := by decide +kernel
theorem dX4_boundTo_16 : decode cX4_boundTo 16 = .ok (.iconst 0, 1) := by decide +kernel
theorem dX4_boundTo_17 : decode cX4_boundTo 17 = .ok (.istore_n 3, 1) := by decide +kernel
theorem dX4_boundTo_18 : decode cX4_boundTo 18 = .ok (.iconst 0, 1) := by decide +kernel
theorem dX4_boundTo_19 : decode cX4_boundTo 19 = .ok (.istore 4, 2) := by decide +kernel
theorem dX4_boundTo_21 : decode cX4_boundTo 21 = .ok (.iload 4, 2) := by decide +kernel
theorem dX4_boundTo_23 : decode cX4_boundTo 23 = .ok (.aload_n 0, 1) := by decide +kernel
theorem dX4_boundTo_24 : decode cX4_boundTo 24 = .ok (.getfield 39, 3) := by decide +kernel
theorem dX4_boundTo_27 : decode cX4_boundTo 27 = .ok (.if_icmp .ge 37, 3) := by decide +kernel
theorem dX4_boundTo_30 : decode cX4_boundTo 30 = .ok (.iload 4, 2) := by decide +kernel
theorem dX4_boundTo_32 : decode cX4_boundTo 32 = .ok (.iload_n 1, 1) := by decide +kernel
theorem dX4_boundTo_33 : decode cX4_boundTo 33 = .ok (.if_icmp .eq 25, 3) := by decide +kernel
theorem dX4_boundTo_36 : decode cX4_boundTo 36 = .ok (.aload_n 0, 1) := by decide +kernel
theorem dX4_boundTo_37 : decode cX4_boundTo 37 = .ok (.iload_n 2, 1) := by decide +kernel
theorem dX4_boundTo_38 : decode cX4_boundTo 38 = .ok (.iconst 1, 1) := by decide +kernel
theorem dX4_boundTo_39 : decode cX4_boundTo 39 = .ok (.iload 4, 2) := by decide +kernel
theorem dX4_boundTo_41 : decode cX4_boundTo 41 = .ok (.ishl, 1) := by decide +kernel
theorem dX4_boundTo_42 : decode cX4_boundTo 42 = .ok (.ior, 1) := by decide +kernel
theorem dX4_boundTo_43 : decode cX4_boundTo 43 = .ok (.invokevirtual 74, 3) := by decide +kernel
theorem dX4_boundTo_46 : decode cX4_boundTo 46 = .ok (.bipush (-6), 2) := by decide +kernel
theorem dX4_boundTo_48 : decode cX4_boundTo 48 = .ok (.if_icmp .eq 10, 3) := by decide +kernel
theorem dX4_boundTo_51 : decode cX4_boundTo 51 = .ok (.iload_n 3, 1) := by decide +kernel
theorem dX4_boundTo_52 : decode cX4_boundTo 52 = .ok (.iconst 1, 1) := by decide +kernel
theorem dX4_boundTo_53 : decode cX4_boundTo 53 = .ok (.iload 4, 2) := by decide +kernel
theorem dX4_boundTo_55 : decode cX4_boundTo 55 = .ok (.ishl, 1) := by decide +kernel
theorem dX4_boundTo_56 : decode cX4_boundTo 56 = .ok (.ior, 1) := by decide +kernel
theorem dX4_boundTo_57 : decode cX4_boundTo 57 = .ok (.istore_n 3, 1) := by decide +kernel
theorem dX4_boundTo_58 : decode cX4_boundTo 58 = .ok (.iinc 4 1, 3) := by decide +kernel
theorem dX4_boundTo_61 : decode cX4_boundTo 61 = .ok (.goto (-40), 3) := by decide +kernel
theorem dX4_boundTo_64 : decode cX4_boundTo 64 = .ok (.iload_n 3, 1) := by decide +kernel
theorem dX4_boundTo_65 : decode cX4_boundTo 65 = .ok (.ireturn, 1) := by decide +kernel
theorem dX4_answers_0 : decode cX4_answers 0 = .ok (.iconst 1, 1) := by decide +kernel
theorem dX4_answers_1 : decode cX4_answers 1 = .ok (.aload_n 0, 1) := by decide +kernel
theorem dX4_answers_2 : decode cX4_answers 2 = .ok (.getfield 39, 3) := by decide +kernel
theorem dX4_answers_5 : decode cX4_answers 5 = .ok (.aload_n 0, 1) := by decide +kernel
theorem dX4_answers_6 : decode cX4_answers 6 = .ok (.getfield 18, 3) := by decide +kernel
theorem dX4_answers_9 : decode cX4_answers 9 = .ok (.iconst 0, 1) := by decide +kernel
theorem dX4_answers_10 : decode cX4_answers 10 = .ok (.iaload, 1) := by decide +kernel
theorem dX4_answers_11 : decode cX4_answers 11 = .ok (.isub, 1) := by decide +kernel
theorem dX4_answers_12 : decode cX4_answers 12 = .ok (.ishl, 1) := by decide +kernel
theorem dX4_answers_13 : decode cX4_answers 13 = .ok (.ireturn, 1) := by decide +kernel
set_option maxRecDepth 20000 in
theorem ggX4_answerAt_X5_parity : GoodIn wsX4_answerAt wsX5_parity := goodIn_r _ [7, 8, 9, 10, 11, 12, 13, 14] (by decide +kernel) (by decide +kernel)
set_option maxRecDepth 20000 in
theorem gX4_answerAt_X5_parity_n77 : GoodIn wsX4_answerAt (wsX5_parity) := ggX4_answerAt_X5_parity
theorem dX4_answerAt_0 : decode cX4_answerAt 0 = .ok (.aload_n 0, 1) := by decide +kernel
theorem dX4_answerAt_1 : decode cX4_answerAt 1 = .ok (.getfield 39, 3) := by decide +kernel
theorem dX4_answerAt_4 : decode cX4_answerAt 4 = .ok (.aload_n 0, 1) := by decide +kernel
theorem dX4_answerAt_5 : decode cX4_answerAt 5 = .ok (.getfield 18, 3) := by decide +kernel
theorem dX4_answerAt_8 : decode cX4_answerAt 8 = .ok (.iconst 0, 1) := by decide +kernel
theorem dX4_answerAt_9 : decode cX4_answerAt 9 = .ok (.iaload, 1) := by decide +kernel
theorem dX4_answerAt_10 : decode cX4_answerAt 10 = .ok (.isub, 1) := by decide +kernel
theorem dX4_answerAt_11 : decode cX4_answerAt 11 = .ok (.istore_n 2, 1) := by decide +kernel
theorem dX4_answerAt_12 : decode cX4_answerAt 12 = .ok (.iconst 0, 1) := by decide +kernel
theorem dX4_answerAt_13 : decode cX4_answerAt 13 = .ok (.istore_n 3, 1) := by decide +kernel
theorem dX4_answerAt_14 : decode cX4_answerAt 14 = .ok (.aload_n 0, 1) := by decide +kernel
theorem dX4_answerAt_15 : decode cX4_answerAt 15 = .ok (.getfield 39, 3) := by decide +kernel
theorem dX4_answerAt_18 : decode cX4_answerAt 18 = .ok (.iconst 1, 1) := by decide +kernel
theorem dX4_answerAt_19 : decode cX4_answerAt 19 = .ok (.isub, 1) := by decide +kernel
theorem dX4_answerAt_20 : decode cX4_answerAt 20 = .ok (.istore 4, 2) := by decide +kernel
theorem dX4_answerAt_22 : decode cX4_answerAt 22 = .ok (.iload 4, 2) := by decide +kernel
theorem dX4_answerAt_24 : decode cX4_answerAt 24 = .ok (.ifCond .lt 62, 3) := by decide +kernel
theorem dX4_answerAt_27 : decode cX4_answerAt 27 = .ok (.aload_n 0, 1) := by decide +kernel
theorem dX4_answerAt_28 : decode cX4_answerAt 28 = .ok (.getfield 21, 3) := by decide +kernel
theorem dX4_answerAt_31 : decode cX4_answerAt 31 = .ok (.iload 4, 2) := by decide +kernel
theorem dX4_answerAt_33 : decode cX4_answerAt 33 = .ok (.iaload, 1) := by decide +kernel
theorem dX4_answerAt_34 : decode cX4_answerAt 34 = .ok (.ifCond .ne 16, 3) := by decide +kernel
theorem dX4_answerAt_37 : decode cX4_answerAt 37 = .ok (.iinc 2 (-1), 3) := by decide +kernel
theorem dX4_answerAt_40 : decode cX4_answerAt 40 = .ok (.iload_n 1, 1) := by decide +kernel
theorem dX4_answerAt_41 : decode cX4_answerAt 41 = .ok (.iload_n 2, 1) := by decide +kernel
theorem dX4_answerAt_42 : decode cX4_answerAt 42 = .ok (.ishr, 1) := by decide +kernel
theorem dX4_answerAt_43 : decode cX4_answerAt 43 = .ok (.iconst 1, 1) := by decide +kernel
theorem dX4_answerAt_44 : decode cX4_answerAt 44 = .ok (.iand, 1) := by decide +kernel
theorem dX4_answerAt_45 : decode cX4_answerAt 45 = .ok (.istore 5, 2) := by decide +kernel
theorem dX4_answerAt_47 : decode cX4_answerAt 47 = .ok (.goto 25, 3) := by decide +kernel
theorem dX4_answerAt_50 : decode cX4_answerAt 50 = .ok (.aload_n 0, 1) := by decide +kernel
theorem dX4_answerAt_51 : decode cX4_answerAt 51 = .ok (.getfield 24, 3) := by decide +kernel
theorem dX4_answerAt_54 : decode cX4_answerAt 54 = .ok (.iload 4, 2) := by decide +kernel
theorem dX4_answerAt_56 : decode cX4_answerAt 56 = .ok (.iaload, 1) := by decide +kernel
theorem dX4_answerAt_57 : decode cX4_answerAt 57 = .ok (.aload_n 0, 1) := by decide +kernel
theorem dX4_answerAt_58 : decode cX4_answerAt 58 = .ok (.getfield 21, 3) := by decide +kernel
theorem dX4_answerAt_61 : decode cX4_answerAt 61 = .ok (.iload 4, 2) := by decide +kernel
theorem dX4_answerAt_63 : decode cX4_answerAt 63 = .ok (.iaload, 1) := by decide +kernel
theorem dX4_answerAt_64 : decode cX4_answerAt 64 = .ok (.iload_n 3, 1) := by decide +kernel
theorem dX4_answerAt_65 : decode cX4_answerAt 65 = .ok (.iand, 1) := by decide +kernel
theorem dX4_answerAt_66 : decode cX4_answerAt 66 = .ok (.invokestatic 77, 3) := by decide +kernel
theorem dX4_answerAt_69 : decode cX4_answerAt 69 = .ok (.ixor, 1) := by decide +kernel
theorem dX4_answerAt_70 : decode cX4_answerAt 70 = .ok (.istore 5, 2) := by decide +kernel
theorem dX4_answerAt_72 : decode cX4_answerAt 72 = .ok (.iload_n 3, 1) := by decide +kernel
theorem dX4_answerAt_73 : decode cX4_answerAt 73 = .ok (.iload 5, 2) := by decide +kernel
theorem dX4_answerAt_75 : decode cX4_answerAt 75 = .ok (.iload 4, 2) := by decide +kernel
theorem dX4_answerAt_77 : decode cX4_answerAt 77 = .ok (.ishl, 1) := by decide +kernel
theorem dX4_answerAt_78 : decode cX4_answerAt 78 = .ok (.ior, 1) := by decide +kernel
theorem dX4_answerAt_79 : decode cX4_answerAt 79 = .ok (.istore_n 3, 1) := by decide +kernel
theorem dX4_answerAt_80 : decode cX4_answerAt 80 = .ok (.iinc 4 (-1), 3) := by decide +kernel
theorem dX4_answerAt_83 : decode cX4_answerAt 83 = .ok (.goto (-61), 3) := by decide +kernel
theorem dX4_answerAt_86 : decode cX4_answerAt 86 = .ok (.iload_n 3, 1) := by decide +kernel
theorem dX4_answerAt_87 : decode cX4_answerAt 87 = .ok (.ireturn, 1) := by decide +kernel
set_option maxRecDepth 20000 in
theorem ggX4_nearestTo_X4_fillExchanges : GoodIn wsX4_nearestTo wsX4_fillExchanges := goodIn_r _ [6, 7, 8, 1, 9, 10, 11, 5, 12, 13, 14, 15, 16, 17, 18, 19, 20, 21, 22, 23, 24, 32, 33, 34, 35, 36, 37, 38, 39, 40, 41, 42, 43] (by decide +kernel) (by decide +kernel)
set_option maxRecDepth 20000 in
theorem gX4_nearestTo_X4_fillExchanges : GoodIn wsX4_nearestTo (wsV RX4 80 RX4 yX4_fillExchanges wsX4_fillExchanges) := goodIn_app (goodIn_of _ (by decide +kernel)) ggX4_nearestTo_X4_fillExchanges
set_option maxRecDepth 20000 in
theorem ggX4_nearestTo_X4_answerAt : GoodIn wsX4_nearestTo wsX4_answerAt := goodIn_r _ [12, 7, 8, 13, 14, 15, 16, 17, 18, 19, 20, 21, 22, 23, 24, 32, 33, 34, 35, 36, 37, 38, 39, 40, 41, 42, 43] (by decide +kernel) (by decide +kernel)
set_option maxRecDepth 20000 in
theorem gX4_nearestTo_X4_answerAt : GoodIn wsX4_nearestTo (wsV RX4 83 RX4 yX4_answerAt wsX4_answerAt) := goodIn_app (goodIn_of _ (by decide +kernel)) ggX4_nearestTo_X4_answerAt
set_option maxRecDepth 20000 in
theorem ggX4_nearestTo_J6_bitCount_0f7a4 : GoodIn wsX4_nearestTo wsJ6_bitCount_0f7a4 := goodIn_r _ [21, 22, 23, 24] (by decide +kernel) (by decide +kernel)
set_option maxRecDepth 20000 in
theorem gX4_nearestTo_J6_bitCount_0f7a4 : GoodIn wsX4_nearestTo (va_wsS RX4 86 yJ6_bitCount_0f7a4 wsJ6_bitCount_0f7a4) := goodIn_app (goodIn_of _ (by decide +kernel)) ggX4_nearestTo_J6_bitCount_0f7a4
set_option maxRecDepth 20000 in
theorem ggX4_nearestTo_X4_answers : GoodIn wsX4_nearestTo wsX4_answers := goodIn_r _ [29, 7, 8, 32, 33, 34, 35, 36, 37, 38, 39, 40, 41, 42, 43] (by decide +kernel) (by decide +kernel)
set_option maxRecDepth 20000 in
theorem gX4_nearestTo_X4_answers : GoodIn wsX4_nearestTo (wsV RX4 91 RX4 yX4_answers wsX4_answers) := goodIn_app (goodIn_of _ (by decide +kernel)) ggX4_nearestTo_X4_answers
set_option maxRecDepth 20000 in
theorem ggX4_nearestTo_X5_lowestBit : GoodIn wsX4_nearestTo wsX5_lowestBit := goodIn_r _ [31, 18, 19, 20, 21, 22, 23, 24] (by decide +kernel) (by decide +kernel)
set_option maxRecDepth 20000 in
theorem gX4_nearestTo_X5_lowestBit_n61 : GoodIn wsX4_nearestTo (wsX5_lowestBit) := ggX4_nearestTo_X5_lowestBit
theorem dX4_nearestTo_0 : decode cX4_nearestTo 0 = .ok (.aload_n 0, 1) := by decide +kernel
theorem dX4_nearestTo_1 : decode cX4_nearestTo 1 = .ok (.invokevirtual 80, 3) := by decide +kernel
theorem dX4_nearestTo_4 : decode cX4_nearestTo 4 = .ok (.aload_n 0, 1) := by decide +kernel
theorem dX4_nearestTo_5 : decode cX4_nearestTo 5 = .ok (.iconst 0, 1) := by decide +kernel
theorem dX4_nearestTo_6 : decode cX4_nearestTo 6 = .ok (.invokevirtual 83, 3) := by decide +kernel
theorem dX4_nearestTo_9 : decode cX4_nearestTo 9 = .ok (.istore_n 2, 1) := by decide +kernel
theorem dX4_nearestTo_10 : decode cX4_nearestTo 10 = .ok (.iload_n 2, 1) := by decide +kernel
theorem dX4_nearestTo_11 : decode cX4_nearestTo 11 = .ok (.istore_n 3, 1) := by decide +kernel
theorem dX4_nearestTo_12 : decode cX4_nearestTo 12 = .ok (.iload_n 2, 1) := by decide +kernel
theorem dX4_nearestTo_13 : decode cX4_nearestTo 13 = .ok (.iload_n 1, 1) := by decide +kernel
theorem dX4_nearestTo_14 : decode cX4_nearestTo 14 = .ok (.ixor, 1) := by decide +kernel
theorem dX4_nearestTo_15 : decode cX4_nearestTo 15 = .ok (.invokestatic 86, 3) := by decide +kernel
theorem dX4_nearestTo_18 : decode cX4_nearestTo 18 = .ok (.istore 4, 2) := by decide +kernel
theorem dX4_nearestTo_20 : decode cX4_nearestTo 20 = .ok (.aload_n 0, 1) := by decide +kernel
theorem dX4_nearestTo_21 : decode cX4_nearestTo 21 = .ok (.invokevirtual 91, 3) := by decide +kernel
theorem dX4_nearestTo_24 : decode cX4_nearestTo 24 = .ok (.iconst 1, 1) := by decide +kernel
theorem dX4_nearestTo_25 : decode cX4_nearestTo 25 = .ok (.isub, 1) := by decide +kernel
theorem dX4_nearestTo_26 : decode cX4_nearestTo 26 = .ok (.istore 5, 2) := by decide +kernel
theorem dX4_nearestTo_28 : decode cX4_nearestTo 28 = .ok (.iconst 1, 1) := by decide +kernel
theorem dX4_nearestTo_29 : decode cX4_nearestTo 29 = .ok (.istore 6, 2) := by decide +kernel
theorem dX4_nearestTo_31 : decode cX4_nearestTo 31 = .ok (.iload 6, 2) := by decide +kernel
theorem dX4_nearestTo_33 : decode cX4_nearestTo 33 = .ok (.iload 5, 2) := by decide +kernel
theorem dX4_nearestTo_35 : decode cX4_nearestTo 35 = .ok (.if_icmp .gt 43, 3) := by decide +kernel
theorem dX4_nearestTo_38 : decode cX4_nearestTo 38 = .ok (.iload_n 2, 1) := by decide +kernel
theorem dX4_nearestTo_39 : decode cX4_nearestTo 39 = .ok (.aload_n 0, 1) := by decide +kernel
theorem dX4_nearestTo_40 : decode cX4_nearestTo 40 = .ok (.getfield 30, 3) := by decide +kernel
theorem dX4_nearestTo_43 : decode cX4_nearestTo 43 = .ok (.iload 6, 2) := by decide +kernel
theorem dX4_nearestTo_45 : decode cX4_nearestTo 45 = .ok (.invokestatic 61, 3) := by decide +kernel
theorem dX4_nearestTo_48 : decode cX4_nearestTo 48 = .ok (.iaload, 1) := by decide +kernel
theorem dX4_nearestTo_49 : decode cX4_nearestTo 49 = .ok (.ixor, 1) := by decide +kernel
theorem dX4_nearestTo_50 : decode cX4_nearestTo 50 = .ok (.istore_n 2, 1) := by decide +kernel
theorem dX4_nearestTo_51 : decode cX4_nearestTo 51 = .ok (.iload_n 2, 1) := by decide +kernel
theorem dX4_nearestTo_52 : decode cX4_nearestTo 52 = .ok (.iload_n 1, 1) := by decide +kernel
theorem dX4_nearestTo_53 : decode cX4_nearestTo 53 = .ok (.ixor, 1) := by decide +kernel
theorem dX4_nearestTo_54 : decode cX4_nearestTo 54 = .ok (.invokestatic 86, 3) := by decide +kernel
theorem dX4_nearestTo_57 : decode cX4_nearestTo 57 = .ok (.istore 7, 2) := by decide +kernel
theorem dX4_nearestTo_59 : decode cX4_nearestTo 59 = .ok (.iload 7, 2) := by decide +kernel
theorem dX4_nearestTo_61 : decode cX4_nearestTo 61 = .ok (.iload 4, 2) := by decide +kernel
theorem dX4_nearestTo_63 : decode cX4_nearestTo 63 = .ok (.if_icmp .ge 9, 3) := by decide +kernel
theorem dX4_nearestTo_66 : decode cX4_nearestTo 66 = .ok (.iload 7, 2) := by decide +kernel
theorem dX4_nearestTo_68 : decode cX4_nearestTo 68 = .ok (.istore 4, 2) := by decide +kernel
theorem dX4_nearestTo_70 : decode cX4_nearestTo 70 = .ok (.iload_n 2, 1) := by decide +kernel
theorem dX4_nearestTo_71 : decode cX4_nearestTo 71 = .ok (.istore_n 3, 1) := by decide +kernel
theorem dX4_nearestTo_72 : decode cX4_nearestTo 72 = .ok (.iinc 6 1, 3) := by decide +kernel
theorem dX4_nearestTo_75 : decode cX4_nearestTo 75 = .ok (.goto (-44), 3) := by decide +kernel
theorem dX4_nearestTo_78 : decode cX4_nearestTo 78 = .ok (.iload_n 3, 1) := by decide +kernel
theorem dX4_nearestTo_79 : decode cX4_nearestTo 79 = .ok (.ireturn, 1) := by decide +kernel
set_option maxRecDepth 20000 in
theorem ggX4_fillExchanges_X4_answerAt : GoodIn wsX4_fillExchanges wsX4_answerAt := goodIn_r _ [8, 1, 2, 9, 10, 11, 12, 13, 14, 15, 16, 17, 18, 19, 20, 21, 22, 23, 24, 25, 26, 27, 28, 29, 30, 31, 32] (by decide +kernel) (by decide +kernel)
set_option maxRecDepth 20000 in
theorem gX4_fillExchanges_X4_answerAt : GoodIn wsX4_fillExchanges (wsV RX4 83 RX4 yX4_answerAt wsX4_answerAt) := goodIn_app (goodIn_of _ (by decide +kernel)) ggX4_fillExchanges_X4_answerAt
theorem dX4_fillExchanges_0 : decode cX4_fillExchanges 0 = .ok (.aload_n 0, 1) := by decide +kernel
theorem dX4_fillExchanges_1 : decode cX4_fillExchanges 1 = .ok (.iconst 0, 1) := by decide +kernel
theorem dX4_fillExchanges_2 : decode cX4_fillExchanges 2 = .ok (.invokevirtual 83, 3) := by decide +kernel
theorem dX4_fillExchanges_5 : decode cX4_fillExchanges 5 = .ok (.istore_n 1, 1) := by decide +kernel
theorem dX4_fillExchanges_6 : decode cX4_fillExchanges 6 = .ok (.aload_n 0, 1) := by decide +kernel
theorem dX4_fillExchanges_7 : decode cX4_fillExchanges 7 = .ok (.getfield 39, 3) := by decide +kernel
theorem dX4_fillExchanges_10 : decode cX4_fillExchanges 10 = .ok (.aload_n 0, 1) := by decide +kernel
theorem dX4_fillExchanges_11 : decode cX4_fillExchanges 11 = .ok (.getfield 18, 3) := by decide +kernel
theorem dX4_fillExchanges_14 : decode cX4_fillExchanges 14 = .ok (.iconst 0, 1) := by decide +kernel
theorem dX4_fillExchanges_15 : decode cX4_fillExchanges 15 = .ok (.iaload, 1) := by decide +kernel
theorem dX4_fillExchanges_16 : decode cX4_fillExchanges 16 = .ok (.isub, 1) := by decide +kernel
theorem dX4_fillExchanges_17 : decode cX4_fillExchanges 17 = .ok (.istore_n 2, 1) := by decide +kernel
theorem dX4_fillExchanges_18 : decode cX4_fillExchanges 18 = .ok (.iconst 0, 1) := by decide +kernel
theorem dX4_fillExchanges_19 : decode cX4_fillExchanges 19 = .ok (.istore_n 3, 1) := by decide +kernel
theorem dX4_fillExchanges_20 : decode cX4_fillExchanges 20 = .ok (.iload_n 3, 1) := by decide +kernel
theorem dX4_fillExchanges_21 : decode cX4_fillExchanges 21 = .ok (.iload_n 2, 1) := by decide +kernel
theorem dX4_fillExchanges_22 : decode cX4_fillExchanges 22 = .ok (.if_icmp .ge 26, 3) := by decide +kernel
theorem dX4_fillExchanges_25 : decode cX4_fillExchanges 25 = .ok (.aload_n 0, 1) := by decide +kernel
theorem dX4_fillExchanges_26 : decode cX4_fillExchanges 26 = .ok (.getfield 30, 3) := by decide +kernel
theorem dX4_fillExchanges_29 : decode cX4_fillExchanges 29 = .ok (.iload_n 3, 1) := by decide +kernel
theorem dX4_fillExchanges_30 : decode cX4_fillExchanges 30 = .ok (.iload_n 1, 1) := by decide +kernel
theorem dX4_fillExchanges_31 : decode cX4_fillExchanges 31 = .ok (.aload_n 0, 1) := by decide +kernel
theorem dX4_fillExchanges_32 : decode cX4_fillExchanges 32 = .ok (.iconst 2, 1) := by decide +kernel
theorem dX4_fillExchanges_33 : decode cX4_fillExchanges 33 = .ok (.iload_n 3, 1) := by decide +kernel
theorem dX4_fillExchanges_34 : decode cX4_fillExchanges 34 = .ok (.ishl, 1) := by decide +kernel
theorem dX4_fillExchanges_35 : decode cX4_fillExchanges 35 = .ok (.iconst 1, 1) := by decide +kernel
theorem dX4_fillExchanges_36 : decode cX4_fillExchanges 36 = .ok (.isub, 1) := by decide +kernel
theorem dX4_fillExchanges_37 : decode cX4_fillExchanges 37 = .ok (.invokevirtual 83, 3) := by decide +kernel
theorem dX4_fillExchanges_40 : decode cX4_fillExchanges 40 = .ok (.ixor, 1) := by decide +kernel
theorem dX4_fillExchanges_41 : decode cX4_fillExchanges 41 = .ok (.iastore, 1) := by decide +kernel
theorem dX4_fillExchanges_42 : decode cX4_fillExchanges 42 = .ok (.iinc 3 1, 3) := by decide +kernel
theorem dX4_fillExchanges_45 : decode cX4_fillExchanges 45 = .ok (.goto (-25), 3) := by decide +kernel
theorem dX4_fillExchanges_48 : decode cX4_fillExchanges 48 = .ok (.return_, 1) := by decide +kernel
set_option maxRecDepth 20000 in
theorem ggX5_init_X3_init : GoodIn wsX5_init wsX3_init := goodIn_r _ [33, 34, 2, 3, 35, 14, 36, 37, 98, 99, 100, 101] (by decide +kernel) (by decide +kernel)
set_option maxRecDepth 20000 in
theorem gX5_init_X3_init_n9 : GoodIn wsX5_init (wsX3_init) := ggX5_init_X3_init
set_option maxRecDepth 20000 in
theorem ggX5_init_X4_init : GoodIn wsX5_init wsX4_init := goodIn_r _ [39, 40, 2, 3, 14, 41, 42, 43, 44, 45, 46, 47, 113, 114, 115, 116, 117, 118, 119, 120, 121, 122, 123, 124] (by decide +kernel) (by decide +kernel)
set_option maxRecDepth 20000 in
theorem gX5_init_X4_init_n18 : GoodIn wsX5_init (wsX4_init) := ggX5_init_X4_init
set_option maxRecDepth 20000 in
theorem ggX5_init_X0_init : GoodIn wsX5_init wsX0_init := goodIn_r _ [49, 50, 2, 3, 14, 51, 125, 126, 127, 128] (by decide +kernel) (by decide +kernel)
set_option maxRecDepth 20000 in
theorem gX5_init_X0_init_n35 : GoodIn wsX5_init (wsX0_init) := ggX5_init_X0_init
set_option maxRecDepth 20000 in
theorem ggX5_init_X2_init : GoodIn wsX5_init wsX2_init := goodIn_r _ [53, 54, 2, 3, 55, 56, 129, 130, 131, 132, 133, 134] (by decide +kernel) (by decide +kernel)
set_option maxRecDepth 20000 in
theorem gX5_init_X2_init_n42 : GoodIn wsX5_init (wsX2_init) := ggX5_init_X2_init
set_option maxRecDepth 20000 in
theorem ggX5_init_X1_init : GoodIn wsX5_init wsX1_init := goodIn_r _ [59, 60, 2, 3, 61, 62, 5, 6, 32, 33, 34, 35, 14, 36, 37, 135, 136, 98, 99, 100, 101] (by decide +kernel) (by decide +kernel)
set_option maxRecDepth 20000 in
theorem gX5_init_X1_init : GoodIn wsX5_init (wsX1_init) := ggX5_init_X1_init
set_option maxRecDepth 20000 in
theorem ggX5_init_X4_judge : GoodIn wsX5_init wsX4_judge := goodIn_r _ [66, 67, 68, 69, 43, 44, 70, 71, 72, 73, 74, 75, 10, 76, 77, 45, 78, 46, 79, 41, 42, 80, 81, 82, 83, 84, 85, 86, 87, 88, 89, 90, 91, 92, 93, 94, 95, 96, 97, 98, 99, 100, 101, 113, 114, 115, 116, 117, 118, 119, 120, 121, 122, 123, 124] (by decide +kernel) (by decide +kernel)
set_option maxRecDepth 20000 in
theorem gX5_init_X4_judge : GoodIn wsX5_init (wsV RX5 65 RX4 yX4_judge wsX4_judge) := goodIn_app (goodIn_of _ (by decide +kernel)) ggX5_init_X4_judge
theorem dX5_init_0 : decode cX5_init 0 = .ok (.aload_n 0, 1) := by decide +kernel
theorem dX5_init_1 : decode cX5_init 1 = .ok (.invokespecial 1, 3) := by decide +kernel
theorem dX5_init_4 : decode cX5_init 4 = .ok (.aload_n 0, 1) := by decide +kernel
theorem dX5_init_5 : decode cX5_init 5 = .ok (.new 7, 3) := by decide +kernel
theorem dX5_init_8 : decode cX5_init 8 = .ok (.dup, 1) := by decide +kernel
theorem dX5_init_9 : decode cX5_init 9 = .ok (.invokespecial 9, 3) := by decide +kernel
theorem dX5_init_12 : decode cX5_init 12 = .ok (.putfield 10, 3) := by decide +kernel
theorem dX5_init_15 : decode cX5_init 15 = .ok (.aload_n 0, 1) := by decide +kernel
theorem dX5_init_16 : decode cX5_init 16 = .ok (.new 16, 3) := by decide +kernel
theorem dX5_init_19 : decode cX5_init 19 = .ok (.dup, 1) := by decide +kernel
theorem dX5_init_20 : decode cX5_init 20 = .ok (.invokespecial 18, 3) := by decide +kernel
theorem dX5_init_23 : decode cX5_init 23 = .ok (.putfield 19, 3) := by decide +kernel
theorem dX5_init_26 : decode cX5_init 26 = .ok (.aload_n 0, 1) := by decide +kernel
theorem dX5_init_27 : decode cX5_init 27 = .ok (.new 7, 3) := by decide +kernel
theorem dX5_init_30 : decode cX5_init 30 = .ok (.dup, 1) := by decide +kernel
theorem dX5_init_31 : decode cX5_init 31 = .ok (.invokespecial 9, 3) := by decide +kernel
theorem dX5_init_34 : decode cX5_init 34 = .ok (.putfield 23, 3) := by decide +kernel
theorem dX5_init_37 : decode cX5_init 37 = .ok (.aload_n 0, 1) := by decide +kernel
theorem dX5_init_38 : decode cX5_init 38 = .ok (.new 16, 3) := by decide +kernel
theorem dX5_init_41 : decode cX5_init 41 = .ok (.dup, 1) := by decide +kernel
theorem dX5_init_42 : decode cX5_init 42 = .ok (.invokespecial 18, 3) := by decide +kernel
theorem dX5_init_45 : decode cX5_init 45 = .ok (.putfield 26, 3) := by decide +kernel
theorem dX5_init_48 : decode cX5_init 48 = .ok (.aload_n 0, 1) := by decide +kernel
theorem dX5_init_49 : decode cX5_init 49 = .ok (.bipush 20, 2) := by decide +kernel
theorem dX5_init_51 : decode cX5_init 51 = .ok (.newarray .int, 2) := by decide +kernel
theorem dX5_init_53 : decode cX5_init 53 = .ok (.putfield 29, 3) := by decide +kernel
theorem dX5_init_56 : decode cX5_init 56 = .ok (.aload_n 0, 1) := by decide +kernel
theorem dX5_init_57 : decode cX5_init 57 = .ok (.new 33, 3) := by decide +kernel
theorem dX5_init_60 : decode cX5_init 60 = .ok (.dup, 1) := by decide +kernel
theorem dX5_init_61 : decode cX5_init 61 = .ok (.invokespecial 35, 3) := by decide +kernel
theorem dX5_init_64 : decode cX5_init 64 = .ok (.putfield 36, 3) := by decide +kernel
theorem dX5_init_67 : decode cX5_init 67 = .ok (.aload_n 0, 1) := by decide +kernel
theorem dX5_init_68 : decode cX5_init 68 = .ok (.new 40, 3) := by decide +kernel
theorem dX5_init_71 : decode cX5_init 71 = .ok (.dup, 1) := by decide +kernel
theorem dX5_init_72 : decode cX5_init 72 = .ok (.invokespecial 42, 3) := by decide +kernel
theorem dX5_init_75 : decode cX5_init 75 = .ok (.putfield 43, 3) := by decide +kernel
theorem dX5_init_78 : decode cX5_init 78 = .ok (.aload_n 0, 1) := by decide +kernel
theorem dX5_init_79 : decode cX5_init 79 = .ok (.new 7, 3) := by decide +kernel
theorem dX5_init_82 : decode cX5_init 82 = .ok (.dup, 1) := by decide +kernel
theorem dX5_init_83 : decode cX5_init 83 = .ok (.invokespecial 9, 3) := by decide +kernel
theorem dX5_init_86 : decode cX5_init 86 = .ok (.putfield 47, 3) := by decide +kernel
theorem dX5_init_89 : decode cX5_init 89 = .ok (.aload_n 0, 1) := by decide +kernel
theorem dX5_init_90 : decode cX5_init 90 = .ok (.new 50, 3) := by decide +kernel
theorem dX5_init_93 : decode cX5_init 93 = .ok (.dup, 1) := by decide +kernel
theorem dX5_init_94 : decode cX5_init 94 = .ok (.invokespecial 52, 3) := by decide +kernel
theorem dX5_init_97 : decode cX5_init 97 = .ok (.putfield 53, 3) := by decide +kernel
theorem dX5_init_100 : decode cX5_init 100 = .ok (.aload_n 0, 1) := by decide +kernel
theorem dX5_init_101 : decode cX5_init 101 = .ok (.iconst 2, 1) := by decide +kernel
theorem dX5_init_102 : decode cX5_init 102 = .ok (.anewarray 7, 3) := by decide +kernel
theorem dX5_init_105 : decode cX5_init 105 = .ok (.putfield 57, 3) := by decide +kernel
theorem dX5_init_108 : decode cX5_init 108 = .ok (.aload_n 0, 1) := by decide +kernel
theorem dX5_init_109 : decode cX5_init 109 = .ok (.iconst 2, 1) := by decide +kernel
theorem dX5_init_110 : decode cX5_init 110 = .ok (.newarray .boolean, 2) := by decide +kernel
theorem dX5_init_112 : decode cX5_init 112 = .ok (.putfield 61, 3) := by decide +kernel
theorem dX5_init_115 : decode cX5_init 115 = .ok (.iconst 0, 1) := by decide +kernel
theorem dX5_init_116 : decode cX5_init 116 = .ok (.istore_n 1, 1) := by decide +kernel
theorem dX5_init_117 : decode cX5_init 117 = .ok (.iload_n 1, 1) := by decide +kernel
theorem dX5_init_118 : decode cX5_init 118 = .ok (.iconst 2, 1) := by decide +kernel
theorem dX5_init_119 : decode cX5_init 119 = .ok (.if_icmp .ge 22, 3) := by decide +kernel
theorem dX5_init_122 : decode cX5_init 122 = .ok (.aload_n 0, 1) := by decide +kernel
theorem dX5_init_123 : decode cX5_init 123 = .ok (.getfield 57, 3) := by decide +kernel
theorem dX5_init_126 : decode cX5_init 126 = .ok (.iload_n 1, 1) := by decide +kernel
theorem dX5_init_127 : decode cX5_init 127 = .ok (.new 7, 3) := by decide +kernel
theorem dX5_init_130 : decode cX5_init 130 = .ok (.dup, 1) := by decide +kernel
theorem dX5_init_131 : decode cX5_init 131 = .ok (.invokespecial 9, 3) := by decide +kernel
theorem dX5_init_134 : decode cX5_init 134 = .ok (.aastore, 1) := by decide +kernel
theorem dX5_init_135 : decode cX5_init 135 = .ok (.iinc 1 1, 3) := by decide +kernel
theorem dX5_init_138 : decode cX5_init 138 = .ok (.goto (-21), 3) := by decide +kernel
theorem dX5_init_141 : decode cX5_init 141 = .ok (.aload_n 0, 1) := by decide +kernel
theorem dX5_init_142 : decode cX5_init 142 = .ok (.getfield 19, 3) := by decide +kernel
theorem dX5_init_145 : decode cX5_init 145 = .ok (.aload_n 0, 1) := by decide +kernel
theorem dX5_init_146 : decode cX5_init 146 = .ok (.getfield 10, 3) := by decide +kernel
theorem dX5_init_149 : decode cX5_init 149 = .ok (.invokevirtual 65, 3) := by decide +kernel
theorem dX5_init_152 : decode cX5_init 152 = .ok (.return_, 1) := by decide +kernel
set_option maxRecDepth 20000 in
theorem ggX5_choices_X3_setsStayBelow : GoodIn wsX5_choices wsX3_setsStayBelow := goodIn_r _ [9, 10, 11, 86, 87, 88, 89] (by decide +kernel) (by decide +kernel)
set_option maxRecDepth 20000 in
theorem gX5_choices_X3_setsStayBelow : GoodIn wsX5_choices (wsV RX5 69 RX3 yX3_setsStayBelow wsX3_setsStayBelow) := goodIn_app (goodIn_of _ (by decide +kernel)) ggX5_choices_X3_setsStayBelow
set_option maxRecDepth 20000 in
theorem ggX5_choices_X1_remember : GoodIn wsX5_choices wsX1_remember := goodIn_r _ [16, 17, 18, 19, 20, 21, 15, 22, 23, 24, 25, 8, 26, 27, 10, 11, 28, 29, 30, 31, 32, 90, 91, 86, 87, 88, 89] (by decide +kernel) (by decide +kernel)
set_option maxRecDepth 20000 in
theorem gX5_choices_X1_remember : GoodIn wsX5_choices (wsV RX5 77 RX1 yX1_remember wsX1_remember) := goodIn_app (goodIn_of _ (by decide +kernel)) ggX5_choices_X1_remember
set_option maxRecDepth 20000 in
theorem ggX5_choices_X4_judge : GoodIn wsX5_choices wsX4_judge := goodIn_r _ [37, 38, 39, 40, 41, 42, 43, 44, 45, 46, 47, 48, 36, 49, 50, 51, 52, 53, 54, 55, 56, 57, 58, 59, 60, 61, 62, 63, 64, 65, 66, 67, 68, 69, 70, 71, 72, 73, 74, 86, 87, 88, 89, 92, 93, 94, 95, 96, 97, 98, 99, 100, 101, 102, 103] (by decide +kernel) (by decide +kernel)
set_option maxRecDepth 20000 in
theorem gX5_choices_X4_judge : GoodIn wsX5_choices (wsV RX5 65 RX4 yX4_judge wsX4_judge) := goodIn_app (goodIn_of _ (by decide +kernel)) ggX5_choices_X4_judge
theorem dX5_choices_0 : decode cX5_choices 0 = .ok (.iload_n 1, 1) := by decide +kernel
theorem dX5_choices_1 : decode cX5_choices 1 = .ok (.iconst 1, 1) := by decide +kernel
theorem dX5_choices_2 : decode cX5_choices 2 = .ok (.if_icmp .lt 9, 3) := by decide +kernel
theorem dX5_choices_5 : decode cX5_choices 5 = .ok (.iload_n 1, 1) := by decide +kernel
theorem dX5_choices_6 : decode cX5_choices 6 = .ok (.bipush 12, 2) := by decide +kernel
theorem dX5_choices_8 : decode cX5_choices 8 = .ok (.if_icmp .le 6, 3) := by decide +kernel
theorem dX5_choices_11 : decode cX5_choices 11 = .ok (.bipush (-2), 2) := by decide +kernel
theorem dX5_choices_13 : decode cX5_choices 13 = .ok (.ireturn, 1) := by decide +kernel
theorem dX5_choices_14 : decode cX5_choices 14 = .ok (.aload_n 0, 1) := by decide +kernel
theorem dX5_choices_15 : decode cX5_choices 15 = .ok (.getfield 10, 3) := by decide +kernel
theorem dX5_choices_18 : decode cX5_choices 18 = .ok (.iload_n 1, 1) := by decide +kernel
theorem dX5_choices_19 : decode cX5_choices 19 = .ok (.invokevirtual 69, 3) := by decide +kernel
theorem dX5_choices_22 : decode cX5_choices 22 = .ok (.ifCond .ne 6, 3) := by decide +kernel
theorem dX5_choices_25 : decode cX5_choices 25 = .ok (.bipush (-5), 2) := by decide +kernel
theorem dX5_choices_27 : decode cX5_choices 27 = .ok (.ireturn, 1) := by decide +kernel
theorem dX5_choices_28 : decode cX5_choices 28 = .ok (.aload_n 0, 1) := by decide +kernel
theorem dX5_choices_29 : decode cX5_choices 29 = .ok (.getfield 10, 3) := by decide +kernel
theorem dX5_choices_32 : decode cX5_choices 32 = .ok (.getfield 73, 3) := by decide +kernel
theorem dX5_choices_35 : decode cX5_choices 35 = .ok (.istore_n 2, 1) := by decide +kernel
theorem dX5_choices_36 : decode cX5_choices 36 = .ok (.aload_n 0, 1) := by decide +kernel
theorem dX5_choices_37 : decode cX5_choices 37 = .ok (.getfield 53, 3) := by decide +kernel
theorem dX5_choices_40 : decode cX5_choices 40 = .ok (.aload_n 0, 1) := by decide +kernel
theorem dX5_choices_41 : decode cX5_choices 41 = .ok (.getfield 10, 3) := by decide +kernel
theorem dX5_choices_44 : decode cX5_choices 44 = .ok (.invokevirtual 77, 3) := by decide +kernel
theorem dX5_choices_47 : decode cX5_choices 47 = .ok (.aload_n 0, 1) := by decide +kernel
theorem dX5_choices_48 : decode cX5_choices 48 = .ok (.getfield 10, 3) := by decide +kernel
theorem dX5_choices_51 : decode cX5_choices 51 = .ok (.iload_n 1, 1) := by decide +kernel
theorem dX5_choices_52 : decode cX5_choices 52 = .ok (.putfield 73, 3) := by decide +kernel
theorem dX5_choices_55 : decode cX5_choices 55 = .ok (.aload_n 0, 1) := by decide +kernel
theorem dX5_choices_56 : decode cX5_choices 56 = .ok (.getfield 19, 3) := by decide +kernel
theorem dX5_choices_59 : decode cX5_choices 59 = .ok (.aload_n 0, 1) := by decide +kernel
theorem dX5_choices_60 : decode cX5_choices 60 = .ok (.getfield 10, 3) := by decide +kernel
theorem dX5_choices_63 : decode cX5_choices 63 = .ok (.invokevirtual 65, 3) := by decide +kernel
theorem dX5_choices_66 : decode cX5_choices 66 = .ok (.iload_n 2, 1) := by decide +kernel
theorem dX5_choices_67 : decode cX5_choices 67 = .ok (.ireturn, 1) := by decide +kernel
set_option maxRecDepth 20000 in
theorem ggX5_tell_X5_isRule : GoodIn wsX5_tell wsX5_isRule := goodIn_r _ [10, 1, 11, 12, 13, 14, 15, 16, 84, 85, 86, 87, 88, 89, 90, 91, 92, 93, 94, 95, 96, 97, 98] (by decide +kernel) (by decide +kernel)
set_option maxRecDepth 20000 in
theorem gX5_tell_X5_isRule : GoodIn wsX5_tell (wsV RX5 80 RX5 yX5_isRule wsX5_isRule) := goodIn_app (goodIn_of _ (by decide +kernel)) ggX5_tell_X5_isRule
set_option maxRecDepth 20000 in
theorem ggX5_tell_X1_remember : GoodIn wsX5_tell wsX1_remember := goodIn_r _ [21, 22, 23, 24, 25, 26, 20, 27, 28, 29, 30, 14, 31, 16, 32, 33, 34, 35, 36, 37, 38, 111, 112, 95, 96, 97, 98] (by decide +kernel) (by decide +kernel)
set_option maxRecDepth 20000 in
theorem gX5_tell_X1_remember : GoodIn wsX5_tell (wsV RX5 77 RX1 yX1_remember wsX1_remember) := goodIn_app (goodIn_of _ (by decide +kernel)) ggX5_tell_X1_remember
set_option maxRecDepth 20000 in
theorem ggX5_tell_X3_append : GoodIn wsX5_tell wsX3_append := goodIn_r _ [42, 32, 33, 38, 95, 96, 97, 98] (by decide +kernel) (by decide +kernel)
set_option maxRecDepth 20000 in
theorem gX5_tell_X3_append : GoodIn wsX5_tell (wsV RX5 87 RX3 yX3_append wsX3_append) := goodIn_app (goodIn_of _ (by decide +kernel)) ggX5_tell_X3_append
set_option maxRecDepth 20000 in
theorem ggX5_tell_X4_judge : GoodIn wsX5_tell wsX4_judge := goodIn_r _ [47, 48, 49, 50, 51, 52, 53, 54, 55, 56, 57, 58, 46, 59, 60, 61, 62, 63, 64, 65, 66, 67, 68, 69, 70, 71, 72, 73, 74, 75, 9, 76, 77, 78, 79, 80, 81, 82, 83, 95, 96, 97, 98, 99, 100, 101, 102, 103, 104, 105, 106, 107, 108, 109, 110] (by decide +kernel) (by decide +kernel)
set_option maxRecDepth 20000 in
theorem gX5_tell_X4_judge : GoodIn wsX5_tell (wsV RX5 65 RX4 yX4_judge wsX4_judge) := goodIn_app (goodIn_of _ (by decide +kernel)) ggX5_tell_X4_judge
theorem dX5_tell_0 : decode cX5_tell 0 = .ok (.aload_n 0, 1) := by decide +kernel
theorem dX5_tell_1 : decode cX5_tell 1 = .ok (.iload_n 1, 1) := by decide +kernel
theorem dX5_tell_2 : decode cX5_tell 2 = .ok (.iload_n 2, 1) := by decide +kernel
theorem dX5_tell_3 : decode cX5_tell 3 = .ok (.invokevirtual 80, 3) := by decide +kernel
theorem dX5_tell_6 : decode cX5_tell 6 = .ok (.ifCond .ne 6, 3) := by decide +kernel
theorem dX5_tell_9 : decode cX5_tell 9 = .ok (.bipush (-2), 2) := by decide +kernel
theorem dX5_tell_11 : decode cX5_tell 11 = .ok (.ireturn, 1) := by decide +kernel
theorem dX5_tell_12 : decode cX5_tell 12 = .ok (.aload_n 0, 1) := by decide +kernel
theorem dX5_tell_13 : decode cX5_tell 13 = .ok (.getfield 10, 3) := by decide +kernel
theorem dX5_tell_16 : decode cX5_tell 16 = .ok (.getfield 84, 3) := by decide +kernel
theorem dX5_tell_19 : decode cX5_tell 19 = .ok (.bipush 20, 2) := by decide +kernel
theorem dX5_tell_21 : decode cX5_tell 21 = .ok (.if_icmp .lt 6, 3) := by decide +kernel
theorem dX5_tell_24 : decode cX5_tell 24 = .ok (.bipush (-4), 2) := by decide +kernel
theorem dX5_tell_26 : decode cX5_tell 26 = .ok (.ireturn, 1) := by decide +kernel
theorem dX5_tell_27 : decode cX5_tell 27 = .ok (.aload_n 0, 1) := by decide +kernel
theorem dX5_tell_28 : decode cX5_tell 28 = .ok (.getfield 53, 3) := by decide +kernel
theorem dX5_tell_31 : decode cX5_tell 31 = .ok (.aload_n 0, 1) := by decide +kernel
theorem dX5_tell_32 : decode cX5_tell 32 = .ok (.getfield 10, 3) := by decide +kernel
theorem dX5_tell_35 : decode cX5_tell 35 = .ok (.invokevirtual 77, 3) := by decide +kernel
theorem dX5_tell_38 : decode cX5_tell 38 = .ok (.aload_n 0, 1) := by decide +kernel
theorem dX5_tell_39 : decode cX5_tell 39 = .ok (.getfield 10, 3) := by decide +kernel
theorem dX5_tell_42 : decode cX5_tell 42 = .ok (.iload_n 1, 1) := by decide +kernel
theorem dX5_tell_43 : decode cX5_tell 43 = .ok (.iload_n 2, 1) := by decide +kernel
theorem dX5_tell_44 : decode cX5_tell 44 = .ok (.invokevirtual 87, 3) := by decide +kernel
theorem dX5_tell_47 : decode cX5_tell 47 = .ok (.aload_n 0, 1) := by decide +kernel
theorem dX5_tell_48 : decode cX5_tell 48 = .ok (.getfield 19, 3) := by decide +kernel
theorem dX5_tell_51 : decode cX5_tell 51 = .ok (.aload_n 0, 1) := by decide +kernel
theorem dX5_tell_52 : decode cX5_tell 52 = .ok (.getfield 10, 3) := by decide +kernel
theorem dX5_tell_55 : decode cX5_tell 55 = .ok (.invokevirtual 65, 3) := by decide +kernel
theorem dX5_tell_58 : decode cX5_tell 58 = .ok (.aload_n 0, 1) := by decide +kernel
theorem dX5_tell_59 : decode cX5_tell 59 = .ok (.getfield 19, 3) := by decide +kernel
theorem dX5_tell_62 : decode cX5_tell 62 = .ok (.getfield 91, 3) := by decide +kernel
theorem dX5_tell_65 : decode cX5_tell 65 = .ok (.aload_n 0, 1) := by decide +kernel
theorem dX5_tell_66 : decode cX5_tell 66 = .ok (.getfield 10, 3) := by decide +kernel
theorem dX5_tell_69 : decode cX5_tell 69 = .ok (.getfield 84, 3) := by decide +kernel
theorem dX5_tell_72 : decode cX5_tell 72 = .ok (.iconst 1, 1) := by decide +kernel
theorem dX5_tell_73 : decode cX5_tell 73 = .ok (.isub, 1) := by decide +kernel
theorem dX5_tell_74 : decode cX5_tell 74 = .ok (.iaload, 1) := by decide +kernel
theorem dX5_tell_75 : decode cX5_tell 75 = .ok (.ireturn, 1) := by decide +kernel
set_option maxRecDepth 20000 in
theorem ggX5_drop_X3_hasPlace : GoodIn wsX5_drop wsX3_hasPlace := goodIn_r _ [9, 10, 96, 97, 98, 99] (by decide +kernel) (by decide +kernel)
set_option maxRecDepth 20000 in
theorem gX5_drop_X3_hasPlace : GoodIn wsX5_drop (wsV RX5 94 RX3 yX3_hasPlace wsX3_hasPlace) := goodIn_app (goodIn_of _ (by decide +kernel)) ggX5_drop_X3_hasPlace
set_option maxRecDepth 20000 in
theorem ggX5_drop_X1_remember : GoodIn wsX5_drop wsX1_remember := goodIn_r _ [15, 16, 17, 18, 19, 20, 14, 21, 22, 23, 24, 8, 25, 26, 10, 27, 28, 29, 30, 31, 32, 100, 101, 96, 97, 98, 99] (by decide +kernel) (by decide +kernel)
set_option maxRecDepth 20000 in
theorem gX5_drop_X1_remember : GoodIn wsX5_drop (wsV RX5 77 RX1 yX1_remember wsX1_remember) := goodIn_app (goodIn_of _ (by decide +kernel)) ggX5_drop_X1_remember
set_option maxRecDepth 20000 in
theorem ggX5_drop_X3_takeOut : GoodIn wsX5_drop wsX3_takeOut := goodIn_r _ [36, 10, 37, 38, 39, 8, 40, 27, 32, 41, 42, 43, 96, 97, 98, 99] (by decide +kernel) (by decide +kernel)
set_option maxRecDepth 20000 in
theorem gX5_drop_X3_takeOut : GoodIn wsX5_drop (wsV RX5 97 RX3 yX3_takeOut wsX3_takeOut) := goodIn_app (goodIn_of _ (by decide +kernel)) ggX5_drop_X3_takeOut
set_option maxRecDepth 20000 in
theorem ggX5_drop_X4_judge : GoodIn wsX5_drop wsX4_judge := goodIn_r _ [48, 49, 50, 51, 52, 53, 54, 55, 56, 57, 58, 59, 47, 60, 61, 62, 63, 64, 65, 66, 67, 68, 69, 70, 71, 72, 73, 74, 75, 76, 42, 77, 78, 79, 80, 81, 82, 83, 84, 96, 97, 98, 99, 102, 103, 104, 105, 106, 107, 108, 109, 110, 111, 112, 113] (by decide +kernel) (by decide +kernel)
set_option maxRecDepth 20000 in
theorem gX5_drop_X4_judge : GoodIn wsX5_drop (wsV RX5 65 RX4 yX4_judge wsX4_judge) := goodIn_app (goodIn_of _ (by decide +kernel)) ggX5_drop_X4_judge
theorem dX5_drop_0 : decode cX5_drop 0 = .ok (.aload_n 0, 1) := by decide +kernel
theorem dX5_drop_1 : decode cX5_drop 1 = .ok (.getfield 10, 3) := by decide +kernel
theorem dX5_drop_4 : decode cX5_drop 4 = .ok (.iload_n 1, 1) := by decide +kernel
theorem dX5_drop_5 : decode cX5_drop 5 = .ok (.invokevirtual 94, 3) := by decide +kernel
theorem dX5_drop_8 : decode cX5_drop 8 = .ok (.ifCond .ne 5, 3) := by decide +kernel
theorem dX5_drop_11 : decode cX5_drop 11 = .ok (.iconst (-1), 1) := by decide +kernel
theorem dX5_drop_12 : decode cX5_drop 12 = .ok (.ireturn, 1) := by decide +kernel
theorem dX5_drop_13 : decode cX5_drop 13 = .ok (.aload_n 0, 1) := by decide +kernel
theorem dX5_drop_14 : decode cX5_drop 14 = .ok (.getfield 53, 3) := by decide +kernel
theorem dX5_drop_17 : decode cX5_drop 17 = .ok (.aload_n 0, 1) := by decide +kernel
theorem dX5_drop_18 : decode cX5_drop 18 = .ok (.getfield 10, 3) := by decide +kernel
theorem dX5_drop_21 : decode cX5_drop 21 = .ok (.invokevirtual 77, 3) := by decide +kernel
theorem dX5_drop_24 : decode cX5_drop 24 = .ok (.aload_n 0, 1) := by decide +kernel
theorem dX5_drop_25 : decode cX5_drop 25 = .ok (.getfield 10, 3) := by decide +kernel
theorem dX5_drop_28 : decode cX5_drop 28 = .ok (.iload_n 1, 1) := by decide +kernel
theorem dX5_drop_29 : decode cX5_drop 29 = .ok (.invokevirtual 97, 3) := by decide +kernel
theorem dX5_drop_32 : decode cX5_drop 32 = .ok (.aload_n 0, 1) := by decide +kernel
theorem dX5_drop_33 : decode cX5_drop 33 = .ok (.getfield 19, 3) := by decide +kernel
theorem dX5_drop_36 : decode cX5_drop 36 = .ok (.aload_n 0, 1) := by decide +kernel
theorem dX5_drop_37 : decode cX5_drop 37 = .ok (.getfield 10, 3) := by decide +kernel
theorem dX5_drop_40 : decode cX5_drop 40 = .ok (.invokevirtual 65, 3) := by decide +kernel
theorem dX5_drop_43 : decode cX5_drop 43 = .ok (.aload_n 0, 1) := by decide +kernel
theorem dX5_drop_44 : decode cX5_drop 44 = .ok (.getfield 10, 3) := by decide +kernel
theorem dX5_drop_47 : decode cX5_drop 47 = .ok (.getfield 84, 3) := by decide +kernel
theorem dX5_drop_50 : decode cX5_drop 50 = .ok (.ireturn, 1) := by decide +kernel
set_option maxRecDepth 20000 in
theorem ggX5_move_X3_hasPlace : GoodIn wsX5_move wsX3_hasPlace := goodIn_r _ [15, 16, 108, 109, 110, 111] (by decide +kernel) (by decide +kernel)
set_option maxRecDepth 20000 in
theorem gX5_move_X3_hasPlace : GoodIn wsX5_move (wsV RX5 94 RX3 yX3_hasPlace wsX3_hasPlace) := goodIn_app (goodIn_of _ (by decide +kernel)) ggX5_move_X3_hasPlace
set_option maxRecDepth 20000 in
theorem ggX5_move_X1_remember : GoodIn wsX5_move wsX1_remember := goodIn_r _ [21, 22, 23, 24, 25, 26, 20, 27, 28, 29, 30, 14, 31, 32, 16, 33, 34, 7, 8, 9, 35, 112, 113, 108, 109, 110, 111] (by decide +kernel) (by decide +kernel)
set_option maxRecDepth 20000 in
theorem gX5_move_X1_remember : GoodIn wsX5_move (wsV RX5 77 RX1 yX1_remember wsX1_remember) := goodIn_app (goodIn_of _ (by decide +kernel)) ggX5_move_X1_remember
set_option maxRecDepth 20000 in
theorem ggX5_move_X5_carry : GoodIn wsX5_move wsX5_carry := goodIn_r _ [39] (by decide +kernel) (by decide +kernel)
set_option maxRecDepth 20000 in
theorem gX5_move_X5_carry : GoodIn wsX5_move (va_wsS RX5 107 yX5_carry wsX5_carry) := goodIn_app (goodIn_of _ (by decide +kernel)) ggX5_move_X5_carry
set_option maxRecDepth 20000 in
theorem ggX5_move_X3_carryRule : GoodIn wsX5_move wsX3_carryRule := goodIn_r _ [43, 33, 35, 37, 38, 39, 108, 109, 110, 111] (by decide +kernel) (by decide +kernel)
set_option maxRecDepth 20000 in
theorem gX5_move_X3_carryRule : GoodIn wsX5_move (wsV RX5 111 RX3 yX3_carryRule wsX3_carryRule) := goodIn_app (goodIn_of _ (by decide +kernel)) ggX5_move_X3_carryRule
set_option maxRecDepth 20000 in
theorem ggX5_move_X4_judge : GoodIn wsX5_move wsX4_judge := goodIn_r _ [48, 49, 50, 51, 52, 53, 54, 55, 56, 57, 58, 59, 47, 60, 61, 62, 63, 64, 65, 66, 67, 68, 69, 70, 71, 72, 73, 74, 75, 76, 38, 77, 78, 79, 80, 81, 82, 83, 84, 108, 109, 110, 111, 96, 97, 98, 99, 100, 101, 102, 103, 104, 105, 106, 107] (by decide +kernel) (by decide +kernel)
set_option maxRecDepth 20000 in
theorem gX5_move_X4_judge : GoodIn wsX5_move (wsV RX5 65 RX4 yX4_judge wsX4_judge) := goodIn_app (goodIn_of _ (by decide +kernel)) ggX5_move_X4_judge
theorem dX5_move_0 : decode cX5_move 0 = .ok (.aload_n 0, 1) := by decide +kernel
theorem dX5_move_1 : decode cX5_move 1 = .ok (.getfield 10, 3) := by decide +kernel
theorem dX5_move_4 : decode cX5_move 4 = .ok (.iload_n 1, 1) := by decide +kernel
theorem dX5_move_5 : decode cX5_move 5 = .ok (.invokevirtual 94, 3) := by decide +kernel
theorem dX5_move_8 : decode cX5_move 8 = .ok (.ifCond .eq 14, 3) := by decide +kernel
theorem dX5_move_11 : decode cX5_move 11 = .ok (.aload_n 0, 1) := by decide +kernel
theorem dX5_move_12 : decode cX5_move 12 = .ok (.getfield 10, 3) := by decide +kernel
theorem dX5_move_15 : decode cX5_move 15 = .ok (.iload_n 2, 1) := by decide +kernel
theorem dX5_move_16 : decode cX5_move 16 = .ok (.invokevirtual 94, 3) := by decide +kernel
theorem dX5_move_19 : decode cX5_move 19 = .ok (.ifCond .ne 5, 3) := by decide +kernel
theorem dX5_move_22 : decode cX5_move 22 = .ok (.iconst (-1), 1) := by decide +kernel
theorem dX5_move_23 : decode cX5_move 23 = .ok (.ireturn, 1) := by decide +kernel
theorem dX5_move_24 : decode cX5_move 24 = .ok (.aload_n 0, 1) := by decide +kernel
theorem dX5_move_25 : decode cX5_move 25 = .ok (.getfield 53, 3) := by decide +kernel
theorem dX5_move_28 : decode cX5_move 28 = .ok (.aload_n 0, 1) := by decide +kernel
theorem dX5_move_29 : decode cX5_move 29 = .ok (.getfield 10, 3) := by decide +kernel
theorem dX5_move_32 : decode cX5_move 32 = .ok (.invokevirtual 77, 3) := by decide +kernel
theorem dX5_move_35 : decode cX5_move 35 = .ok (.aload_n 0, 1) := by decide +kernel
theorem dX5_move_36 : decode cX5_move 36 = .ok (.getfield 19, 3) := by decide +kernel
theorem dX5_move_39 : decode cX5_move 39 = .ok (.getfield 91, 3) := by decide +kernel
theorem dX5_move_42 : decode cX5_move 42 = .ok (.iconst 0, 1) := by decide +kernel
theorem dX5_move_43 : decode cX5_move 43 = .ok (.aload_n 0, 1) := by decide +kernel
theorem dX5_move_44 : decode cX5_move 44 = .ok (.getfield 29, 3) := by decide +kernel
theorem dX5_move_47 : decode cX5_move 47 = .ok (.iconst 0, 1) := by decide +kernel
theorem dX5_move_48 : decode cX5_move 48 = .ok (.bipush 20, 2) := by decide +kernel
theorem dX5_move_50 : decode cX5_move 50 = .ok (.invokestatic 101, 3) := by decide +kernel
theorem dX5_move_53 : decode cX5_move 53 = .ok (.aload_n 0, 1) := by decide +kernel
theorem dX5_move_54 : decode cX5_move 54 = .ok (.getfield 29, 3) := by decide +kernel
theorem dX5_move_57 : decode cX5_move 57 = .ok (.iload_n 1, 1) := by decide +kernel
theorem dX5_move_58 : decode cX5_move 58 = .ok (.iload_n 2, 1) := by decide +kernel
theorem dX5_move_59 : decode cX5_move 59 = .ok (.invokestatic 107, 3) := by decide +kernel
theorem dX5_move_62 : decode cX5_move 62 = .ok (.aload_n 0, 1) := by decide +kernel
theorem dX5_move_63 : decode cX5_move 63 = .ok (.getfield 10, 3) := by decide +kernel
theorem dX5_move_66 : decode cX5_move 66 = .ok (.iload_n 1, 1) := by decide +kernel
theorem dX5_move_67 : decode cX5_move 67 = .ok (.iload_n 2, 1) := by decide +kernel
theorem dX5_move_68 : decode cX5_move 68 = .ok (.invokevirtual 111, 3) := by decide +kernel
theorem dX5_move_71 : decode cX5_move 71 = .ok (.aload_n 0, 1) := by decide +kernel
theorem dX5_move_72 : decode cX5_move 72 = .ok (.getfield 19, 3) := by decide +kernel
theorem dX5_move_75 : decode cX5_move 75 = .ok (.aload_n 0, 1) := by decide +kernel
theorem dX5_move_76 : decode cX5_move 76 = .ok (.getfield 10, 3) := by decide +kernel
theorem dX5_move_79 : decode cX5_move 79 = .ok (.invokevirtual 65, 3) := by decide +kernel
theorem dX5_move_82 : decode cX5_move 82 = .ok (.iconst 0, 1) := by decide +kernel
theorem dX5_move_83 : decode cX5_move 83 = .ok (.istore_n 3, 1) := by decide +kernel
theorem dX5_move_84 : decode cX5_move 84 = .ok (.iconst 0, 1) := by decide +kernel
theorem dX5_move_85 : decode cX5_move 85 = .ok (.istore 4, 2) := by decide +kernel
theorem dX5_move_87 : decode cX5_move 87 = .ok (.iload 4, 2) := by decide +kernel
theorem dX5_move_89 : decode cX5_move 89 = .ok (.aload_n 0, 1) := by decide +kernel
theorem dX5_move_90 : decode cX5_move 90 = .ok (.getfield 10, 3) := by decide +kernel
theorem dX5_move_93 : decode cX5_move 93 = .ok (.getfield 84, 3) := by decide +kernel
theorem dX5_move_96 : decode cX5_move 96 = .ok (.if_icmp .ge 32, 3) := by decide +kernel
theorem dX5_move_99 : decode cX5_move 99 = .ok (.aload_n 0, 1) := by decide +kernel
theorem dX5_move_100 : decode cX5_move 100 = .ok (.getfield 19, 3) := by decide +kernel
theorem dX5_move_103 : decode cX5_move 103 = .ok (.getfield 91, 3) := by decide +kernel
theorem dX5_move_106 : decode cX5_move 106 = .ok (.iload 4, 2) := by decide +kernel
theorem dX5_move_108 : decode cX5_move 108 = .ok (.iaload, 1) := by decide +kernel
theorem dX5_move_109 : decode cX5_move 109 = .ok (.aload_n 0, 1) := by decide +kernel
theorem dX5_move_110 : decode cX5_move 110 = .ok (.getfield 29, 3) := by decide +kernel
theorem dX5_move_113 : decode cX5_move 113 = .ok (.iload 4, 2) := by decide +kernel
theorem dX5_move_115 : decode cX5_move 115 = .ok (.iaload, 1) := by decide +kernel
theorem dX5_move_116 : decode cX5_move 116 = .ok (.if_icmp .eq 6, 3) := by decide +kernel
theorem dX5_move_119 : decode cX5_move 119 = .ok (.iinc 3 1, 3) := by decide +kernel
theorem dX5_move_122 : decode cX5_move 122 = .ok (.iinc 4 1, 3) := by decide +kernel
theorem dX5_move_125 : decode cX5_move 125 = .ok (.goto (-38), 3) := by decide +kernel
theorem dX5_move_128 : decode cX5_move 128 = .ok (.iload_n 3, 1) := by decide +kernel
theorem dX5_move_129 : decode cX5_move 129 = .ok (.ireturn, 1) := by decide +kernel
set_option maxRecDepth 20000 in
theorem ggX5_turn_X3_hasPlace : GoodIn wsX5_turn wsX3_hasPlace := goodIn_r _ [10, 11, 87, 88, 89, 90] (by decide +kernel) (by decide +kernel)
set_option maxRecDepth 20000 in
theorem gX5_turn_X3_hasPlace : GoodIn wsX5_turn (wsV RX5 94 RX3 yX3_hasPlace wsX3_hasPlace) := goodIn_app (goodIn_of _ (by decide +kernel)) ggX5_turn_X3_hasPlace
set_option maxRecDepth 20000 in
theorem ggX5_turn_X1_remember : GoodIn wsX5_turn wsX1_remember := goodIn_r _ [16, 17, 18, 19, 20, 21, 15, 22, 23, 24, 25, 9, 26, 27, 11, 28, 29, 30, 31, 32, 33, 103, 104, 87, 88, 89, 90] (by decide +kernel) (by decide +kernel)
set_option maxRecDepth 20000 in
theorem gX5_turn_X1_remember : GoodIn wsX5_turn (wsV RX5 77 RX1 yX1_remember wsX1_remember) := goodIn_app (goodIn_of _ (by decide +kernel)) ggX5_turn_X1_remember
set_option maxRecDepth 20000 in
theorem ggX5_turn_X4_judge : GoodIn wsX5_turn wsX4_judge := goodIn_r _ [38, 39, 40, 41, 42, 43, 44, 45, 46, 47, 48, 49, 37, 50, 51, 52, 53, 54, 55, 56, 57, 58, 59, 60, 61, 62, 63, 64, 65, 66, 67, 68, 69, 70, 71, 72, 73, 74, 75, 87, 88, 89, 90, 91, 92, 93, 94, 95, 96, 97, 98, 99, 100, 101, 102] (by decide +kernel) (by decide +kernel)
set_option maxRecDepth 20000 in
theorem gX5_turn_X4_judge : GoodIn wsX5_turn (wsV RX5 65 RX4 yX4_judge wsX4_judge) := goodIn_app (goodIn_of _ (by decide +kernel)) ggX5_turn_X4_judge
theorem dX5_turn_0 : decode cX5_turn 0 = .ok (.aload_n 0, 1) := by decide +kernel
theorem dX5_turn_1 : decode cX5_turn 1 = .ok (.getfield 10, 3) := by decide +kernel
theorem dX5_turn_4 : decode cX5_turn 4 = .ok (.iload_n 1, 1) := by decide +kernel
theorem dX5_turn_5 : decode cX5_turn 5 = .ok (.invokevirtual 94, 3) := by decide +kernel
theorem dX5_turn_8 : decode cX5_turn 8 = .ok (.ifCond .ne 5, 3) := by decide +kernel
theorem dX5_turn_11 : decode cX5_turn 11 = .ok (.iconst (-1), 1) := by decide +kernel
theorem dX5_turn_12 : decode cX5_turn 12 = .ok (.ireturn, 1) := by decide +kernel
theorem dX5_turn_13 : decode cX5_turn 13 = .ok (.aload_n 0, 1) := by decide +kernel
theorem dX5_turn_14 : decode cX5_turn 14 = .ok (.getfield 53, 3) := by decide +kernel
theorem dX5_turn_17 : decode cX5_turn 17 = .ok (.aload_n 0, 1) := by decide +kernel
theorem dX5_turn_18 : decode cX5_turn 18 = .ok (.getfield 10, 3) := by decide +kernel
theorem dX5_turn_21 : decode cX5_turn 21 = .ok (.invokevirtual 77, 3) := by decide +kernel
theorem dX5_turn_24 : decode cX5_turn 24 = .ok (.aload_n 0, 1) := by decide +kernel
theorem dX5_turn_25 : decode cX5_turn 25 = .ok (.getfield 10, 3) := by decide +kernel
theorem dX5_turn_28 : decode cX5_turn 28 = .ok (.getfield 114, 3) := by decide +kernel
theorem dX5_turn_31 : decode cX5_turn 31 = .ok (.iload_n 1, 1) := by decide +kernel
theorem dX5_turn_32 : decode cX5_turn 32 = .ok (.iconst 1, 1) := by decide +kernel
theorem dX5_turn_33 : decode cX5_turn 33 = .ok (.aload_n 0, 1) := by decide +kernel
theorem dX5_turn_34 : decode cX5_turn 34 = .ok (.getfield 10, 3) := by decide +kernel
theorem dX5_turn_37 : decode cX5_turn 37 = .ok (.getfield 114, 3) := by decide +kernel
theorem dX5_turn_40 : decode cX5_turn 40 = .ok (.iload_n 1, 1) := by decide +kernel
theorem dX5_turn_41 : decode cX5_turn 41 = .ok (.iaload, 1) := by decide +kernel
theorem dX5_turn_42 : decode cX5_turn 42 = .ok (.isub, 1) := by decide +kernel
theorem dX5_turn_43 : decode cX5_turn 43 = .ok (.iastore, 1) := by decide +kernel
theorem dX5_turn_44 : decode cX5_turn 44 = .ok (.aload_n 0, 1) := by decide +kernel
theorem dX5_turn_45 : decode cX5_turn 45 = .ok (.getfield 19, 3) := by decide +kernel
theorem dX5_turn_48 : decode cX5_turn 48 = .ok (.aload_n 0, 1) := by decide +kernel
theorem dX5_turn_49 : decode cX5_turn 49 = .ok (.getfield 10, 3) := by decide +kernel
theorem dX5_turn_52 : decode cX5_turn 52 = .ok (.invokevirtual 65, 3) := by decide +kernel
theorem dX5_turn_55 : decode cX5_turn 55 = .ok (.aload_n 0, 1) := by decide +kernel
theorem dX5_turn_56 : decode cX5_turn 56 = .ok (.getfield 19, 3) := by decide +kernel
theorem dX5_turn_59 : decode cX5_turn 59 = .ok (.getfield 91, 3) := by decide +kernel
theorem dX5_turn_62 : decode cX5_turn 62 = .ok (.iload_n 1, 1) := by decide +kernel
theorem dX5_turn_63 : decode cX5_turn 63 = .ok (.iaload, 1) := by decide +kernel
theorem dX5_turn_64 : decode cX5_turn 64 = .ok (.ireturn, 1) := by decide +kernel
set_option maxRecDepth 20000 in
theorem ggX5_rule_X3_hasPlace : GoodIn wsX5_rule wsX3_hasPlace := goodIn_r _ [11, 12, 49, 50, 51, 52] (by decide +kernel) (by decide +kernel)
set_option maxRecDepth 20000 in
theorem gX5_rule_X3_hasPlace : GoodIn wsX5_rule (wsV RX5 94 RX3 yX3_hasPlace wsX3_hasPlace) := goodIn_app (goodIn_of _ (by decide +kernel)) ggX5_rule_X3_hasPlace
set_option maxRecDepth 20000 in
theorem ggX5_rule_X4_reasonsWith : GoodIn wsX5_rule wsX4_reasonsWith := goodIn_r _ [17, 18, 19, 37, 38, 39, 40, 41, 42, 43, 44, 45, 46, 47, 48] (by decide +kernel) (by decide +kernel)
set_option maxRecDepth 20000 in
theorem gX5_rule_X4_reasonsWith : GoodIn wsX5_rule (wsV RX5 130 RX4 yX4_reasonsWith wsX4_reasonsWith) := goodIn_app (goodIn_of _ (by decide +kernel)) ggX5_rule_X4_reasonsWith
set_option maxRecDepth 20000 in
theorem ggX5_rule_X4_answers : GoodIn wsX5_rule wsX4_answers := goodIn_r _ [23, 24, 25, 37, 38, 39, 40, 41, 42, 43, 44, 45, 46, 47, 48] (by decide +kernel) (by decide +kernel)
set_option maxRecDepth 20000 in
theorem gX5_rule_X4_answers : GoodIn wsX5_rule (wsV RX5 134 RX4 yX4_answers wsX4_answers) := goodIn_app (goodIn_of _ (by decide +kernel)) ggX5_rule_X4_answers
theorem dX5_rule_0 : decode cX5_rule 0 = .ok (.aload_n 0, 1) := by decide +kernel
theorem dX5_rule_1 : decode cX5_rule 1 = .ok (.getfield 10, 3) := by decide +kernel
theorem dX5_rule_4 : decode cX5_rule 4 = .ok (.iload_n 1, 1) := by decide +kernel
theorem dX5_rule_5 : decode cX5_rule 5 = .ok (.invokevirtual 94, 3) := by decide +kernel
theorem dX5_rule_8 : decode cX5_rule 8 = .ok (.ifCond .ne 5, 3) := by decide +kernel
theorem dX5_rule_11 : decode cX5_rule 11 = .ok (.iconst (-1), 1) := by decide +kernel
theorem dX5_rule_12 : decode cX5_rule 12 = .ok (.ireturn, 1) := by decide +kernel
theorem dX5_rule_13 : decode cX5_rule 13 = .ok (.aload_n 0, 1) := by decide +kernel
theorem dX5_rule_14 : decode cX5_rule 14 = .ok (.getfield 19, 3) := by decide +kernel
theorem dX5_rule_17 : decode cX5_rule 17 = .ok (.getfield 91, 3) := by decide +kernel
theorem dX5_rule_20 : decode cX5_rule 20 = .ok (.iload_n 1, 1) := by decide +kernel
theorem dX5_rule_21 : decode cX5_rule 21 = .ok (.iaload, 1) := by decide +kernel
theorem dX5_rule_22 : decode cX5_rule 22 = .ok (.istore_n 3, 1) := by decide +kernel
theorem dX5_rule_23 : decode cX5_rule 23 = .ok (.iload_n 2, 1) := by decide +kernel
theorem dX5_rule_24 : decode cX5_rule 24 = .ok (.tableswitch 107 0 5 #[40, 50, 60, 62, 81, 90], 40) := by decide +kernel
theorem dX5_rule_64 : decode cX5_rule 64 = .ok (.aload_n 0, 1) := by decide +kernel
theorem dX5_rule_65 : decode cX5_rule 65 = .ok (.getfield 10, 3) := by decide +kernel
theorem dX5_rule_68 : decode cX5_rule 68 = .ok (.getfield 121, 3) := by decide +kernel
theorem dX5_rule_71 : decode cX5_rule 71 = .ok (.iload_n 1, 1) := by decide +kernel
theorem dX5_rule_72 : decode cX5_rule 72 = .ok (.iaload, 1) := by decide +kernel
theorem dX5_rule_73 : decode cX5_rule 73 = .ok (.ireturn, 1) := by decide +kernel
theorem dX5_rule_74 : decode cX5_rule 74 = .ok (.aload_n 0, 1) := by decide +kernel
theorem dX5_rule_75 : decode cX5_rule 75 = .ok (.getfield 10, 3) := by decide +kernel
theorem dX5_rule_78 : decode cX5_rule 78 = .ok (.getfield 114, 3) := by decide +kernel
theorem dX5_rule_81 : decode cX5_rule 81 = .ok (.iload_n 1, 1) := by decide +kernel
theorem dX5_rule_82 : decode cX5_rule 82 = .ok (.iaload, 1) := by decide +kernel
theorem dX5_rule_83 : decode cX5_rule 83 = .ok (.ireturn, 1) := by decide +kernel
theorem dX5_rule_84 : decode cX5_rule 84 = .ok (.iload_n 3, 1) := by decide +kernel
theorem dX5_rule_85 : decode cX5_rule 85 = .ok (.ireturn, 1) := by decide +kernel
theorem dX5_rule_86 : decode cX5_rule 86 = .ok (.iload_n 3, 1) := by decide +kernel
theorem dX5_rule_87 : decode cX5_rule 87 = .ok (.ifCond .ne 8, 3) := by decide +kernel
theorem dX5_rule_90 : decode cX5_rule 90 = .ok (.bipush (-6), 2) := by decide +kernel
theorem dX5_rule_92 : decode cX5_rule 92 = .ok (.goto 12, 3) := by decide +kernel
theorem dX5_rule_95 : decode cX5_rule 95 = .ok (.aload_n 0, 1) := by decide +kernel
theorem dX5_rule_96 : decode cX5_rule 96 = .ok (.getfield 19, 3) := by decide +kernel
theorem dX5_rule_99 : decode cX5_rule 99 = .ok (.getfield 127, 3) := by decide +kernel
theorem dX5_rule_102 : decode cX5_rule 102 = .ok (.iload_n 1, 1) := by decide +kernel
theorem dX5_rule_103 : decode cX5_rule 103 = .ok (.iaload, 1) := by decide +kernel
theorem dX5_rule_104 : decode cX5_rule 104 = .ok (.ireturn, 1) := by decide +kernel
theorem dX5_rule_105 : decode cX5_rule 105 = .ok (.aload_n 0, 1) := by decide +kernel
theorem dX5_rule_106 : decode cX5_rule 106 = .ok (.getfield 19, 3) := by decide +kernel
theorem dX5_rule_109 : decode cX5_rule 109 = .ok (.iload_n 1, 1) := by decide +kernel
theorem dX5_rule_110 : decode cX5_rule 110 = .ok (.invokevirtual 130, 3) := by decide +kernel
theorem dX5_rule_113 : decode cX5_rule 113 = .ok (.ireturn, 1) := by decide +kernel
theorem dX5_rule_114 : decode cX5_rule 114 = .ok (.iload_n 3, 1) := by decide +kernel
theorem dX5_rule_115 : decode cX5_rule 115 = .ok (.iconst 2, 1) := by decide +kernel
theorem dX5_rule_116 : decode cX5_rule 116 = .ok (.if_icmp .ne 7, 3) := by decide +kernel
theorem dX5_rule_119 : decode cX5_rule 119 = .ok (.iconst 0, 1) := by decide +kernel
theorem dX5_rule_120 : decode cX5_rule 120 = .ok (.goto 10, 3) := by decide +kernel
theorem dX5_rule_123 : decode cX5_rule 123 = .ok (.aload_n 0, 1) := by decide +kernel
theorem dX5_rule_124 : decode cX5_rule 124 = .ok (.getfield 19, 3) := by decide +kernel
theorem dX5_rule_127 : decode cX5_rule 127 = .ok (.invokevirtual 134, 3) := by decide +kernel
theorem dX5_rule_130 : decode cX5_rule 130 = .ok (.ireturn, 1) := by decide +kernel
theorem dX5_rule_131 : decode cX5_rule 131 = .ok (.bipush (-2), 2) := by decide +kernel
theorem dX5_rule_133 : decode cX5_rule 133 = .ok (.ireturn, 1) := by decide +kernel
set_option maxRecDepth 20000 in
theorem ggX5_choice_X4_sumOf : GoodIn wsX5_choice wsX4_sumOf := goodIn_r _ [8, 9, 10, 11, 12, 13, 7, 14, 15, 16, 17, 18, 47, 48, 49, 50, 51, 52, 53, 54, 55, 56, 57, 58] (by decide +kernel) (by decide +kernel)
set_option maxRecDepth 20000 in
theorem gX5_choice_X4_sumOf : GoodIn wsX5_choice (wsV RX5 138 RX4 yX4_sumOf wsX4_sumOf) := goodIn_app (goodIn_of _ (by decide +kernel)) ggX5_choice_X4_sumOf
set_option maxRecDepth 20000 in
theorem ggX5_choice_X3_rulesWith : GoodIn wsX5_choice wsX3_rulesWith := goodIn_r _ [23, 24, 25, 43, 44, 45, 46] (by decide +kernel) (by decide +kernel)
set_option maxRecDepth 20000 in
theorem gX5_choice_X3_rulesWith : GoodIn wsX5_choice (wsV RX5 141 RX3 yX3_rulesWith wsX3_rulesWith) := goodIn_app (goodIn_of _ (by decide +kernel)) ggX5_choice_X3_rulesWith
set_option maxRecDepth 20000 in
theorem ggX5_choice_X4_boundTo : GoodIn wsX5_choice wsX4_boundTo := goodIn_r _ [29, 30, 31, 5, 6, 7, 8, 9, 10, 11, 12, 13, 14, 15, 16, 17, 18, 47, 48, 49, 50, 51, 52, 53, 54, 55, 56, 57, 58] (by decide +kernel) (by decide +kernel)
set_option maxRecDepth 20000 in
theorem gX5_choice_X4_boundTo : GoodIn wsX5_choice (wsV RX5 144 RX4 yX4_boundTo wsX4_boundTo) := goodIn_app (goodIn_of _ (by decide +kernel)) ggX5_choice_X4_boundTo
theorem dX5_choice_0 : decode cX5_choice 0 = .ok (.iload_n 1, 1) := by decide +kernel
theorem dX5_choice_1 : decode cX5_choice 1 = .ok (.ifCond .lt 14, 3) := by decide +kernel
theorem dX5_choice_4 : decode cX5_choice 4 = .ok (.iload_n 1, 1) := by decide +kernel
theorem dX5_choice_5 : decode cX5_choice 5 = .ok (.aload_n 0, 1) := by decide +kernel
theorem dX5_choice_6 : decode cX5_choice 6 = .ok (.getfield 10, 3) := by decide +kernel
theorem dX5_choice_9 : decode cX5_choice 9 = .ok (.getfield 73, 3) := by decide +kernel
theorem dX5_choice_12 : decode cX5_choice 12 = .ok (.if_icmp .lt 5, 3) := by decide +kernel
theorem dX5_choice_15 : decode cX5_choice 15 = .ok (.iconst (-1), 1) := by decide +kernel
theorem dX5_choice_16 : decode cX5_choice 16 = .ok (.ireturn, 1) := by decide +kernel
theorem dX5_choice_17 : decode cX5_choice 17 = .ok (.iload_n 2, 1) := by decide +kernel
theorem dX5_choice_18 : decode cX5_choice 18 = .ok (.tableswitch 55 0 2 #[26, 37, 46], 26) := by decide +kernel
theorem dX5_choice_44 : decode cX5_choice 44 = .ok (.aload_n 0, 1) := by decide +kernel
theorem dX5_choice_45 : decode cX5_choice 45 = .ok (.getfield 19, 3) := by decide +kernel
theorem dX5_choice_48 : decode cX5_choice 48 = .ok (.iconst 1, 1) := by decide +kernel
theorem dX5_choice_49 : decode cX5_choice 49 = .ok (.iload_n 1, 1) := by decide +kernel
theorem dX5_choice_50 : decode cX5_choice 50 = .ok (.ishl, 1) := by decide +kernel
theorem dX5_choice_51 : decode cX5_choice 51 = .ok (.invokevirtual 138, 3) := by decide +kernel
theorem dX5_choice_54 : decode cX5_choice 54 = .ok (.ireturn, 1) := by decide +kernel
theorem dX5_choice_55 : decode cX5_choice 55 = .ok (.aload_n 0, 1) := by decide +kernel
theorem dX5_choice_56 : decode cX5_choice 56 = .ok (.getfield 10, 3) := by decide +kernel
theorem dX5_choice_59 : decode cX5_choice 59 = .ok (.iload_n 1, 1) := by decide +kernel
theorem dX5_choice_60 : decode cX5_choice 60 = .ok (.invokevirtual 141, 3) := by decide +kernel
theorem dX5_choice_63 : decode cX5_choice 63 = .ok (.ireturn, 1) := by decide +kernel
theorem dX5_choice_64 : decode cX5_choice 64 = .ok (.aload_n 0, 1) := by decide +kernel
theorem dX5_choice_65 : decode cX5_choice 65 = .ok (.getfield 19, 3) := by decide +kernel
theorem dX5_choice_68 : decode cX5_choice 68 = .ok (.iload_n 1, 1) := by decide +kernel
theorem dX5_choice_69 : decode cX5_choice 69 = .ok (.invokevirtual 144, 3) := by decide +kernel
theorem dX5_choice_72 : decode cX5_choice 72 = .ok (.ireturn, 1) := by decide +kernel
theorem dX5_choice_73 : decode cX5_choice 73 = .ok (.bipush (-2), 2) := by decide +kernel
theorem dX5_choice_75 : decode cX5_choice 75 = .ok (.ireturn, 1) := by decide +kernel
set_option maxRecDepth 20000 in
theorem ggX5_count_X4_answers : GoodIn wsX5_count wsX4_answers := goodIn_r _ [14, 15, 16, 50, 51, 52, 53, 54, 55, 56, 57, 58, 59, 60, 61] (by decide +kernel) (by decide +kernel)
set_option maxRecDepth 20000 in
theorem gX5_count_X4_answers : GoodIn wsX5_count (wsV RX5 134 RX4 yX4_answers wsX4_answers) := goodIn_app (goodIn_of _ (by decide +kernel)) ggX5_count_X4_answers
set_option maxRecDepth 20000 in
theorem ggX5_count_X4_settled : GoodIn wsX5_count wsX4_settled := goodIn_r _ [20, 15, 21, 22, 23, 13, 24, 25, 26, 27, 28, 29, 30, 31, 32, 33, 34, 50, 51, 52, 53, 54, 55, 56, 57, 58, 59, 60, 61] (by decide +kernel) (by decide +kernel)
set_option maxRecDepth 20000 in
theorem gX5_count_X4_settled : GoodIn wsX5_count (wsV RX5 150 RX4 yX4_settled wsX4_settled) := goodIn_app (goodIn_of _ (by decide +kernel)) ggX5_count_X4_settled
theorem dX5_count_0 : decode cX5_count 0 = .ok (.iload_n 1, 1) := by decide +kernel
theorem dX5_count_1 : decode cX5_count 1 = .ok (.tableswitch 129 0 8 #[51, 59, 69, 79, 89, 97, 105, 113, 121], 51) := by decide +kernel
theorem dX5_count_52 : decode cX5_count 52 = .ok (.aload_n 0, 1) := by decide +kernel
theorem dX5_count_53 : decode cX5_count 53 = .ok (.getfield 10, 3) := by decide +kernel
theorem dX5_count_56 : decode cX5_count 56 = .ok (.getfield 84, 3) := by decide +kernel
theorem dX5_count_59 : decode cX5_count 59 = .ok (.ireturn, 1) := by decide +kernel
theorem dX5_count_60 : decode cX5_count 60 = .ok (.aload_n 0, 1) := by decide +kernel
theorem dX5_count_61 : decode cX5_count 61 = .ok (.getfield 19, 3) := by decide +kernel
theorem dX5_count_64 : decode cX5_count 64 = .ok (.getfield 147, 3) := by decide +kernel
theorem dX5_count_67 : decode cX5_count 67 = .ok (.iconst 0, 1) := by decide +kernel
theorem dX5_count_68 : decode cX5_count 68 = .ok (.iaload, 1) := by decide +kernel
theorem dX5_count_69 : decode cX5_count 69 = .ok (.ireturn, 1) := by decide +kernel
theorem dX5_count_70 : decode cX5_count 70 = .ok (.aload_n 0, 1) := by decide +kernel
theorem dX5_count_71 : decode cX5_count 71 = .ok (.getfield 19, 3) := by decide +kernel
theorem dX5_count_74 : decode cX5_count 74 = .ok (.getfield 147, 3) := by decide +kernel
theorem dX5_count_77 : decode cX5_count 77 = .ok (.iconst 1, 1) := by decide +kernel
theorem dX5_count_78 : decode cX5_count 78 = .ok (.iaload, 1) := by decide +kernel
theorem dX5_count_79 : decode cX5_count 79 = .ok (.ireturn, 1) := by decide +kernel
theorem dX5_count_80 : decode cX5_count 80 = .ok (.aload_n 0, 1) := by decide +kernel
theorem dX5_count_81 : decode cX5_count 81 = .ok (.getfield 19, 3) := by decide +kernel
theorem dX5_count_84 : decode cX5_count 84 = .ok (.getfield 147, 3) := by decide +kernel
theorem dX5_count_87 : decode cX5_count 87 = .ok (.iconst 2, 1) := by decide +kernel
theorem dX5_count_88 : decode cX5_count 88 = .ok (.iaload, 1) := by decide +kernel
theorem dX5_count_89 : decode cX5_count 89 = .ok (.ireturn, 1) := by decide +kernel
theorem dX5_count_90 : decode cX5_count 90 = .ok (.aload_n 0, 1) := by decide +kernel
theorem dX5_count_91 : decode cX5_count 91 = .ok (.getfield 19, 3) := by decide +kernel
theorem dX5_count_94 : decode cX5_count 94 = .ok (.invokevirtual 134, 3) := by decide +kernel
theorem dX5_count_97 : decode cX5_count 97 = .ok (.ireturn, 1) := by decide +kernel
theorem dX5_count_98 : decode cX5_count 98 = .ok (.aload_n 0, 1) := by decide +kernel
theorem dX5_count_99 : decode cX5_count 99 = .ok (.getfield 19, 3) := by decide +kernel
theorem dX5_count_102 : decode cX5_count 102 = .ok (.invokevirtual 150, 3) := by decide +kernel
theorem dX5_count_105 : decode cX5_count 105 = .ok (.ireturn, 1) := by decide +kernel
theorem dX5_count_106 : decode cX5_count 106 = .ok (.aload_n 0, 1) := by decide +kernel
theorem dX5_count_107 : decode cX5_count 107 = .ok (.getfield 10, 3) := by decide +kernel
theorem dX5_count_110 : decode cX5_count 110 = .ok (.getfield 73, 3) := by decide +kernel
theorem dX5_count_113 : decode cX5_count 113 = .ok (.ireturn, 1) := by decide +kernel
theorem dX5_count_114 : decode cX5_count 114 = .ok (.aload_n 0, 1) := by decide +kernel
theorem dX5_count_115 : decode cX5_count 115 = .ok (.getfield 43, 3) := by decide +kernel
theorem dX5_count_118 : decode cX5_count 118 = .ok (.getfield 124, 3) := by decide +kernel
theorem dX5_count_121 : decode cX5_count 121 = .ok (.ireturn, 1) := by decide +kernel
theorem dX5_count_122 : decode cX5_count 122 = .ok (.aload_n 0, 1) := by decide +kernel
theorem dX5_count_123 : decode cX5_count 123 = .ok (.getfield 53, 3) := by decide +kernel
theorem dX5_count_126 : decode cX5_count 126 = .ok (.getfield 153, 3) := by decide +kernel
theorem dX5_count_129 : decode cX5_count 129 = .ok (.ireturn, 1) := by decide +kernel
theorem dX5_count_130 : decode cX5_count 130 = .ok (.bipush (-2), 2) := by decide +kernel
theorem dX5_count_132 : decode cX5_count 132 = .ok (.ireturn, 1) := by decide +kernel
set_option maxRecDepth 20000 in
theorem ggX5_answer_X4_answers : GoodIn wsX5_answer wsX4_answers := goodIn_r _ [6, 7, 8, 36, 37, 38, 39, 40, 41, 42, 43, 44, 45, 46, 47] (by decide +kernel) (by decide +kernel)
set_option maxRecDepth 20000 in
theorem gX5_answer_X4_answers : GoodIn wsX5_answer (wsV RX5 134 RX4 yX4_answers wsX4_answers) := goodIn_app (goodIn_of _ (by decide +kernel)) ggX5_answer_X4_answers
set_option maxRecDepth 20000 in
theorem ggX5_answer_X4_answerAt : GoodIn wsX5_answer wsX4_answerAt := goodIn_r _ [12, 7, 8, 13, 14, 15, 16, 17, 18, 19, 20, 21, 22, 23, 24, 36, 37, 38, 39, 40, 41, 42, 43, 44, 45, 46, 47] (by decide +kernel) (by decide +kernel)
set_option maxRecDepth 20000 in
theorem gX5_answer_X4_answerAt : GoodIn wsX5_answer (wsV RX5 154 RX4 yX4_answerAt wsX4_answerAt) := goodIn_app (goodIn_of _ (by decide +kernel)) ggX5_answer_X4_answerAt
theorem dX5_answer_0 : decode cX5_answer 0 = .ok (.iload_n 1, 1) := by decide +kernel
theorem dX5_answer_1 : decode cX5_answer 1 = .ok (.ifCond .lt 14, 3) := by decide +kernel
theorem dX5_answer_4 : decode cX5_answer 4 = .ok (.iload_n 1, 1) := by decide +kernel
theorem dX5_answer_5 : decode cX5_answer 5 = .ok (.aload_n 0, 1) := by decide +kernel
theorem dX5_answer_6 : decode cX5_answer 6 = .ok (.getfield 19, 3) := by decide +kernel
theorem dX5_answer_9 : decode cX5_answer 9 = .ok (.invokevirtual 134, 3) := by decide +kernel
theorem dX5_answer_12 : decode cX5_answer 12 = .ok (.if_icmp .lt 5, 3) := by decide +kernel
theorem dX5_answer_15 : decode cX5_answer 15 = .ok (.iconst (-1), 1) := by decide +kernel
theorem dX5_answer_16 : decode cX5_answer 16 = .ok (.ireturn, 1) := by decide +kernel
theorem dX5_answer_17 : decode cX5_answer 17 = .ok (.aload_n 0, 1) := by decide +kernel
theorem dX5_answer_18 : decode cX5_answer 18 = .ok (.getfield 19, 3) := by decide +kernel
theorem dX5_answer_21 : decode cX5_answer 21 = .ok (.iload_n 1, 1) := by decide +kernel
theorem dX5_answer_22 : decode cX5_answer 22 = .ok (.invokevirtual 154, 3) := by decide +kernel
theorem dX5_answer_25 : decode cX5_answer 25 = .ok (.ireturn, 1) := by decide +kernel
set_option maxRecDepth 20000 in
theorem ggX5_known_X3_hasSet : GoodIn wsX5_known wsX3_hasSet := goodIn_r _ [7, 8, 35, 36, 37, 38] (by decide +kernel) (by decide +kernel)
set_option maxRecDepth 20000 in
theorem gX5_known_X3_hasSet : GoodIn wsX5_known (wsV RX5 157 RX3 yX3_hasSet wsX3_hasSet) := goodIn_app (goodIn_of _ (by decide +kernel)) ggX5_known_X3_hasSet
set_option maxRecDepth 20000 in
theorem ggX5_known_X4_sumOf : GoodIn wsX5_known wsX4_sumOf := goodIn_r _ [13, 14, 15, 16, 17, 18, 12, 19, 20, 21, 22, 23, 39, 40, 41, 42, 43, 44, 45, 46, 47, 48, 49, 50] (by decide +kernel) (by decide +kernel)
set_option maxRecDepth 20000 in
theorem gX5_known_X4_sumOf : GoodIn wsX5_known (wsV RX5 138 RX4 yX4_sumOf wsX4_sumOf) := goodIn_app (goodIn_of _ (by decide +kernel)) ggX5_known_X4_sumOf
theorem dX5_known_0 : decode cX5_known 0 = .ok (.aload_n 0, 1) := by decide +kernel
theorem dX5_known_1 : decode cX5_known 1 = .ok (.getfield 10, 3) := by decide +kernel
theorem dX5_known_4 : decode cX5_known 4 = .ok (.iload_n 1, 1) := by decide +kernel
theorem dX5_known_5 : decode cX5_known 5 = .ok (.invokevirtual 157, 3) := by decide +kernel
theorem dX5_known_8 : decode cX5_known 8 = .ok (.ifCond .eq 14, 3) := by decide +kernel
theorem dX5_known_11 : decode cX5_known 11 = .ok (.aload_n 0, 1) := by decide +kernel
theorem dX5_known_12 : decode cX5_known 12 = .ok (.getfield 19, 3) := by decide +kernel
theorem dX5_known_15 : decode cX5_known 15 = .ok (.iload_n 1, 1) := by decide +kernel
theorem dX5_known_16 : decode cX5_known 16 = .ok (.invokevirtual 138, 3) := by decide +kernel
theorem dX5_known_19 : decode cX5_known 19 = .ok (.goto 5, 3) := by decide +kernel
theorem dX5_known_22 : decode cX5_known 22 = .ok (.bipush (-2), 2) := by decide +kernel
theorem dX5_known_24 : decode cX5_known 24 = .ok (.ireturn, 1) := by decide +kernel
set_option maxRecDepth 20000 in
theorem ggX5_nearest_X3_hasSet : GoodIn wsX5_nearest wsX3_hasSet := goodIn_r _ [7, 8, 55, 56, 57, 58] (by decide +kernel) (by decide +kernel)
set_option maxRecDepth 20000 in
theorem gX5_nearest_X3_hasSet : GoodIn wsX5_nearest (wsV RX5 157 RX3 yX3_hasSet wsX3_hasSet) := goodIn_app (goodIn_of _ (by decide +kernel)) ggX5_nearest_X3_hasSet
set_option maxRecDepth 20000 in
theorem ggX5_nearest_X4_nearestTo : GoodIn wsX5_nearest wsX4_nearestTo := goodIn_r _ [13, 14, 15, 16, 17, 12, 18, 19, 20, 21, 22, 23, 24, 25, 26, 27, 28, 29, 30, 31, 32, 33, 34, 35, 36, 37, 38, 39, 40, 41, 42, 43, 59, 60, 61, 62, 63, 64, 65, 66, 67, 68, 69, 70] (by decide +kernel) (by decide +kernel)
set_option maxRecDepth 20000 in
theorem gX5_nearest_X4_nearestTo : GoodIn wsX5_nearest (wsV RX5 160 RX4 yX4_nearestTo wsX4_nearestTo) := goodIn_app (goodIn_of _ (by decide +kernel)) ggX5_nearest_X4_nearestTo
set_option maxRecDepth 20000 in
theorem ggX5_nearest_J6_bitCount_0f7a4 : GoodIn wsX5_nearest wsJ6_bitCount_0f7a4 := goodIn_r _ [33, 34, 35, 36] (by decide +kernel) (by decide +kernel)
set_option maxRecDepth 20000 in
theorem gX5_nearest_J6_bitCount_0f7a4 : GoodIn wsX5_nearest (va_wsS RX5 163 yJ6_bitCount_0f7a4 wsJ6_bitCount_0f7a4) := goodIn_app (goodIn_of _ (by decide +kernel)) ggX5_nearest_J6_bitCount_0f7a4
theorem dX5_nearest_0 : decode cX5_nearest 0 = .ok (.aload_n 0, 1) := by decide +kernel
theorem dX5_nearest_1 : decode cX5_nearest 1 = .ok (.getfield 10, 3) := by decide +kernel
theorem dX5_nearest_4 : decode cX5_nearest 4 = .ok (.iload_n 1, 1) := by decide +kernel
theorem dX5_nearest_5 : decode cX5_nearest 5 = .ok (.invokevirtual 157, 3) := by decide +kernel
theorem dX5_nearest_8 : decode cX5_nearest 8 = .ok (.ifCond .eq 12, 3) := by decide +kernel
theorem dX5_nearest_11 : decode cX5_nearest 11 = .ok (.iload_n 2, 1) := by decide +kernel
theorem dX5_nearest_12 : decode cX5_nearest 12 = .ok (.ifCond .lt 8, 3) := by decide +kernel
theorem dX5_nearest_15 : decode cX5_nearest 15 = .ok (.iload_n 2, 1) := by decide +kernel
theorem dX5_nearest_16 : decode cX5_nearest 16 = .ok (.iconst 1, 1) := by decide +kernel
theorem dX5_nearest_17 : decode cX5_nearest 17 = .ok (.if_icmp .le 6, 3) := by decide +kernel
theorem dX5_nearest_20 : decode cX5_nearest 20 = .ok (.bipush (-2), 2) := by decide +kernel
theorem dX5_nearest_22 : decode cX5_nearest 22 = .ok (.ireturn, 1) := by decide +kernel
theorem dX5_nearest_23 : decode cX5_nearest 23 = .ok (.aload_n 0, 1) := by decide +kernel
theorem dX5_nearest_24 : decode cX5_nearest 24 = .ok (.getfield 19, 3) := by decide +kernel
theorem dX5_nearest_27 : decode cX5_nearest 27 = .ok (.iload_n 1, 1) := by decide +kernel
theorem dX5_nearest_28 : decode cX5_nearest 28 = .ok (.invokevirtual 160, 3) := by decide +kernel
theorem dX5_nearest_31 : decode cX5_nearest 31 = .ok (.istore_n 3, 1) := by decide +kernel
theorem dX5_nearest_32 : decode cX5_nearest 32 = .ok (.iload_n 2, 1) := by decide +kernel
theorem dX5_nearest_33 : decode cX5_nearest 33 = .ok (.ifCond .ne 7, 3) := by decide +kernel
theorem dX5_nearest_36 : decode cX5_nearest 36 = .ok (.iload_n 3, 1) := by decide +kernel
theorem dX5_nearest_37 : decode cX5_nearest 37 = .ok (.goto 9, 3) := by decide +kernel
theorem dX5_nearest_40 : decode cX5_nearest 40 = .ok (.iload_n 3, 1) := by decide +kernel
theorem dX5_nearest_41 : decode cX5_nearest 41 = .ok (.iload_n 1, 1) := by decide +kernel
theorem dX5_nearest_42 : decode cX5_nearest 42 = .ok (.ixor, 1) := by decide +kernel
theorem dX5_nearest_43 : decode cX5_nearest 43 = .ok (.invokestatic 163, 3) := by decide +kernel
theorem dX5_nearest_46 : decode cX5_nearest 46 = .ok (.ireturn, 1) := by decide +kernel
set_option maxRecDepth 20000 in
theorem ggX5_best_X0_find : GoodIn wsX5_best wsX0_find := goodIn_r _ [10, 11, 12, 13, 14, 15, 16, 17, 18, 9, 19, 20, 21, 22, 23, 24, 25, 26, 27, 28, 29, 30, 31, 32, 33, 34, 35, 36, 37, 38, 50, 51, 52, 53, 54, 55, 56, 57] (by decide +kernel) (by decide +kernel)
set_option maxRecDepth 20000 in
theorem gX5_best_X0_find : GoodIn wsX5_best (wsV RX5 168 RX0 yX0_find wsX0_find) := goodIn_app (goodIn_of _ (by decide +kernel)) ggX5_best_X0_find
theorem dX5_best_0 : decode cX5_best 0 = .ok (.iload_n 1, 1) := by decide +kernel
theorem dX5_best_1 : decode cX5_best 1 = .ok (.ifCond .lt 8, 3) := by decide +kernel
theorem dX5_best_4 : decode cX5_best 4 = .ok (.iload_n 1, 1) := by decide +kernel
theorem dX5_best_5 : decode cX5_best 5 = .ok (.iconst 2, 1) := by decide +kernel
theorem dX5_best_6 : decode cX5_best 6 = .ok (.if_icmp .le 6, 3) := by decide +kernel
theorem dX5_best_9 : decode cX5_best 9 = .ok (.bipush (-2), 2) := by decide +kernel
theorem dX5_best_11 : decode cX5_best 11 = .ok (.ireturn, 1) := by decide +kernel
theorem dX5_best_12 : decode cX5_best 12 = .ok (.aload_n 0, 1) := by decide +kernel
theorem dX5_best_13 : decode cX5_best 13 = .ok (.getfield 36, 3) := by decide +kernel
theorem dX5_best_16 : decode cX5_best 16 = .ok (.aload_n 0, 1) := by decide +kernel
theorem dX5_best_17 : decode cX5_best 17 = .ok (.getfield 10, 3) := by decide +kernel
theorem dX5_best_20 : decode cX5_best 20 = .ok (.invokevirtual 168, 3) := by decide +kernel
theorem dX5_best_23 : decode cX5_best 23 = .ok (.iload_n 1, 1) := by decide +kernel
theorem dX5_best_24 : decode cX5_best 24 = .ok (.ifCond .ne 11, 3) := by decide +kernel
theorem dX5_best_27 : decode cX5_best 27 = .ok (.aload_n 0, 1) := by decide +kernel
theorem dX5_best_28 : decode cX5_best 28 = .ok (.getfield 36, 3) := by decide +kernel
theorem dX5_best_31 : decode cX5_best 31 = .ok (.getfield 171, 3) := by decide +kernel
theorem dX5_best_34 : decode cX5_best 34 = .ok (.ireturn, 1) := by decide +kernel
theorem dX5_best_35 : decode cX5_best 35 = .ok (.iload_n 1, 1) := by decide +kernel
theorem dX5_best_36 : decode cX5_best 36 = .ok (.iconst 1, 1) := by decide +kernel
theorem dX5_best_37 : decode cX5_best 37 = .ok (.if_icmp .ne 13, 3) := by decide +kernel
theorem dX5_best_40 : decode cX5_best 40 = .ok (.aload_n 0, 1) := by decide +kernel
theorem dX5_best_41 : decode cX5_best 41 = .ok (.getfield 36, 3) := by decide +kernel
theorem dX5_best_44 : decode cX5_best 44 = .ok (.getfield 174, 3) := by decide +kernel
theorem dX5_best_47 : decode cX5_best 47 = .ok (.goto 10, 3) := by decide +kernel
theorem dX5_best_50 : decode cX5_best 50 = .ok (.aload_n 0, 1) := by decide +kernel
theorem dX5_best_51 : decode cX5_best 51 = .ok (.getfield 36, 3) := by decide +kernel
theorem dX5_best_54 : decode cX5_best 54 = .ok (.getfield 177, 3) := by decide +kernel
theorem dX5_best_57 : decode cX5_best 57 = .ok (.ireturn, 1) := by decide +kernel
set_option maxRecDepth 20000 in
theorem ggX5_ifDropped_X3_hasPlace : GoodIn wsX5_ifDropped wsX3_hasPlace := goodIn_r _ [8, 9, 88, 89, 90, 91] (by decide +kernel) (by decide +kernel)
set_option maxRecDepth 20000 in
theorem gX5_ifDropped_X3_hasPlace : GoodIn wsX5_ifDropped (wsV RX5 94 RX3 yX3_hasPlace wsX3_hasPlace) := goodIn_app (goodIn_of _ (by decide +kernel)) ggX5_ifDropped_X3_hasPlace
set_option maxRecDepth 20000 in
theorem ggX5_ifDropped_X3_become : GoodIn wsX5_ifDropped wsX3_become := goodIn_r _ [13, 14, 9, 15, 16, 17, 18, 19, 20, 88, 89, 90, 91] (by decide +kernel) (by decide +kernel)
set_option maxRecDepth 20000 in
theorem gX5_ifDropped_X3_become : GoodIn wsX5_ifDropped (wsV RX5 184 RX3 yX3_become wsX3_become) := goodIn_app (goodIn_of _ (by decide +kernel)) ggX5_ifDropped_X3_become
set_option maxRecDepth 20000 in
theorem ggX5_ifDropped_X3_takeOut : GoodIn wsX5_ifDropped wsX3_takeOut := goodIn_r _ [24, 9, 25, 26, 27, 7, 28, 15, 20, 29, 30, 31, 88, 89, 90, 91] (by decide +kernel) (by decide +kernel)
set_option maxRecDepth 20000 in
theorem gX5_ifDropped_X3_takeOut : GoodIn wsX5_ifDropped (wsV RX5 97 RX3 yX3_takeOut wsX3_takeOut) := goodIn_app (goodIn_of _ (by decide +kernel)) ggX5_ifDropped_X3_takeOut
set_option maxRecDepth 20000 in
theorem ggX5_ifDropped_X4_judge : GoodIn wsX5_ifDropped wsX4_judge := goodIn_r _ [36, 37, 38, 39, 40, 41, 42, 43, 44, 45, 46, 47, 35, 48, 49, 50, 51, 52, 53, 54, 55, 56, 57, 58, 59, 60, 61, 62, 63, 64, 30, 65, 66, 67, 68, 69, 70, 71, 72, 88, 89, 90, 91, 92, 93, 94, 95, 96, 97, 98, 99, 100, 101, 102, 103] (by decide +kernel) (by decide +kernel)
set_option maxRecDepth 20000 in
theorem gX5_ifDropped_X4_judge : GoodIn wsX5_ifDropped (wsV RX5 65 RX4 yX4_judge wsX4_judge) := goodIn_app (goodIn_of _ (by decide +kernel)) ggX5_ifDropped_X4_judge
set_option maxRecDepth 20000 in
theorem ggX5_ifDropped_X4_answers : GoodIn wsX5_ifDropped wsX4_answers := goodIn_r _ [76, 38, 40, 92, 93, 94, 95, 96, 97, 98, 99, 100, 101, 102, 103] (by decide +kernel) (by decide +kernel)
set_option maxRecDepth 20000 in
theorem gX5_ifDropped_X4_answers : GoodIn wsX5_ifDropped (wsV RX5 134 RX4 yX4_answers wsX4_answers) := goodIn_app (goodIn_of _ (by decide +kernel)) ggX5_ifDropped_X4_answers
theorem dX5_ifDropped_0 : decode cX5_ifDropped 0 = .ok (.aload_n 0, 1) := by decide +kernel
theorem dX5_ifDropped_1 : decode cX5_ifDropped 1 = .ok (.getfield 10, 3) := by decide +kernel
theorem dX5_ifDropped_4 : decode cX5_ifDropped 4 = .ok (.iload_n 1, 1) := by decide +kernel
theorem dX5_ifDropped_5 : decode cX5_ifDropped 5 = .ok (.invokevirtual 94, 3) := by decide +kernel
theorem dX5_ifDropped_8 : decode cX5_ifDropped 8 = .ok (.ifCond .ne 5, 3) := by decide +kernel
theorem dX5_ifDropped_11 : decode cX5_ifDropped 11 = .ok (.iconst (-1), 1) := by decide +kernel
theorem dX5_ifDropped_12 : decode cX5_ifDropped 12 = .ok (.ireturn, 1) := by decide +kernel
theorem dX5_ifDropped_13 : decode cX5_ifDropped 13 = .ok (.aload_n 0, 1) := by decide +kernel
theorem dX5_ifDropped_14 : decode cX5_ifDropped 14 = .ok (.getfield 23, 3) := by decide +kernel
theorem dX5_ifDropped_17 : decode cX5_ifDropped 17 = .ok (.aload_n 0, 1) := by decide +kernel
theorem dX5_ifDropped_18 : decode cX5_ifDropped 18 = .ok (.getfield 10, 3) := by decide +kernel
theorem dX5_ifDropped_21 : decode cX5_ifDropped 21 = .ok (.invokevirtual 184, 3) := by decide +kernel
theorem dX5_ifDropped_24 : decode cX5_ifDropped 24 = .ok (.aload_n 0, 1) := by decide +kernel
theorem dX5_ifDropped_25 : decode cX5_ifDropped 25 = .ok (.getfield 23, 3) := by decide +kernel
theorem dX5_ifDropped_28 : decode cX5_ifDropped 28 = .ok (.iload_n 1, 1) := by decide +kernel
theorem dX5_ifDropped_29 : decode cX5_ifDropped 29 = .ok (.invokevirtual 97, 3) := by decide +kernel
theorem dX5_ifDropped_32 : decode cX5_ifDropped 32 = .ok (.aload_n 0, 1) := by decide +kernel
theorem dX5_ifDropped_33 : decode cX5_ifDropped 33 = .ok (.getfield 26, 3) := by decide +kernel
theorem dX5_ifDropped_36 : decode cX5_ifDropped 36 = .ok (.aload_n 0, 1) := by decide +kernel
theorem dX5_ifDropped_37 : decode cX5_ifDropped 37 = .ok (.getfield 23, 3) := by decide +kernel
theorem dX5_ifDropped_40 : decode cX5_ifDropped 40 = .ok (.invokevirtual 65, 3) := by decide +kernel
theorem dX5_ifDropped_43 : decode cX5_ifDropped 43 = .ok (.aload_n 0, 1) := by decide +kernel
theorem dX5_ifDropped_44 : decode cX5_ifDropped 44 = .ok (.getfield 26, 3) := by decide +kernel
theorem dX5_ifDropped_47 : decode cX5_ifDropped 47 = .ok (.invokevirtual 134, 3) := by decide +kernel
theorem dX5_ifDropped_50 : decode cX5_ifDropped 50 = .ok (.ireturn, 1) := by decide +kernel
set_option maxRecDepth 20000 in
theorem ggX5_ifMoved_X3_hasPlace : GoodIn wsX5_ifMoved wsX3_hasPlace := goodIn_r _ [9, 10, 93, 94, 95, 96] (by decide +kernel) (by decide +kernel)
set_option maxRecDepth 20000 in
theorem gX5_ifMoved_X3_hasPlace : GoodIn wsX5_ifMoved (wsV RX5 94 RX3 yX3_hasPlace wsX3_hasPlace) := goodIn_app (goodIn_of _ (by decide +kernel)) ggX5_ifMoved_X3_hasPlace
set_option maxRecDepth 20000 in
theorem ggX5_ifMoved_X3_become : GoodIn wsX5_ifMoved wsX3_become := goodIn_r _ [14, 15, 10, 16, 17, 18, 19, 20, 21, 93, 94, 95, 96] (by decide +kernel) (by decide +kernel)
set_option maxRecDepth 20000 in
theorem gX5_ifMoved_X3_become : GoodIn wsX5_ifMoved (wsV RX5 184 RX3 yX3_become wsX3_become) := goodIn_app (goodIn_of _ (by decide +kernel)) ggX5_ifMoved_X3_become
set_option maxRecDepth 20000 in
theorem ggX5_ifMoved_X3_carryRule : GoodIn wsX5_ifMoved wsX3_carryRule := goodIn_r _ [25, 16, 21, 26, 27, 28, 93, 94, 95, 96] (by decide +kernel) (by decide +kernel)
set_option maxRecDepth 20000 in
theorem gX5_ifMoved_X3_carryRule : GoodIn wsX5_ifMoved (wsV RX5 111 RX3 yX3_carryRule wsX3_carryRule) := goodIn_app (goodIn_of _ (by decide +kernel)) ggX5_ifMoved_X3_carryRule
set_option maxRecDepth 20000 in
theorem ggX5_ifMoved_X4_judge : GoodIn wsX5_ifMoved wsX4_judge := goodIn_r _ [33, 34, 35, 36, 37, 38, 39, 40, 41, 42, 43, 44, 32, 45, 46, 47, 48, 49, 50, 51, 52, 53, 54, 55, 56, 57, 58, 59, 60, 61, 27, 62, 63, 64, 65, 66, 67, 68, 69, 93, 94, 95, 96, 81, 82, 83, 84, 85, 86, 87, 88, 89, 90, 91, 92] (by decide +kernel) (by decide +kernel)
set_option maxRecDepth 20000 in
theorem gX5_ifMoved_X4_judge : GoodIn wsX5_ifMoved (wsV RX5 65 RX4 yX4_judge wsX4_judge) := goodIn_app (goodIn_of _ (by decide +kernel)) ggX5_ifMoved_X4_judge
theorem dX5_ifMoved_0 : decode cX5_ifMoved 0 = .ok (.aload_n 0, 1) := by decide +kernel
theorem dX5_ifMoved_1 : decode cX5_ifMoved 1 = .ok (.getfield 10, 3) := by decide +kernel
theorem dX5_ifMoved_4 : decode cX5_ifMoved 4 = .ok (.iload_n 1, 1) := by decide +kernel
theorem dX5_ifMoved_5 : decode cX5_ifMoved 5 = .ok (.invokevirtual 94, 3) := by decide +kernel
theorem dX5_ifMoved_8 : decode cX5_ifMoved 8 = .ok (.ifCond .eq 14, 3) := by decide +kernel
theorem dX5_ifMoved_11 : decode cX5_ifMoved 11 = .ok (.aload_n 0, 1) := by decide +kernel
theorem dX5_ifMoved_12 : decode cX5_ifMoved 12 = .ok (.getfield 10, 3) := by decide +kernel
theorem dX5_ifMoved_15 : decode cX5_ifMoved 15 = .ok (.iload_n 2, 1) := by decide +kernel
theorem dX5_ifMoved_16 : decode cX5_ifMoved 16 = .ok (.invokevirtual 94, 3) := by decide +kernel
theorem dX5_ifMoved_19 : decode cX5_ifMoved 19 = .ok (.ifCond .ne 5, 3) := by decide +kernel
theorem dX5_ifMoved_22 : decode cX5_ifMoved 22 = .ok (.iconst (-1), 1) := by decide +kernel
theorem dX5_ifMoved_23 : decode cX5_ifMoved 23 = .ok (.ireturn, 1) := by decide +kernel
theorem dX5_ifMoved_24 : decode cX5_ifMoved 24 = .ok (.aload_n 0, 1) := by decide +kernel
theorem dX5_ifMoved_25 : decode cX5_ifMoved 25 = .ok (.getfield 23, 3) := by decide +kernel
theorem dX5_ifMoved_28 : decode cX5_ifMoved 28 = .ok (.aload_n 0, 1) := by decide +kernel
theorem dX5_ifMoved_29 : decode cX5_ifMoved 29 = .ok (.getfield 10, 3) := by decide +kernel
theorem dX5_ifMoved_32 : decode cX5_ifMoved 32 = .ok (.invokevirtual 184, 3) := by decide +kernel
theorem dX5_ifMoved_35 : decode cX5_ifMoved 35 = .ok (.aload_n 0, 1) := by decide +kernel
theorem dX5_ifMoved_36 : decode cX5_ifMoved 36 = .ok (.getfield 23, 3) := by decide +kernel
theorem dX5_ifMoved_39 : decode cX5_ifMoved 39 = .ok (.iload_n 1, 1) := by decide +kernel
theorem dX5_ifMoved_40 : decode cX5_ifMoved 40 = .ok (.iload_n 2, 1) := by decide +kernel
theorem dX5_ifMoved_41 : decode cX5_ifMoved 41 = .ok (.invokevirtual 111, 3) := by decide +kernel
theorem dX5_ifMoved_44 : decode cX5_ifMoved 44 = .ok (.aload_n 0, 1) := by decide +kernel
theorem dX5_ifMoved_45 : decode cX5_ifMoved 45 = .ok (.getfield 26, 3) := by decide +kernel
theorem dX5_ifMoved_48 : decode cX5_ifMoved 48 = .ok (.aload_n 0, 1) := by decide +kernel
theorem dX5_ifMoved_49 : decode cX5_ifMoved 49 = .ok (.getfield 23, 3) := by decide +kernel
theorem dX5_ifMoved_52 : decode cX5_ifMoved 52 = .ok (.invokevirtual 65, 3) := by decide +kernel
theorem dX5_ifMoved_55 : decode cX5_ifMoved 55 = .ok (.aload_n 0, 1) := by decide +kernel
theorem dX5_ifMoved_56 : decode cX5_ifMoved 56 = .ok (.getfield 26, 3) := by decide +kernel
theorem dX5_ifMoved_59 : decode cX5_ifMoved 59 = .ok (.getfield 147, 3) := by decide +kernel
theorem dX5_ifMoved_62 : decode cX5_ifMoved 62 = .ok (.iconst 2, 1) := by decide +kernel
theorem dX5_ifMoved_63 : decode cX5_ifMoved 63 = .ok (.iaload, 1) := by decide +kernel
theorem dX5_ifMoved_64 : decode cX5_ifMoved 64 = .ok (.ireturn, 1) := by decide +kernel
set_option maxRecDepth 20000 in
theorem ggX5_undo_X1_giveBack : GoodIn wsX5_undo wsX1_giveBack := goodIn_r _ [9, 10, 11, 12, 13, 14, 15, 16, 17, 18, 19, 20, 21, 22, 23, 24, 78, 79, 80, 81, 82, 83] (by decide +kernel) (by decide +kernel)
set_option maxRecDepth 20000 in
theorem gX5_undo_X1_giveBack : GoodIn wsX5_undo (wsV RX5 196 RX1 yX1_giveBack wsX1_giveBack) := goodIn_app (goodIn_of _ (by decide +kernel)) ggX5_undo_X1_giveBack
set_option maxRecDepth 20000 in
theorem ggX5_undo_X4_judge : GoodIn wsX5_undo wsX4_judge := goodIn_r _ [29, 30, 31, 32, 33, 34, 35, 36, 37, 38, 39, 40, 28, 41, 42, 43, 44, 45, 46, 47, 48, 49, 50, 51, 52, 53, 54, 55, 56, 57, 58, 59, 60, 61, 62, 63, 64, 65, 66, 80, 81, 82, 83, 84, 85, 86, 87, 88, 89, 90, 91, 92, 93, 94, 95] (by decide +kernel) (by decide +kernel)
set_option maxRecDepth 20000 in
theorem gX5_undo_X4_judge : GoodIn wsX5_undo (wsV RX5 65 RX4 yX4_judge wsX4_judge) := goodIn_app (goodIn_of _ (by decide +kernel)) ggX5_undo_X4_judge
theorem dX5_undo_0 : decode cX5_undo 0 = .ok (.aload_n 0, 1) := by decide +kernel
theorem dX5_undo_1 : decode cX5_undo 1 = .ok (.getfield 53, 3) := by decide +kernel
theorem dX5_undo_4 : decode cX5_undo 4 = .ok (.getfield 153, 3) := by decide +kernel
theorem dX5_undo_7 : decode cX5_undo 7 = .ok (.ifCond .ne 6, 3) := by decide +kernel
theorem dX5_undo_10 : decode cX5_undo 10 = .ok (.bipush (-5), 2) := by decide +kernel
theorem dX5_undo_12 : decode cX5_undo 12 = .ok (.ireturn, 1) := by decide +kernel
theorem dX5_undo_13 : decode cX5_undo 13 = .ok (.aload_n 0, 1) := by decide +kernel
theorem dX5_undo_14 : decode cX5_undo 14 = .ok (.getfield 53, 3) := by decide +kernel
theorem dX5_undo_17 : decode cX5_undo 17 = .ok (.aload_n 0, 1) := by decide +kernel
theorem dX5_undo_18 : decode cX5_undo 18 = .ok (.getfield 10, 3) := by decide +kernel
theorem dX5_undo_21 : decode cX5_undo 21 = .ok (.invokevirtual 196, 3) := by decide +kernel
theorem dX5_undo_24 : decode cX5_undo 24 = .ok (.aload_n 0, 1) := by decide +kernel
theorem dX5_undo_25 : decode cX5_undo 25 = .ok (.getfield 19, 3) := by decide +kernel
theorem dX5_undo_28 : decode cX5_undo 28 = .ok (.aload_n 0, 1) := by decide +kernel
theorem dX5_undo_29 : decode cX5_undo 29 = .ok (.getfield 10, 3) := by decide +kernel
theorem dX5_undo_32 : decode cX5_undo 32 = .ok (.invokevirtual 65, 3) := by decide +kernel
theorem dX5_undo_35 : decode cX5_undo 35 = .ok (.aload_n 0, 1) := by decide +kernel
theorem dX5_undo_36 : decode cX5_undo 36 = .ok (.getfield 53, 3) := by decide +kernel
theorem dX5_undo_39 : decode cX5_undo 39 = .ok (.getfield 153, 3) := by decide +kernel
theorem dX5_undo_42 : decode cX5_undo 42 = .ok (.ireturn, 1) := by decide +kernel
set_option maxRecDepth 20000 in
theorem ggX5_isRule_X3_hasSet : GoodIn wsX5_isRule wsX3_hasSet := goodIn_r _ [6, 7, 19, 20, 21, 22] (by decide +kernel) (by decide +kernel)
set_option maxRecDepth 20000 in
theorem gX5_isRule_X3_hasSet : GoodIn wsX5_isRule (wsV RX5 157 RX3 yX3_hasSet wsX3_hasSet) := goodIn_app (goodIn_of _ (by decide +kernel)) ggX5_isRule_X3_hasSet
theorem dX5_isRule_0 : decode cX5_isRule 0 = .ok (.iload_n 1, 1) := by decide +kernel
theorem dX5_isRule_1 : decode cX5_isRule 1 = .ok (.ifCond .eq 27, 3) := by decide +kernel
theorem dX5_isRule_4 : decode cX5_isRule 4 = .ok (.aload_n 0, 1) := by decide +kernel
theorem dX5_isRule_5 : decode cX5_isRule 5 = .ok (.getfield 10, 3) := by decide +kernel
theorem dX5_isRule_8 : decode cX5_isRule 8 = .ok (.iload_n 1, 1) := by decide +kernel
theorem dX5_isRule_9 : decode cX5_isRule 9 = .ok (.invokevirtual 157, 3) := by decide +kernel
theorem dX5_isRule_12 : decode cX5_isRule 12 = .ok (.ifCond .eq 16, 3) := by decide +kernel
theorem dX5_isRule_15 : decode cX5_isRule 15 = .ok (.iload_n 2, 1) := by decide +kernel
theorem dX5_isRule_16 : decode cX5_isRule 16 = .ok (.ifCond .eq 8, 3) := by decide +kernel
theorem dX5_isRule_19 : decode cX5_isRule 19 = .ok (.iload_n 2, 1) := by decide +kernel
theorem dX5_isRule_20 : decode cX5_isRule 20 = .ok (.iconst 1, 1) := by decide +kernel
theorem dX5_isRule_21 : decode cX5_isRule 21 = .ok (.if_icmp .ne 7, 3) := by decide +kernel
theorem dX5_isRule_24 : decode cX5_isRule 24 = .ok (.iconst 1, 1) := by decide +kernel
theorem dX5_isRule_25 : decode cX5_isRule 25 = .ok (.goto 4, 3) := by decide +kernel
theorem dX5_isRule_28 : decode cX5_isRule 28 = .ok (.iconst 0, 1) := by decide +kernel
theorem dX5_isRule_29 : decode cX5_isRule 29 = .ok (.ireturn, 1) := by decide +kernel
set_option maxRecDepth 20000 in
theorem ggX5_parity_J6_bitCount_0f7a4 : GoodIn wsX5_parity wsJ6_bitCount_0f7a4 := goodIn_r _ [4, 5, 6, 7] (by decide +kernel) (by decide +kernel)
set_option maxRecDepth 20000 in
theorem gX5_parity_J6_bitCount_0f7a4 : GoodIn wsX5_parity (va_wsS RX5 163 yJ6_bitCount_0f7a4 wsJ6_bitCount_0f7a4) := goodIn_app (goodIn_of _ (by decide +kernel)) ggX5_parity_J6_bitCount_0f7a4
theorem dX5_parity_0 : decode cX5_parity 0 = .ok (.iload_n 0, 1) := by decide +kernel
theorem dX5_parity_1 : decode cX5_parity 1 = .ok (.invokestatic 163, 3) := by decide +kernel
theorem dX5_parity_4 : decode cX5_parity 4 = .ok (.iconst 1, 1) := by decide +kernel
theorem dX5_parity_5 : decode cX5_parity 5 = .ok (.iand, 1) := by decide +kernel
theorem dX5_parity_6 : decode cX5_parity 6 = .ok (.ireturn, 1) := by decide +kernel
set_option maxRecDepth 20000 in
theorem ggX5_lowestBit_J6_bitCount_0f7a4 : GoodIn wsX5_lowestBit wsJ6_bitCount_0f7a4 := goodIn_r _ [4, 5, 6, 7] (by decide +kernel) (by decide +kernel)
set_option maxRecDepth 20000 in
theorem gX5_lowestBit_J6_bitCount_0f7a4 : GoodIn wsX5_lowestBit (va_wsS RX5 163 yJ6_bitCount_0f7a4 wsJ6_bitCount_0f7a4) := goodIn_app (goodIn_of _ (by decide +kernel)) ggX5_lowestBit_J6_bitCount_0f7a4
theorem dX5_lowestBit_0 : decode cX5_lowestBit 0 = .ok (.iload_n 0, 1) := by decide +kernel
theorem dX5_lowestBit_1 : decode cX5_lowestBit 1 = .ok (.iconst (-1), 1) := by decide +kernel
theorem dX5_lowestBit_2 : decode cX5_lowestBit 2 = .ok (.ixor, 1) := by decide +kernel
theorem dX5_lowestBit_3 : decode cX5_lowestBit 3 = .ok (.iload_n 0, 1) := by decide +kernel
theorem dX5_lowestBit_4 : decode cX5_lowestBit 4 = .ok (.iconst 1, 1) := by decide +kernel
theorem dX5_lowestBit_5 : decode cX5_lowestBit 5 = .ok (.isub, 1) := by decide +kernel
theorem dX5_lowestBit_6 : decode cX5_lowestBit 6 = .ok (.iand, 1) := by decide +kernel
theorem dX5_lowestBit_7 : decode cX5_lowestBit 7 = .ok (.invokestatic 163, 3) := by decide +kernel
theorem dX5_lowestBit_10 : decode cX5_lowestBit 10 = .ok (.ireturn, 1) := by decide +kernel
theorem dX5_carry_0 : decode cX5_carry 0 = .ok (.aload_n 0, 1) := by decide +kernel
theorem dX5_carry_1 : decode cX5_carry 1 = .ok (.iload_n 1, 1) := by decide +kernel
theorem dX5_carry_2 : decode cX5_carry 2 = .ok (.iaload, 1) := by decide +kernel
theorem dX5_carry_3 : decode cX5_carry 3 = .ok (.istore_n 3, 1) := by decide +kernel
theorem dX5_carry_4 : decode cX5_carry 4 = .ok (.iload_n 1, 1) := by decide +kernel
theorem dX5_carry_5 : decode cX5_carry 5 = .ok (.istore 4, 2) := by decide +kernel
theorem dX5_carry_7 : decode cX5_carry 7 = .ok (.iload 4, 2) := by decide +kernel
theorem dX5_carry_9 : decode cX5_carry 9 = .ok (.iload_n 2, 1) := by decide +kernel
theorem dX5_carry_10 : decode cX5_carry 10 = .ok (.if_icmp .ge 19, 3) := by decide +kernel
theorem dX5_carry_13 : decode cX5_carry 13 = .ok (.aload_n 0, 1) := by decide +kernel
theorem dX5_carry_14 : decode cX5_carry 14 = .ok (.iload 4, 2) := by decide +kernel
theorem dX5_carry_16 : decode cX5_carry 16 = .ok (.aload_n 0, 1) := by decide +kernel
theorem dX5_carry_17 : decode cX5_carry 17 = .ok (.iload 4, 2) := by decide +kernel
theorem dX5_carry_19 : decode cX5_carry 19 = .ok (.iconst 1, 1) := by decide +kernel
theorem dX5_carry_20 : decode cX5_carry 20 = .ok (.iadd, 1) := by decide +kernel
theorem dX5_carry_21 : decode cX5_carry 21 = .ok (.iaload, 1) := by decide +kernel
theorem dX5_carry_22 : decode cX5_carry 22 = .ok (.iastore, 1) := by decide +kernel
theorem dX5_carry_23 : decode cX5_carry 23 = .ok (.iinc 4 1, 3) := by decide +kernel
theorem dX5_carry_26 : decode cX5_carry 26 = .ok (.goto (-19), 3) := by decide +kernel
theorem dX5_carry_29 : decode cX5_carry 29 = .ok (.iload_n 1, 1) := by decide +kernel
theorem dX5_carry_30 : decode cX5_carry 30 = .ok (.istore 4, 2) := by decide +kernel
theorem dX5_carry_32 : decode cX5_carry 32 = .ok (.iload 4, 2) := by decide +kernel
theorem dX5_carry_34 : decode cX5_carry 34 = .ok (.iload_n 2, 1) := by decide +kernel
theorem dX5_carry_35 : decode cX5_carry 35 = .ok (.if_icmp .le 19, 3) := by decide +kernel
theorem dX5_carry_38 : decode cX5_carry 38 = .ok (.aload_n 0, 1) := by decide +kernel
theorem dX5_carry_39 : decode cX5_carry 39 = .ok (.iload 4, 2) := by decide +kernel
theorem dX5_carry_41 : decode cX5_carry 41 = .ok (.aload_n 0, 1) := by decide +kernel
theorem dX5_carry_42 : decode cX5_carry 42 = .ok (.iload 4, 2) := by decide +kernel
theorem dX5_carry_44 : decode cX5_carry 44 = .ok (.iconst 1, 1) := by decide +kernel
theorem dX5_carry_45 : decode cX5_carry 45 = .ok (.isub, 1) := by decide +kernel
theorem dX5_carry_46 : decode cX5_carry 46 = .ok (.iaload, 1) := by decide +kernel
theorem dX5_carry_47 : decode cX5_carry 47 = .ok (.iastore, 1) := by decide +kernel
theorem dX5_carry_48 : decode cX5_carry 48 = .ok (.iinc 4 (-1), 3) := by decide +kernel
theorem dX5_carry_51 : decode cX5_carry 51 = .ok (.goto (-19), 3) := by decide +kernel
theorem dX5_carry_54 : decode cX5_carry 54 = .ok (.aload_n 0, 1) := by decide +kernel
theorem dX5_carry_55 : decode cX5_carry 55 = .ok (.iload_n 2, 1) := by decide +kernel
theorem dX5_carry_56 : decode cX5_carry 56 = .ok (.iload_n 3, 1) := by decide +kernel
theorem dX5_carry_57 : decode cX5_carry 57 = .ok (.iastore, 1) := by decide +kernel
theorem dX5_carry_58 : decode cX5_carry 58 = .ok (.return_, 1) := by decide +kernel
theorem dJ6_bitCount_0f7a4_0 : decode cJ6_bitCount_0f7a4 0 = .ok (.iload_n 0, 1) := by decide +kernel
theorem dJ6_bitCount_0f7a4_1 : decode cJ6_bitCount_0f7a4 1 = .ok (.iload_n 0, 1) := by decide +kernel
theorem dJ6_bitCount_0f7a4_2 : decode cJ6_bitCount_0f7a4 2 = .ok (.iconst 1, 1) := by decide +kernel
theorem dJ6_bitCount_0f7a4_3 : decode cJ6_bitCount_0f7a4 3 = .ok (.iushr, 1) := by decide +kernel
theorem dJ6_bitCount_0f7a4_4 : decode cJ6_bitCount_0f7a4 4 = .ok (.ldc_w 265, 3) := by decide +kernel
theorem dJ6_bitCount_0f7a4_7 : decode cJ6_bitCount_0f7a4 7 = .ok (.iand, 1) := by decide +kernel
theorem dJ6_bitCount_0f7a4_8 : decode cJ6_bitCount_0f7a4 8 = .ok (.isub, 1) := by decide +kernel
theorem dJ6_bitCount_0f7a4_9 : decode cJ6_bitCount_0f7a4 9 = .ok (.istore_n 0, 1) := by decide +kernel
theorem dJ6_bitCount_0f7a4_10 : decode cJ6_bitCount_0f7a4 10 = .ok (.iload_n 0, 1) := by decide +kernel
theorem dJ6_bitCount_0f7a4_11 : decode cJ6_bitCount_0f7a4 11 = .ok (.ldc_w 266, 3) := by decide +kernel
theorem dJ6_bitCount_0f7a4_14 : decode cJ6_bitCount_0f7a4 14 = .ok (.iand, 1) := by decide +kernel
theorem dJ6_bitCount_0f7a4_15 : decode cJ6_bitCount_0f7a4 15 = .ok (.iload_n 0, 1) := by decide +kernel
theorem dJ6_bitCount_0f7a4_16 : decode cJ6_bitCount_0f7a4 16 = .ok (.iconst 2, 1) := by decide +kernel
theorem dJ6_bitCount_0f7a4_17 : decode cJ6_bitCount_0f7a4 17 = .ok (.iushr, 1) := by decide +kernel
theorem dJ6_bitCount_0f7a4_18 : decode cJ6_bitCount_0f7a4 18 = .ok (.ldc_w 266, 3) := by decide +kernel
theorem dJ6_bitCount_0f7a4_21 : decode cJ6_bitCount_0f7a4 21 = .ok (.iand, 1) := by decide +kernel
theorem dJ6_bitCount_0f7a4_22 : decode cJ6_bitCount_0f7a4 22 = .ok (.iadd, 1) := by decide +kernel
theorem dJ6_bitCount_0f7a4_23 : decode cJ6_bitCount_0f7a4 23 = .ok (.istore_n 0, 1) := by decide +kernel
theorem dJ6_bitCount_0f7a4_24 : decode cJ6_bitCount_0f7a4 24 = .ok (.iload_n 0, 1) := by decide +kernel
theorem dJ6_bitCount_0f7a4_25 : decode cJ6_bitCount_0f7a4 25 = .ok (.iload_n 0, 1) := by decide +kernel
theorem dJ6_bitCount_0f7a4_26 : decode cJ6_bitCount_0f7a4 26 = .ok (.iconst 4, 1) := by decide +kernel
theorem dJ6_bitCount_0f7a4_27 : decode cJ6_bitCount_0f7a4 27 = .ok (.iushr, 1) := by decide +kernel
theorem dJ6_bitCount_0f7a4_28 : decode cJ6_bitCount_0f7a4 28 = .ok (.iadd, 1) := by decide +kernel
theorem dJ6_bitCount_0f7a4_29 : decode cJ6_bitCount_0f7a4 29 = .ok (.ldc_w 267, 3) := by decide +kernel
theorem dJ6_bitCount_0f7a4_32 : decode cJ6_bitCount_0f7a4 32 = .ok (.iand, 1) := by decide +kernel
theorem dJ6_bitCount_0f7a4_33 : decode cJ6_bitCount_0f7a4 33 = .ok (.istore_n 0, 1) := by decide +kernel
theorem dJ6_bitCount_0f7a4_34 : decode cJ6_bitCount_0f7a4 34 = .ok (.iload_n 0, 1) := by decide +kernel
theorem dJ6_bitCount_0f7a4_35 : decode cJ6_bitCount_0f7a4 35 = .ok (.iload_n 0, 1) := by decide +kernel
theorem dJ6_bitCount_0f7a4_36 : decode cJ6_bitCount_0f7a4 36 = .ok (.bipush 8, 2) := by decide +kernel
theorem dJ6_bitCount_0f7a4_38 : decode cJ6_bitCount_0f7a4 38 = .ok (.iushr, 1) := by decide +kernel
theorem dJ6_bitCount_0f7a4_39 : decode cJ6_bitCount_0f7a4 39 = .ok (.iadd, 1) := by decide +kernel
theorem dJ6_bitCount_0f7a4_40 : decode cJ6_bitCount_0f7a4 40 = .ok (.istore_n 0, 1) := by decide +kernel
theorem dJ6_bitCount_0f7a4_41 : decode cJ6_bitCount_0f7a4 41 = .ok (.iload_n 0, 1) := by decide +kernel
theorem dJ6_bitCount_0f7a4_42 : decode cJ6_bitCount_0f7a4 42 = .ok (.iload_n 0, 1) := by decide +kernel
theorem dJ6_bitCount_0f7a4_43 : decode cJ6_bitCount_0f7a4 43 = .ok (.bipush 16, 2) := by decide +kernel
theorem dJ6_bitCount_0f7a4_45 : decode cJ6_bitCount_0f7a4 45 = .ok (.iushr, 1) := by decide +kernel
theorem dJ6_bitCount_0f7a4_46 : decode cJ6_bitCount_0f7a4 46 = .ok (.iadd, 1) := by decide +kernel
theorem dJ6_bitCount_0f7a4_47 : decode cJ6_bitCount_0f7a4 47 = .ok (.istore_n 0, 1) := by decide +kernel
theorem dJ6_bitCount_0f7a4_48 : decode cJ6_bitCount_0f7a4 48 = .ok (.iload_n 0, 1) := by decide +kernel
theorem dJ6_bitCount_0f7a4_49 : decode cJ6_bitCount_0f7a4 49 = .ok (.bipush 63, 2) := by decide +kernel
theorem dJ6_bitCount_0f7a4_51 : decode cJ6_bitCount_0f7a4 51 = .ok (.iand, 1) := by decide +kernel
theorem dJ6_bitCount_0f7a4_52 : decode cJ6_bitCount_0f7a4 52 = .ok (.ireturn, 1) := by decide +kernel
theorem dL_cell_0 : decode cL_cell 0 = .ok (.iload_n 1, 1) := by decide +kernel
theorem dL_cell_1 : decode cL_cell 1 = .ok (.aload_n 0, 1) := by decide +kernel
theorem dL_cell_2 : decode cL_cell 2 = .ok (.arraylength, 1) := by decide +kernel
theorem dL_cell_3 : decode cL_cell 3 = .ok (.if_icmp .ge 9, 3) := by decide +kernel
theorem dL_cell_6 : decode cL_cell 6 = .ok (.aload_n 0, 1) := by decide +kernel
theorem dL_cell_7 : decode cL_cell 7 = .ok (.iload_n 1, 1) := by decide +kernel
theorem dL_cell_8 : decode cL_cell 8 = .ok (.iaload, 1) := by decide +kernel
theorem dL_cell_9 : decode cL_cell 9 = .ok (.goto 11, 3) := by decide +kernel
theorem dL_cell_12 : decode cL_cell 12 = .ok (.ldc 7, 2) := by decide +kernel
theorem dL_cell_14 : decode cL_cell 14 = .ok (.iload_n 1, 1) := by decide +kernel
theorem dL_cell_15 : decode cL_cell 15 = .ok (.sipush 853, 3) := by decide +kernel
theorem dL_cell_18 : decode cL_cell 18 = .ok (.iadd, 1) := by decide +kernel
theorem dL_cell_19 : decode cL_cell 19 = .ok (.imul, 1) := by decide +kernel
theorem dL_cell_20 : decode cL_cell 20 = .ok (.ireturn, 1) := by decide +kernel
theorem dL_up_0 : decode cL_up 0 = .ok (.iload_n 0, 1) := by decide +kernel
theorem dL_up_1 : decode cL_up 1 = .ok (.ldc 8, 2) := by decide +kernel
theorem dL_up_3 : decode cL_up 3 = .ok (.iand, 1) := by decide +kernel
theorem dL_up_4 : decode cL_up 4 = .ok (.iload_n 1, 1) := by decide +kernel
theorem dL_up_5 : decode cL_up 5 = .ok (.irem, 1) := by decide +kernel
theorem dL_up_6 : decode cL_up 6 = .ok (.ireturn, 1) := by decide +kernel
theorem dL_odd_0 : decode cL_odd 0 = .ok (.iconst 0, 1) := by decide +kernel
theorem dL_odd_1 : decode cL_odd 1 = .ok (.istore_n 1, 1) := by decide +kernel
theorem dL_odd_2 : decode cL_odd 2 = .ok (.iconst 0, 1) := by decide +kernel
theorem dL_odd_3 : decode cL_odd 3 = .ok (.istore_n 2, 1) := by decide +kernel
theorem dL_odd_4 : decode cL_odd 4 = .ok (.iload_n 2, 1) := by decide +kernel
theorem dL_odd_5 : decode cL_odd 5 = .ok (.bipush 12, 2) := by decide +kernel
theorem dL_odd_7 : decode cL_odd 7 = .ok (.if_icmp .ge 17, 3) := by decide +kernel
theorem dL_odd_10 : decode cL_odd 10 = .ok (.iload_n 1, 1) := by decide +kernel
theorem dL_odd_11 : decode cL_odd 11 = .ok (.iload_n 0, 1) := by decide +kernel
theorem dL_odd_12 : decode cL_odd 12 = .ok (.iload_n 2, 1) := by decide +kernel
theorem dL_odd_13 : decode cL_odd 13 = .ok (.ishr, 1) := by decide +kernel
theorem dL_odd_14 : decode cL_odd 14 = .ok (.iconst 1, 1) := by decide +kernel
theorem dL_odd_15 : decode cL_odd 15 = .ok (.iand, 1) := by decide +kernel
theorem dL_odd_16 : decode cL_odd 16 = .ok (.ixor, 1) := by decide +kernel
theorem dL_odd_17 : decode cL_odd 17 = .ok (.istore_n 1, 1) := by decide +kernel
theorem dL_odd_18 : decode cL_odd 18 = .ok (.iinc 2 1, 3) := by decide +kernel
theorem dL_odd_21 : decode cL_odd 21 = .ok (.goto (-17), 3) := by decide +kernel
theorem dL_odd_24 : decode cL_odd 24 = .ok (.iload_n 1, 1) := by decide +kernel
theorem dL_odd_25 : decode cL_odd 25 = .ok (.ireturn, 1) := by decide +kernel
theorem dL_bits_0 : decode cL_bits 0 = .ok (.iconst 0, 1) := by decide +kernel
theorem dL_bits_1 : decode cL_bits 1 = .ok (.istore_n 1, 1) := by decide +kernel
theorem dL_bits_2 : decode cL_bits 2 = .ok (.iconst 0, 1) := by decide +kernel
theorem dL_bits_3 : decode cL_bits 3 = .ok (.istore_n 2, 1) := by decide +kernel
theorem dL_bits_4 : decode cL_bits 4 = .ok (.iload_n 2, 1) := by decide +kernel
theorem dL_bits_5 : decode cL_bits 5 = .ok (.bipush 12, 2) := by decide +kernel
theorem dL_bits_7 : decode cL_bits 7 = .ok (.if_icmp .ge 17, 3) := by decide +kernel
theorem dL_bits_10 : decode cL_bits 10 = .ok (.iload_n 1, 1) := by decide +kernel
theorem dL_bits_11 : decode cL_bits 11 = .ok (.iload_n 0, 1) := by decide +kernel
theorem dL_bits_12 : decode cL_bits 12 = .ok (.iload_n 2, 1) := by decide +kernel
theorem dL_bits_13 : decode cL_bits 13 = .ok (.ishr, 1) := by decide +kernel
theorem dL_bits_14 : decode cL_bits 14 = .ok (.iconst 1, 1) := by decide +kernel
theorem dL_bits_15 : decode cL_bits 15 = .ok (.iand, 1) := by decide +kernel
theorem dL_bits_16 : decode cL_bits 16 = .ok (.iadd, 1) := by decide +kernel
theorem dL_bits_17 : decode cL_bits 17 = .ok (.istore_n 1, 1) := by decide +kernel
theorem dL_bits_18 : decode cL_bits 18 = .ok (.iinc 2 1, 3) := by decide +kernel
theorem dL_bits_21 : decode cL_bits 21 = .ok (.goto (-17), 3) := by decide +kernel
theorem dL_bits_24 : decode cL_bits 24 = .ok (.iload_n 1, 1) := by decide +kernel
theorem dL_bits_25 : decode cL_bits 25 = .ok (.ireturn, 1) := by decide +kernel
theorem dL_there_0 : decode cL_there 0 = .ok (.iload_n 0, 1) := by decide +kernel
theorem dL_there_1 : decode cL_there 1 = .ok (.iload_n 2, 1) := by decide +kernel
theorem dL_there_2 : decode cL_there 2 = .ok (.ishl, 1) := by decide +kernel
theorem dL_there_3 : decode cL_there 3 = .ok (.iload_n 0, 1) := by decide +kernel
theorem dL_there_4 : decode cL_there 4 = .ok (.iload_n 1, 1) := by decide +kernel
theorem dL_there_5 : decode cL_there 5 = .ok (.iload_n 2, 1) := by decide +kernel
theorem dL_there_6 : decode cL_there 6 = .ok (.isub, 1) := by decide +kernel
theorem dL_there_7 : decode cL_there 7 = .ok (.ishr, 1) := by decide +kernel
theorem dL_there_8 : decode cL_there 8 = .ok (.ior, 1) := by decide +kernel
theorem dL_there_9 : decode cL_there 9 = .ok (.iconst 1, 1) := by decide +kernel
theorem dL_there_10 : decode cL_there 10 = .ok (.iload_n 1, 1) := by decide +kernel
theorem dL_there_11 : decode cL_there 11 = .ok (.ishl, 1) := by decide +kernel
theorem dL_there_12 : decode cL_there 12 = .ok (.iconst 1, 1) := by decide +kernel
theorem dL_there_13 : decode cL_there 13 = .ok (.isub, 1) := by decide +kernel
theorem dL_there_14 : decode cL_there 14 = .ok (.iand, 1) := by decide +kernel
theorem dL_there_15 : decode cL_there 15 = .ok (.ireturn, 1) := by decide +kernel
set_option maxRecDepth 20000 in
theorem ggL_isStep_X5_count : GoodIn wsL_isStep wsX5_count := goodIn_r _ [5, 6, 7, 8, 9, 10, 11, 12, 13, 14, 15, 16, 17, 18, 19, 20, 21, 22, 23, 24, 25, 26, 27, 28, 29, 30, 31, 32, 33, 34, 35, 36, 37, 38, 39, 179, 180, 181, 182, 183, 184, 185, 186, 187, 188, 189, 190, 191, 192, 193, 194, 195, 196, 197, 198, 199, 200, 201, 202, 203, 204, 205, 206, 207, 208, 209, 210, 211, 212, 213] (by decide +kernel) (by decide +kernel)
set_option maxRecDepth 20000 in
theorem gL_isStep_X5_count : GoodIn wsL_isStep (wsV RL 9 RX5 yX5_count wsX5_count) := goodIn_app (goodIn_of _ (by decide +kernel)) ggL_isStep_X5_count
set_option maxRecDepth 20000 in
theorem ggL_isStep_L_up : GoodIn wsL_isStep wsL_up := goodIn_r _ [43, 44] (by decide +kernel) (by decide +kernel)
set_option maxRecDepth 20000 in
theorem gL_isStep_L_up : GoodIn wsL_isStep (va_wsS RL 15 yL_up wsL_up) := goodIn_app (goodIn_of _ (by decide +kernel)) ggL_isStep_L_up
set_option maxRecDepth 20000 in
theorem ggL_isStep_L_bits : GoodIn wsL_isStep wsL_bits := goodIn_r _ [47] (by decide +kernel) (by decide +kernel)
set_option maxRecDepth 20000 in
theorem gL_isStep_L_bits : GoodIn wsL_isStep (va_wsS RL 21 yL_bits wsL_bits) := goodIn_app (goodIn_of _ (by decide +kernel)) ggL_isStep_L_bits
set_option maxRecDepth 20000 in
theorem ggL_isStep_X5_tell : GoodIn wsL_isStep wsX5_tell := goodIn_r _ [51, 6, 7, 13, 8, 52, 53, 54, 55, 4, 56, 57, 58, 59, 60, 61, 62, 63, 64, 65, 66, 67, 68, 69, 70, 71, 72, 73, 74, 75, 76, 77, 78, 79, 80, 81, 82, 83, 84, 85, 86, 87, 88, 89, 90, 91, 18, 92, 93, 20, 94, 21, 37, 95, 96, 97, 98, 99, 100, 101, 30, 38, 31, 39, 36, 102, 103, 104, 105, 106, 107, 32, 33, 34, 35, 108, 109, 110, 111, 112, 113, 114, 115, 116, 179, 180, 181, 182, 183, 184, 185, 186, 187, 188, 189, 190, 191, 192, 193, 194, 195, 196, 197, 198, 199, 200, 201, 202, 203, 204, 205, 212, 213] (by decide +kernel) (by decide +kernel)
set_option maxRecDepth 20000 in
theorem gL_isStep_X5_tell : GoodIn wsL_isStep (wsV RL 24 RX5 yX5_tell wsX5_tell) := goodIn_app (goodIn_of _ (by decide +kernel)) ggL_isStep_X5_tell
set_option maxRecDepth 20000 in
theorem ggL_isStep_L_there : GoodIn wsL_isStep wsL_there := goodIn_r _ [119] (by decide +kernel) (by decide +kernel)
set_option maxRecDepth 20000 in
theorem gL_isStep_L_there : GoodIn wsL_isStep (va_wsS RL 27 yL_there wsL_there) := goodIn_app (goodIn_of _ (by decide +kernel)) ggL_isStep_L_there
set_option maxRecDepth 20000 in
theorem ggL_isStep_L_odd : GoodIn wsL_isStep wsL_odd := goodIn_r _ [122] (by decide +kernel) (by decide +kernel)
set_option maxRecDepth 20000 in
theorem gL_isStep_L_odd : GoodIn wsL_isStep (va_wsS RL 31 yL_odd wsL_odd) := goodIn_app (goodIn_of _ (by decide +kernel)) ggL_isStep_L_odd
set_option maxRecDepth 20000 in
theorem ggL_isStep_X5_drop : GoodIn wsL_isStep wsX5_drop := goodIn_r _ [126, 6, 13, 8, 7, 127, 128, 129, 60, 130, 78, 63, 64, 65, 66, 67, 68, 69, 70, 71, 72, 73, 74, 75, 76, 77, 62, 79, 80, 81, 82, 83, 84, 131, 132, 133, 134, 135, 136, 137, 138, 139, 4, 140, 89, 90, 91, 18, 92, 93, 20, 94, 21, 37, 95, 96, 97, 98, 99, 100, 101, 30, 38, 31, 39, 36, 102, 103, 104, 105, 106, 107, 32, 33, 34, 35, 108, 109, 110, 111, 112, 113, 114, 115, 116, 179, 180, 181, 182, 183, 184, 185, 186, 187, 188, 189, 190, 191, 192, 193, 212, 213, 194, 195, 196, 197, 198, 199, 200, 201, 202, 203, 204, 205] (by decide +kernel) (by decide +kernel)
set_option maxRecDepth 20000 in
theorem gL_isStep_X5_drop : GoodIn wsL_isStep (wsV RL 34 RX5 yX5_drop wsX5_drop) := goodIn_app (goodIn_of _ (by decide +kernel)) ggL_isStep_X5_drop
set_option maxRecDepth 20000 in
theorem ggL_isStep_X5_ifMoved : GoodIn wsL_isStep wsX5_ifMoved := goodIn_r _ [144, 6, 145, 146, 9, 127, 128, 129, 60, 130, 78, 147, 75, 76, 77, 62, 79, 80, 81, 82, 83, 84, 148, 136, 137, 138, 139, 4, 140, 89, 90, 91, 18, 92, 93, 20, 94, 21, 37, 95, 96, 97, 98, 99, 100, 101, 30, 38, 31, 39, 36, 102, 103, 104, 105, 106, 107, 32, 33, 34, 35, 108, 109, 110, 111, 112, 113, 114, 115, 116, 179, 180, 181, 182, 183, 184, 185, 186, 187, 188, 189, 194, 195, 196, 197, 198, 199, 200, 201, 202, 203, 204, 205, 190, 191, 192, 193] (by decide +kernel) (by decide +kernel)
set_option maxRecDepth 20000 in
theorem gL_isStep_X5_ifMoved : GoodIn wsL_isStep (wsV RL 37 RX5 yX5_ifMoved wsX5_ifMoved) := goodIn_app (goodIn_of _ (by decide +kernel)) ggL_isStep_X5_ifMoved
set_option maxRecDepth 20000 in
theorem ggL_isStep_X5_move : GoodIn wsL_isStep wsX5_move := goodIn_r _ [152, 6, 13, 8, 52, 153, 154, 81, 82, 83, 7, 127, 128, 129, 60, 130, 78, 63, 64, 65, 66, 67, 68, 69, 70, 71, 72, 73, 74, 75, 76, 77, 62, 79, 80, 84, 155, 139, 4, 140, 148, 136, 137, 138, 89, 90, 91, 18, 92, 93, 20, 94, 21, 37, 95, 96, 97, 98, 99, 100, 101, 30, 38, 31, 39, 36, 102, 103, 104, 105, 106, 107, 32, 33, 34, 35, 108, 109, 110, 111, 112, 113, 114, 115, 116, 179, 180, 181, 182, 183, 184, 185, 186, 187, 188, 189, 194, 195, 196, 197, 198, 199, 200, 201, 202, 203, 204, 205, 190, 191, 192, 193, 212, 213] (by decide +kernel) (by decide +kernel)
set_option maxRecDepth 20000 in
theorem gL_isStep_X5_move : GoodIn wsL_isStep (wsV RL 40 RX5 yX5_move wsX5_move) := goodIn_app (goodIn_of _ (by decide +kernel)) ggL_isStep_X5_move
set_option maxRecDepth 20000 in
theorem ggL_isStep_X5_rule : GoodIn wsL_isStep wsX5_rule := goodIn_r _ [159, 6, 8, 52, 160, 161, 162, 127, 128, 129, 60, 130, 78, 163, 164, 165, 18, 166, 94, 103, 15, 16, 17, 19, 20, 21, 179, 180, 181, 182, 183, 184, 185, 186, 187, 188, 189, 194, 195, 196, 197, 198, 199, 200, 201, 202, 203, 204, 205, 190, 191, 192, 193] (by decide +kernel) (by decide +kernel)
set_option maxRecDepth 20000 in
theorem gL_isStep_X5_rule : GoodIn wsL_isStep (wsV RL 43 RX5 yX5_rule wsX5_rule) := goodIn_app (goodIn_of _ (by decide +kernel)) ggL_isStep_X5_rule
set_option maxRecDepth 20000 in
theorem ggL_isStep_X5_turn : GoodIn wsL_isStep wsX5_turn := goodIn_r _ [170, 6, 13, 161, 8, 52, 127, 128, 129, 60, 130, 78, 63, 64, 65, 66, 67, 68, 69, 70, 71, 72, 73, 74, 75, 76, 77, 62, 79, 80, 81, 82, 83, 84, 89, 90, 91, 18, 92, 93, 20, 94, 21, 37, 95, 96, 97, 98, 99, 100, 101, 30, 38, 31, 39, 36, 102, 103, 104, 105, 106, 107, 32, 33, 34, 35, 108, 4, 109, 110, 111, 112, 113, 114, 115, 116, 179, 180, 181, 182, 183, 184, 185, 186, 187, 188, 189, 190, 191, 192, 193, 194, 195, 196, 197, 198, 199, 200, 201, 202, 203, 204, 205, 212, 213] (by decide +kernel) (by decide +kernel)
set_option maxRecDepth 20000 in
theorem gL_isStep_X5_turn : GoodIn wsL_isStep (wsV RL 46 RX5 yX5_turn wsX5_turn) := goodIn_app (goodIn_of _ (by decide +kernel)) ggL_isStep_X5_turn
set_option maxRecDepth 20000 in
theorem ggL_isStep_X5_undo : GoodIn wsL_isStep wsX5_undo := goodIn_r _ [174, 13, 14, 6, 8, 175, 176, 177, 66, 178, 68, 69, 74, 75, 76, 60, 77, 62, 78, 79, 80, 81, 82, 83, 84, 89, 90, 91, 18, 92, 93, 20, 94, 21, 37, 95, 96, 97, 98, 99, 100, 101, 30, 38, 31, 39, 36, 102, 103, 104, 105, 106, 107, 32, 33, 34, 35, 108, 4, 109, 110, 111, 112, 113, 114, 115, 116, 179, 180, 181, 182, 183, 184, 185, 186, 187, 188, 189, 212, 213, 190, 191, 192, 193, 194, 195, 196, 197, 198, 199, 200, 201, 202, 203, 204, 205] (by decide +kernel) (by decide +kernel)
set_option maxRecDepth 20000 in
theorem gL_isStep_X5_undo : GoodIn wsL_isStep (wsV RL 49 RX5 yX5_undo wsX5_undo) := goodIn_app (goodIn_of _ (by decide +kernel)) ggL_isStep_X5_undo
theorem dL_isStep_0 : decode cL_isStep 0 = .ok (.iload 5, 2) := by decide +kernel
theorem dL_isStep_2 : decode cL_isStep 2 = .ok (.iconst 4, 1) := by decide +kernel
theorem dL_isStep_3 : decode cL_isStep 3 = .ok (.ishr, 1) := by decide +kernel
theorem dL_isStep_4 : decode cL_isStep 4 = .ok (.istore 6, 2) := by decide +kernel
theorem dL_isStep_6 : decode cL_isStep 6 = .ok (.aload_n 0, 1) := by decide +kernel
theorem dL_isStep_7 : decode cL_isStep 7 = .ok (.iconst 0, 1) := by decide +kernel
theorem dL_isStep_8 : decode cL_isStep 8 = .ok (.invokevirtual 9, 3) := by decide +kernel
theorem dL_isStep_11 : decode cL_isStep 11 = .ok (.istore 7, 2) := by decide +kernel
theorem dL_isStep_13 : decode cL_isStep 13 = .ok (.iload 5, 2) := by decide +kernel
theorem dL_isStep_15 : decode cL_isStep 15 = .ok (.bipush 14, 2) := by decide +kernel
theorem dL_isStep_17 : decode cL_isStep 17 = .ok (.invokestatic 15, 3) := by decide +kernel
theorem dL_isStep_20 : decode cL_isStep 20 = .ok (.istore 8, 2) := by decide +kernel
theorem dL_isStep_22 : decode cL_isStep 22 = .ok (.iload 8, 2) := by decide +kernel
theorem dL_isStep_24 : decode cL_isStep 24 = .ok (.bipush 7, 2) := by decide +kernel
theorem dL_isStep_26 : decode cL_isStep 26 = .ok (.if_icmp .ge 102, 3) := by decide +kernel
theorem dL_isStep_29 : decode cL_isStep 29 = .ok (.iconst 1, 1) := by decide +kernel
theorem dL_isStep_30 : decode cL_isStep 30 = .ok (.iload 6, 2) := by decide +kernel
theorem dL_isStep_32 : decode cL_isStep 32 = .ok (.iconst 1, 1) := by decide +kernel
theorem dL_isStep_33 : decode cL_isStep 33 = .ok (.iload_n 2, 1) := by decide +kernel
theorem dL_isStep_34 : decode cL_isStep 34 = .ok (.ishl, 1) := by decide +kernel
theorem dL_isStep_35 : decode cL_isStep 35 = .ok (.iconst 1, 1) := by decide +kernel
theorem dL_isStep_36 : decode cL_isStep 36 = .ok (.isub, 1) := by decide +kernel
theorem dL_isStep_37 : decode cL_isStep 37 = .ok (.invokestatic 15, 3) := by decide +kernel
theorem dL_isStep_40 : decode cL_isStep 40 = .ok (.iadd, 1) := by decide +kernel
theorem dL_isStep_41 : decode cL_isStep 41 = .ok (.istore 9, 2) := by decide +kernel
theorem dL_isStep_43 : decode cL_isStep 43 = .ok (.iload 6, 2) := by decide +kernel
theorem dL_isStep_45 : decode cL_isStep 45 = .ok (.bipush 13, 2) := by decide +kernel
theorem dL_isStep_47 : decode cL_isStep 47 = .ok (.ishr, 1) := by decide +kernel
theorem dL_isStep_48 : decode cL_isStep 48 = .ok (.iconst 3, 1) := by decide +kernel
theorem dL_isStep_49 : decode cL_isStep 49 = .ok (.invokestatic 15, 3) := by decide +kernel
theorem dL_isStep_52 : decode cL_isStep 52 = .ok (.ifCond .eq 12, 3) := by decide +kernel
theorem dL_isStep_55 : decode cL_isStep 55 = .ok (.iload 9, 2) := by decide +kernel
theorem dL_isStep_57 : decode cL_isStep 57 = .ok (.invokestatic 21, 3) := by decide +kernel
theorem dL_isStep_60 : decode cL_isStep 60 = .ok (.iconst 3, 1) := by decide +kernel
theorem dL_isStep_61 : decode cL_isStep 61 = .ok (.if_icmp .ge 8, 3) := by decide +kernel
theorem dL_isStep_64 : decode cL_isStep 64 = .ok (.iload 9, 2) := by decide +kernel
theorem dL_isStep_66 : decode cL_isStep 66 = .ok (.goto 10, 3) := by decide +kernel
theorem dL_isStep_69 : decode cL_isStep 69 = .ok (.iload 9, 2) := by decide +kernel
theorem dL_isStep_71 : decode cL_isStep 71 = .ok (.iload 9, 2) := by decide +kernel
theorem dL_isStep_73 : decode cL_isStep 73 = .ok (.iconst 1, 1) := by decide +kernel
theorem dL_isStep_74 : decode cL_isStep 74 = .ok (.isub, 1) := by decide +kernel
theorem dL_isStep_75 : decode cL_isStep 75 = .ok (.iand, 1) := by decide +kernel
theorem dL_isStep_76 : decode cL_isStep 76 = .ok (.istore 9, 2) := by decide +kernel
theorem dL_isStep_78 : decode cL_isStep 78 = .ok (.iload 6, 2) := by decide +kernel
theorem dL_isStep_80 : decode cL_isStep 80 = .ok (.bipush 15, 2) := by decide +kernel
theorem dL_isStep_82 : decode cL_isStep 82 = .ok (.ishr, 1) := by decide +kernel
theorem dL_isStep_83 : decode cL_isStep 83 = .ok (.iconst 2, 1) := by decide +kernel
theorem dL_isStep_84 : decode cL_isStep 84 = .ok (.invokestatic 15, 3) := by decide +kernel
theorem dL_isStep_87 : decode cL_isStep 87 = .ok (.istore 10, 2) := by decide +kernel
theorem dL_isStep_89 : decode cL_isStep 89 = .ok (.aload_n 0, 1) := by decide +kernel
theorem dL_isStep_90 : decode cL_isStep 90 = .ok (.iload 9, 2) := by decide +kernel
theorem dL_isStep_92 : decode cL_isStep 92 = .ok (.iload 10, 2) := by decide +kernel
theorem dL_isStep_94 : decode cL_isStep 94 = .ok (.invokevirtual 24, 3) := by decide +kernel
theorem dL_isStep_97 : decode cL_isStep 97 = .ok (.aload_n 1, 1) := by decide +kernel
theorem dL_isStep_98 : decode cL_isStep 98 = .ok (.iload 9, 2) := by decide +kernel
theorem dL_isStep_100 : decode cL_isStep 100 = .ok (.iload_n 2, 1) := by decide +kernel
theorem dL_isStep_101 : decode cL_isStep 101 = .ok (.iload_n 3, 1) := by decide +kernel
theorem dL_isStep_102 : decode cL_isStep 102 = .ok (.invokestatic 27, 3) := by decide +kernel
theorem dL_isStep_105 : decode cL_isStep 105 = .ok (.iload 10, 2) := by decide +kernel
theorem dL_isStep_107 : decode cL_isStep 107 = .ok (.iload 9, 2) := by decide +kernel
theorem dL_isStep_109 : decode cL_isStep 109 = .ok (.iload 4, 2) := by decide +kernel
theorem dL_isStep_111 : decode cL_isStep 111 = .ok (.iand, 1) := by decide +kernel
theorem dL_isStep_112 : decode cL_isStep 112 = .ok (.invokestatic 31, 3) := by decide +kernel
theorem dL_isStep_115 : decode cL_isStep 115 = .ok (.ixor, 1) := by decide +kernel
theorem dL_isStep_116 : decode cL_isStep 116 = .ok (.invokevirtual 24, 3) := by decide +kernel
theorem dL_isStep_119 : decode cL_isStep 119 = .ok (.if_icmp .ne 7, 3) := by decide +kernel
theorem dL_isStep_122 : decode cL_isStep 122 = .ok (.iconst 1, 1) := by decide +kernel
theorem dL_isStep_123 : decode cL_isStep 123 = .ok (.goto 4, 3) := by decide +kernel
theorem dL_isStep_126 : decode cL_isStep 126 = .ok (.iconst 0, 1) := by decide +kernel
theorem dL_isStep_127 : decode cL_isStep 127 = .ok (.ireturn, 1) := by decide +kernel
theorem dL_isStep_128 : decode cL_isStep 128 = .ok (.iload 6, 2) := by decide +kernel
theorem dL_isStep_130 : decode cL_isStep 130 = .ok (.iload 7, 2) := by decide +kernel
theorem dL_isStep_132 : decode cL_isStep 132 = .ok (.iconst 1, 1) := by decide +kernel
theorem dL_isStep_133 : decode cL_isStep 133 = .ok (.iadd, 1) := by decide +kernel
theorem dL_isStep_134 : decode cL_isStep 134 = .ok (.invokestatic 15, 3) := by decide +kernel
theorem dL_isStep_137 : decode cL_isStep 137 = .ok (.istore 9, 2) := by decide +kernel
theorem dL_isStep_139 : decode cL_isStep 139 = .ok (.iload 6, 2) := by decide +kernel
theorem dL_isStep_141 : decode cL_isStep 141 = .ok (.iconst 5, 1) := by decide +kernel
theorem dL_isStep_142 : decode cL_isStep 142 = .ok (.ishr, 1) := by decide +kernel
theorem dL_isStep_143 : decode cL_isStep 143 = .ok (.iload 7, 2) := by decide +kernel
theorem dL_isStep_145 : decode cL_isStep 145 = .ok (.iconst 1, 1) := by decide +kernel
theorem dL_isStep_146 : decode cL_isStep 146 = .ok (.iadd, 1) := by decide +kernel
theorem dL_isStep_147 : decode cL_isStep 147 = .ok (.invokestatic 15, 3) := by decide +kernel
theorem dL_isStep_150 : decode cL_isStep 150 = .ok (.istore 10, 2) := by decide +kernel
theorem dL_isStep_152 : decode cL_isStep 152 = .ok (.iload 8, 2) := by decide +kernel
theorem dL_isStep_154 : decode cL_isStep 154 = .ok (.bipush 9, 2) := by decide +kernel
theorem dL_isStep_156 : decode cL_isStep 156 = .ok (.if_icmp .ge 24, 3) := by decide +kernel
theorem dL_isStep_159 : decode cL_isStep 159 = .ok (.aload_n 0, 1) := by decide +kernel
theorem dL_isStep_160 : decode cL_isStep 160 = .ok (.iload 9, 2) := by decide +kernel
theorem dL_isStep_162 : decode cL_isStep 162 = .ok (.invokevirtual 34, 3) := by decide +kernel
theorem dL_isStep_165 : decode cL_isStep 165 = .ok (.aload_n 1, 1) := by decide +kernel
theorem dL_isStep_166 : decode cL_isStep 166 = .ok (.iload 9, 2) := by decide +kernel
theorem dL_isStep_168 : decode cL_isStep 168 = .ok (.invokevirtual 34, 3) := by decide +kernel
theorem dL_isStep_171 : decode cL_isStep 171 = .ok (.if_icmp .ne 7, 3) := by decide +kernel
theorem dL_isStep_174 : decode cL_isStep 174 = .ok (.iconst 1, 1) := by decide +kernel
theorem dL_isStep_175 : decode cL_isStep 175 = .ok (.goto 4, 3) := by decide +kernel
theorem dL_isStep_178 : decode cL_isStep 178 = .ok (.iconst 0, 1) := by decide +kernel
theorem dL_isStep_179 : decode cL_isStep 179 = .ok (.ireturn, 1) := by decide +kernel
theorem dL_isStep_180 : decode cL_isStep 180 = .ok (.iload 8, 2) := by decide +kernel
theorem dL_isStep_182 : decode cL_isStep 182 = .ok (.bipush 12, 2) := by decide +kernel
theorem dL_isStep_184 : decode cL_isStep 184 = .ok (.if_icmp .ge 67, 3) := by decide +kernel
theorem dL_isStep_187 : decode cL_isStep 187 = .ok (.aload_n 0, 1) := by decide +kernel
theorem dL_isStep_188 : decode cL_isStep 188 = .ok (.iload 9, 2) := by decide +kernel
theorem dL_isStep_190 : decode cL_isStep 190 = .ok (.iload 10, 2) := by decide +kernel
theorem dL_isStep_192 : decode cL_isStep 192 = .ok (.invokevirtual 37, 3) := by decide +kernel
theorem dL_isStep_195 : decode cL_isStep 195 = .ok (.istore 11, 2) := by decide +kernel
theorem dL_isStep_197 : decode cL_isStep 197 = .ok (.aload_n 0, 1) := by decide +kernel
theorem dL_isStep_198 : decode cL_isStep 198 = .ok (.iload 9, 2) := by decide +kernel
theorem dL_isStep_200 : decode cL_isStep 200 = .ok (.iload 10, 2) := by decide +kernel
theorem dL_isStep_202 : decode cL_isStep 202 = .ok (.invokevirtual 40, 3) := by decide +kernel
theorem dL_isStep_205 : decode cL_isStep 205 = .ok (.istore 12, 2) := by decide +kernel
theorem dL_isStep_207 : decode cL_isStep 207 = .ok (.iload 12, 2) := by decide +kernel
theorem dL_isStep_209 : decode cL_isStep 209 = .ok (.aload_n 1, 1) := by decide +kernel
theorem dL_isStep_210 : decode cL_isStep 210 = .ok (.iload 9, 2) := by decide +kernel
theorem dL_isStep_212 : decode cL_isStep 212 = .ok (.iload 10, 2) := by decide +kernel
theorem dL_isStep_214 : decode cL_isStep 214 = .ok (.invokevirtual 40, 3) := by decide +kernel
theorem dL_isStep_217 : decode cL_isStep 217 = .ok (.if_icmp .ne 32, 3) := by decide +kernel
theorem dL_isStep_220 : decode cL_isStep 220 = .ok (.iload 12, 2) := by decide +kernel
theorem dL_isStep_222 : decode cL_isStep 222 = .ok (.ifCond .ge 13, 3) := by decide +kernel
theorem dL_isStep_225 : decode cL_isStep 225 = .ok (.iload 11, 2) := by decide +kernel
theorem dL_isStep_227 : decode cL_isStep 227 = .ok (.iload 12, 2) := by decide +kernel
theorem dL_isStep_229 : decode cL_isStep 229 = .ok (.if_icmp .ne 20, 3) := by decide +kernel
theorem dL_isStep_232 : decode cL_isStep 232 = .ok (.goto 13, 3) := by decide +kernel
theorem dL_isStep_235 : decode cL_isStep 235 = .ok (.aload_n 0, 1) := by decide +kernel
theorem dL_isStep_236 : decode cL_isStep 236 = .ok (.iconst 3, 1) := by decide +kernel
theorem dL_isStep_237 : decode cL_isStep 237 = .ok (.invokevirtual 9, 3) := by decide +kernel
theorem dL_isStep_240 : decode cL_isStep 240 = .ok (.iload 11, 2) := by decide +kernel
theorem dL_isStep_242 : decode cL_isStep 242 = .ok (.if_icmp .ne 7, 3) := by decide +kernel
theorem dL_isStep_245 : decode cL_isStep 245 = .ok (.iconst 1, 1) := by decide +kernel
theorem dL_isStep_246 : decode cL_isStep 246 = .ok (.goto 4, 3) := by decide +kernel
theorem dL_isStep_249 : decode cL_isStep 249 = .ok (.iconst 0, 1) := by decide +kernel
theorem dL_isStep_250 : decode cL_isStep 250 = .ok (.ireturn, 1) := by decide +kernel
theorem dL_isStep_251 : decode cL_isStep 251 = .ok (.iload 8, 2) := by decide +kernel
theorem dL_isStep_253 : decode cL_isStep 253 = .ok (.bipush 13, 2) := by decide +kernel
theorem dL_isStep_255 : decode cL_isStep 255 = .ok (.if_icmp .ge 86, 3) := by decide +kernel
theorem dL_isStep_258 : decode cL_isStep 258 = .ok (.iload 9, 2) := by decide +kernel
theorem dL_isStep_260 : decode cL_isStep 260 = .ok (.iload 7, 2) := by decide +kernel
theorem dL_isStep_262 : decode cL_isStep 262 = .ok (.if_icmp .ge 13, 3) := by decide +kernel
theorem dL_isStep_265 : decode cL_isStep 265 = .ok (.aload_n 0, 1) := by decide +kernel
theorem dL_isStep_266 : decode cL_isStep 266 = .ok (.iload 9, 2) := by decide +kernel
theorem dL_isStep_268 : decode cL_isStep 268 = .ok (.iconst 2, 1) := by decide +kernel
theorem dL_isStep_269 : decode cL_isStep 269 = .ok (.invokevirtual 43, 3) := by decide +kernel
theorem dL_isStep_272 : decode cL_isStep 272 = .ok (.goto 4, 3) := by decide +kernel
theorem dL_isStep_275 : decode cL_isStep 275 = .ok (.iconst 0, 1) := by decide +kernel
theorem dL_isStep_276 : decode cL_isStep 276 = .ok (.istore 11, 2) := by decide +kernel
theorem dL_isStep_278 : decode cL_isStep 278 = .ok (.aload_n 0, 1) := by decide +kernel
theorem dL_isStep_279 : decode cL_isStep 279 = .ok (.iload 9, 2) := by decide +kernel
theorem dL_isStep_281 : decode cL_isStep 281 = .ok (.invokevirtual 46, 3) := by decide +kernel
theorem dL_isStep_284 : decode cL_isStep 284 = .ok (.istore 12, 2) := by decide +kernel
theorem dL_isStep_286 : decode cL_isStep 286 = .ok (.iload 12, 2) := by decide +kernel
theorem dL_isStep_288 : decode cL_isStep 288 = .ok (.aload_n 1, 1) := by decide +kernel
theorem dL_isStep_289 : decode cL_isStep 289 = .ok (.iload 9, 2) := by decide +kernel
theorem dL_isStep_291 : decode cL_isStep 291 = .ok (.invokevirtual 46, 3) := by decide +kernel
theorem dL_isStep_294 : decode cL_isStep 294 = .ok (.if_icmp .ne 45, 3) := by decide +kernel
theorem dL_isStep_297 : decode cL_isStep 297 = .ok (.iload 9, 2) := by decide +kernel
theorem dL_isStep_299 : decode cL_isStep 299 = .ok (.iload 7, 2) := by decide +kernel
theorem dL_isStep_301 : decode cL_isStep 301 = .ok (.if_icmp .ne 12, 3) := by decide +kernel
theorem dL_isStep_304 : decode cL_isStep 304 = .ok (.iload 12, 2) := by decide +kernel
theorem dL_isStep_306 : decode cL_isStep 306 = .ok (.iconst (-1), 1) := by decide +kernel
theorem dL_isStep_307 : decode cL_isStep 307 = .ok (.if_icmp .ne 32, 3) := by decide +kernel
theorem dL_isStep_310 : decode cL_isStep 310 = .ok (.goto 25, 3) := by decide +kernel
theorem dL_isStep_313 : decode cL_isStep 313 = .ok (.iload 11, 2) := by decide +kernel
theorem dL_isStep_315 : decode cL_isStep 315 = .ok (.ifCond .ne 11, 3) := by decide +kernel
theorem dL_isStep_318 : decode cL_isStep 318 = .ok (.iload 12, 2) := by decide +kernel
theorem dL_isStep_320 : decode cL_isStep 320 = .ok (.ifCond .ne 19, 3) := by decide +kernel
theorem dL_isStep_323 : decode cL_isStep 323 = .ok (.goto 12, 3) := by decide +kernel
theorem dL_isStep_326 : decode cL_isStep 326 = .ok (.iload 12, 2) := by decide +kernel
theorem dL_isStep_328 : decode cL_isStep 328 = .ok (.iconst 3, 1) := by decide +kernel
theorem dL_isStep_329 : decode cL_isStep 329 = .ok (.iload 11, 2) := by decide +kernel
theorem dL_isStep_331 : decode cL_isStep 331 = .ok (.isub, 1) := by decide +kernel
theorem dL_isStep_332 : decode cL_isStep 332 = .ok (.if_icmp .ne 7, 3) := by decide +kernel
theorem dL_isStep_335 : decode cL_isStep 335 = .ok (.iconst 1, 1) := by decide +kernel
theorem dL_isStep_336 : decode cL_isStep 336 = .ok (.goto 4, 3) := by decide +kernel
theorem dL_isStep_339 : decode cL_isStep 339 = .ok (.iconst 0, 1) := by decide +kernel
theorem dL_isStep_340 : decode cL_isStep 340 = .ok (.ireturn, 1) := by decide +kernel
theorem dL_isStep_341 : decode cL_isStep 341 = .ok (.aload_n 0, 1) := by decide +kernel
theorem dL_isStep_342 : decode cL_isStep 342 = .ok (.bipush 8, 2) := by decide +kernel
theorem dL_isStep_344 : decode cL_isStep 344 = .ok (.invokevirtual 9, 3) := by decide +kernel
theorem dL_isStep_347 : decode cL_isStep 347 = .ok (.iconst 2, 1) := by decide +kernel
theorem dL_isStep_348 : decode cL_isStep 348 = .ok (.if_icmp .lt 14, 3) := by decide +kernel
theorem dL_isStep_351 : decode cL_isStep 351 = .ok (.aload_n 0, 1) := by decide +kernel
theorem dL_isStep_352 : decode cL_isStep 352 = .ok (.invokevirtual 49, 3) := by decide +kernel
theorem dL_isStep_355 : decode cL_isStep 355 = .ok (.aload_n 1, 1) := by decide +kernel
theorem dL_isStep_356 : decode cL_isStep 356 = .ok (.invokevirtual 49, 3) := by decide +kernel
theorem dL_isStep_359 : decode cL_isStep 359 = .ok (.if_icmp .ne 7, 3) := by decide +kernel
theorem dL_isStep_362 : decode cL_isStep 362 = .ok (.iconst 1, 1) := by decide +kernel
theorem dL_isStep_363 : decode cL_isStep 363 = .ok (.goto 4, 3) := by decide +kernel
theorem dL_isStep_366 : decode cL_isStep 366 = .ok (.iconst 0, 1) := by decide +kernel
theorem dL_isStep_367 : decode cL_isStep 367 = .ok (.ireturn, 1) := by decide +kernel
set_option maxRecDepth 20000 in
theorem ggL_areAlike_X5_count : GoodIn wsL_areAlike wsX5_count := goodIn_r _ [5, 6, 7, 8, 9, 10, 11, 12, 13, 14, 15, 16, 17, 18, 19, 20, 21, 22, 23, 24, 25, 26, 27, 28, 29, 30, 31, 32, 33, 34, 35, 36, 37, 38, 39, 195, 196, 197, 198, 199, 200, 201, 202, 203, 204, 205, 206, 207, 208, 209, 210, 211, 212, 213, 214, 215, 216, 217, 218, 219, 220, 221, 222, 223, 224, 225, 226, 227, 228, 229] (by decide +kernel) (by decide +kernel)
set_option maxRecDepth 20000 in
theorem gL_areAlike_X5_count : GoodIn wsL_areAlike (wsV RL 9 RX5 yX5_count wsX5_count) := goodIn_app (goodIn_of _ (by decide +kernel)) ggL_areAlike_X5_count
set_option maxRecDepth 20000 in
theorem ggL_areAlike_L_there : GoodIn wsL_areAlike wsL_there := goodIn_r _ [43] (by decide +kernel) (by decide +kernel)
set_option maxRecDepth 20000 in
theorem gL_areAlike_L_there : GoodIn wsL_areAlike (va_wsS RL 27 yL_there wsL_there) := goodIn_app (goodIn_of _ (by decide +kernel)) ggL_areAlike_L_there
set_option maxRecDepth 20000 in
theorem ggL_areAlike_X5_rule : GoodIn wsL_areAlike wsX5_rule := goodIn_r _ [47, 6, 8, 48, 49, 50, 51, 52, 53, 54, 55, 56, 57, 58, 59, 60, 18, 61, 62, 63, 15, 16, 17, 19, 20, 21, 195, 196, 197, 198, 199, 200, 201, 202, 203, 204, 205, 210, 211, 212, 213, 214, 215, 216, 217, 218, 219, 220, 221, 206, 207, 208, 209] (by decide +kernel) (by decide +kernel)
set_option maxRecDepth 20000 in
theorem gL_areAlike_X5_rule : GoodIn wsL_areAlike (wsV RL 43 RX5 yX5_rule wsX5_rule) := goodIn_app (goodIn_of _ (by decide +kernel)) ggL_areAlike_X5_rule
set_option maxRecDepth 20000 in
theorem ggL_areAlike_X5_ifDropped : GoodIn wsL_areAlike wsX5_ifDropped := goodIn_r _ [67, 6, 68, 69, 52, 53, 54, 55, 56, 57, 70, 71, 72, 73, 74, 75, 76, 77, 78, 79, 80, 81, 82, 83, 84, 85, 86, 87, 88, 89, 4, 90, 91, 92, 93, 18, 94, 95, 20, 62, 21, 37, 96, 97, 98, 99, 100, 101, 102, 30, 38, 31, 39, 36, 103, 63, 104, 105, 106, 107, 32, 33, 34, 35, 108, 109, 110, 111, 112, 113, 114, 115, 116, 15, 16, 17, 19, 195, 196, 197, 198, 199, 200, 201, 202, 203, 204, 205, 206, 207, 208, 209, 210, 211, 212, 213, 214, 215, 216, 217, 218, 219, 220, 221] (by decide +kernel) (by decide +kernel)
set_option maxRecDepth 20000 in
theorem gL_areAlike_X5_ifDropped : GoodIn wsL_areAlike (wsV RL 53 RX5 yX5_ifDropped wsX5_ifDropped) := goodIn_app (goodIn_of _ (by decide +kernel)) ggL_areAlike_X5_ifDropped
set_option maxRecDepth 20000 in
theorem ggL_areAlike_X5_choice : GoodIn wsL_areAlike wsX5_choice := goodIn_r _ [120, 6, 10, 8, 121, 27, 28, 18, 29, 30, 31, 32, 33, 34, 35, 36, 37, 38, 39, 122, 123, 124, 55, 125, 57, 75, 126, 127, 128, 129, 20, 26, 195, 196, 197, 198, 199, 200, 201, 202, 203, 204, 205, 206, 207, 208, 209, 210, 211, 212, 213, 214, 215, 216, 217, 218, 219, 220, 221] (by decide +kernel) (by decide +kernel)
set_option maxRecDepth 20000 in
theorem gL_areAlike_X5_choice : GoodIn wsL_areAlike (wsV RL 56 RX5 yX5_choice wsX5_choice) := goodIn_app (goodIn_of _ (by decide +kernel)) ggL_areAlike_X5_choice
set_option maxRecDepth 20000 in
theorem ggL_areAlike_L_up : GoodIn wsL_areAlike wsL_up := goodIn_r _ [132, 133] (by decide +kernel) (by decide +kernel)
set_option maxRecDepth 20000 in
theorem gL_areAlike_L_up : GoodIn wsL_areAlike (va_wsS RL 15 yL_up wsL_up) := goodIn_app (goodIn_of _ (by decide +kernel)) ggL_areAlike_L_up
set_option maxRecDepth 20000 in
theorem ggL_areAlike_X5_known : GoodIn wsL_areAlike wsX5_known := goodIn_r _ [137, 6, 8, 138, 139, 140, 55, 141, 74, 121, 27, 28, 18, 29, 30, 31, 32, 33, 34, 35, 36, 37, 38, 39, 195, 196, 197, 198, 199, 200, 201, 202, 203, 204, 205, 206, 207, 208, 209, 210, 211, 212, 213, 214, 215, 216, 217, 218, 219, 220, 221] (by decide +kernel) (by decide +kernel)
set_option maxRecDepth 20000 in
theorem gL_areAlike_X5_known : GoodIn wsL_areAlike (wsV RL 59 RX5 yX5_known wsX5_known) := goodIn_app (goodIn_of _ (by decide +kernel)) ggL_areAlike_X5_known
set_option maxRecDepth 20000 in
theorem ggL_areAlike_L_odd : GoodIn wsL_areAlike wsL_odd := goodIn_r _ [144] (by decide +kernel) (by decide +kernel)
set_option maxRecDepth 20000 in
theorem gL_areAlike_L_odd : GoodIn wsL_areAlike (va_wsS RL 31 yL_odd wsL_odd) := goodIn_app (goodIn_of _ (by decide +kernel)) ggL_areAlike_L_odd
set_option maxRecDepth 20000 in
theorem ggL_areAlike_X5_nearest : GoodIn wsL_areAlike wsX5_nearest := goodIn_r _ [148, 6, 8, 138, 139, 140, 55, 141, 74, 149, 150, 151, 18, 152, 153, 154, 155, 156, 157, 20, 21, 158, 159, 160, 161, 37, 38, 162, 4, 163, 110, 111, 112, 113, 114, 115, 116, 164, 165, 16, 17, 19, 108, 109, 195, 196, 197, 198, 199, 200, 201, 202, 203, 204, 205, 206, 207, 208, 209, 210, 211, 212, 213, 214, 215, 216, 217, 218, 219, 220, 221] (by decide +kernel) (by decide +kernel)
set_option maxRecDepth 20000 in
theorem gL_areAlike_X5_nearest : GoodIn wsL_areAlike (wsV RL 62 RX5 yX5_nearest wsX5_nearest) := goodIn_app (goodIn_of _ (by decide +kernel)) ggL_areAlike_X5_nearest
set_option maxRecDepth 20000 in
theorem ggL_areAlike_X5_best : GoodIn wsL_areAlike wsX5_best := goodIn_r _ [169, 170, 6, 171, 172, 173, 174, 175, 176, 177, 178, 179, 180, 181, 182, 183, 184, 185, 186, 187, 188, 189, 162, 4, 163, 110, 111, 112, 113, 114, 115, 116, 190, 191, 192, 193, 194, 108, 109, 195, 196, 197, 198, 199, 200, 201, 202, 203, 204, 205, 230, 231, 232, 233, 206, 207, 208, 209] (by decide +kernel) (by decide +kernel)
set_option maxRecDepth 20000 in
theorem gL_areAlike_X5_best : GoodIn wsL_areAlike (wsV RL 65 RX5 yX5_best wsX5_best) := goodIn_app (goodIn_of _ (by decide +kernel)) ggL_areAlike_X5_best
theorem dL_areAlike_0 : decode cL_areAlike 0 = .ok (.iconst 1, 1) := by decide +kernel
theorem dL_areAlike_1 : decode cL_areAlike 1 = .ok (.istore 6, 2) := by decide +kernel
theorem dL_areAlike_3 : decode cL_areAlike 3 = .ok (.iconst 0, 1) := by decide +kernel
theorem dL_areAlike_4 : decode cL_areAlike 4 = .ok (.istore 7, 2) := by decide +kernel
theorem dL_areAlike_6 : decode cL_areAlike 6 = .ok (.iload 7, 2) := by decide +kernel
theorem dL_areAlike_8 : decode cL_areAlike 8 = .ok (.bipush 7, 2) := by decide +kernel
theorem dL_areAlike_10 : decode cL_areAlike 10 = .ok (.if_icmp .ge 63, 3) := by decide +kernel
theorem dL_areAlike_13 : decode cL_areAlike 13 = .ok (.iload 6, 2) := by decide +kernel
theorem dL_areAlike_15 : decode cL_areAlike 15 = .ok (.ifCond .eq 49, 3) := by decide +kernel
theorem dL_areAlike_18 : decode cL_areAlike 18 = .ok (.iload 7, 2) := by decide +kernel
theorem dL_areAlike_20 : decode cL_areAlike 20 = .ok (.iconst 5, 1) := by decide +kernel
theorem dL_areAlike_21 : decode cL_areAlike 21 = .ok (.if_icmp .ne 24, 3) := by decide +kernel
theorem dL_areAlike_24 : decode cL_areAlike 24 = .ok (.aload_n 0, 1) := by decide +kernel
theorem dL_areAlike_25 : decode cL_areAlike 25 = .ok (.iconst 5, 1) := by decide +kernel
theorem dL_areAlike_26 : decode cL_areAlike 26 = .ok (.invokevirtual 9, 3) := by decide +kernel
theorem dL_areAlike_29 : decode cL_areAlike 29 = .ok (.iload_n 2, 1) := by decide +kernel
theorem dL_areAlike_30 : decode cL_areAlike 30 = .ok (.iload_n 3, 1) := by decide +kernel
theorem dL_areAlike_31 : decode cL_areAlike 31 = .ok (.invokestatic 27, 3) := by decide +kernel
theorem dL_areAlike_34 : decode cL_areAlike 34 = .ok (.aload_n 1, 1) := by decide +kernel
theorem dL_areAlike_35 : decode cL_areAlike 35 = .ok (.iconst 5, 1) := by decide +kernel
theorem dL_areAlike_36 : decode cL_areAlike 36 = .ok (.invokevirtual 9, 3) := by decide +kernel
theorem dL_areAlike_39 : decode cL_areAlike 39 = .ok (.if_icmp .ne 25, 3) := by decide +kernel
theorem dL_areAlike_42 : decode cL_areAlike 42 = .ok (.goto 18, 3) := by decide +kernel
theorem dL_areAlike_45 : decode cL_areAlike 45 = .ok (.aload_n 0, 1) := by decide +kernel
theorem dL_areAlike_46 : decode cL_areAlike 46 = .ok (.iload 7, 2) := by decide +kernel
theorem dL_areAlike_48 : decode cL_areAlike 48 = .ok (.invokevirtual 9, 3) := by decide +kernel
theorem dL_areAlike_51 : decode cL_areAlike 51 = .ok (.aload_n 1, 1) := by decide +kernel
theorem dL_areAlike_52 : decode cL_areAlike 52 = .ok (.iload 7, 2) := by decide +kernel
theorem dL_areAlike_54 : decode cL_areAlike 54 = .ok (.invokevirtual 9, 3) := by decide +kernel
theorem dL_areAlike_57 : decode cL_areAlike 57 = .ok (.if_icmp .ne 7, 3) := by decide +kernel
theorem dL_areAlike_60 : decode cL_areAlike 60 = .ok (.iconst 1, 1) := by decide +kernel
theorem dL_areAlike_61 : decode cL_areAlike 61 = .ok (.goto 4, 3) := by decide +kernel
theorem dL_areAlike_64 : decode cL_areAlike 64 = .ok (.iconst 0, 1) := by decide +kernel
theorem dL_areAlike_65 : decode cL_areAlike 65 = .ok (.istore 6, 2) := by decide +kernel
theorem dL_areAlike_67 : decode cL_areAlike 67 = .ok (.iinc 7 1, 3) := by decide +kernel
theorem dL_areAlike_70 : decode cL_areAlike 70 = .ok (.goto (-64), 3) := by decide +kernel
theorem dL_areAlike_73 : decode cL_areAlike 73 = .ok (.iconst 0, 1) := by decide +kernel
theorem dL_areAlike_74 : decode cL_areAlike 74 = .ok (.istore 7, 2) := by decide +kernel
theorem dL_areAlike_76 : decode cL_areAlike 76 = .ok (.iload 7, 2) := by decide +kernel
theorem dL_areAlike_78 : decode cL_areAlike 78 = .ok (.aload_n 0, 1) := by decide +kernel
theorem dL_areAlike_79 : decode cL_areAlike 79 = .ok (.iconst 0, 1) := by decide +kernel
theorem dL_areAlike_80 : decode cL_areAlike 80 = .ok (.invokevirtual 9, 3) := by decide +kernel
theorem dL_areAlike_83 : decode cL_areAlike 83 = .ok (.if_icmp .ge 126, 3) := by decide +kernel
theorem dL_areAlike_86 : decode cL_areAlike 86 = .ok (.iload 6, 2) := by decide +kernel
theorem dL_areAlike_88 : decode cL_areAlike 88 = .ok (.ifCond .eq 121, 3) := by decide +kernel
theorem dL_areAlike_91 : decode cL_areAlike 91 = .ok (.aload_n 0, 1) := by decide +kernel
theorem dL_areAlike_92 : decode cL_areAlike 92 = .ok (.iload 7, 2) := by decide +kernel
theorem dL_areAlike_94 : decode cL_areAlike 94 = .ok (.iconst 0, 1) := by decide +kernel
theorem dL_areAlike_95 : decode cL_areAlike 95 = .ok (.invokevirtual 43, 3) := by decide +kernel
theorem dL_areAlike_98 : decode cL_areAlike 98 = .ok (.iload_n 2, 1) := by decide +kernel
theorem dL_areAlike_99 : decode cL_areAlike 99 = .ok (.iload_n 3, 1) := by decide +kernel
theorem dL_areAlike_100 : decode cL_areAlike 100 = .ok (.invokestatic 27, 3) := by decide +kernel
theorem dL_areAlike_103 : decode cL_areAlike 103 = .ok (.aload_n 1, 1) := by decide +kernel
theorem dL_areAlike_104 : decode cL_areAlike 104 = .ok (.iload 7, 2) := by decide +kernel
theorem dL_areAlike_106 : decode cL_areAlike 106 = .ok (.iconst 0, 1) := by decide +kernel
theorem dL_areAlike_107 : decode cL_areAlike 107 = .ok (.invokevirtual 43, 3) := by decide +kernel
theorem dL_areAlike_110 : decode cL_areAlike 110 = .ok (.if_icmp .ne 90, 3) := by decide +kernel
theorem dL_areAlike_113 : decode cL_areAlike 113 = .ok (.aload_n 0, 1) := by decide +kernel
theorem dL_areAlike_114 : decode cL_areAlike 114 = .ok (.iload 7, 2) := by decide +kernel
theorem dL_areAlike_116 : decode cL_areAlike 116 = .ok (.iconst 2, 1) := by decide +kernel
theorem dL_areAlike_117 : decode cL_areAlike 117 = .ok (.invokevirtual 43, 3) := by decide +kernel
theorem dL_areAlike_120 : decode cL_areAlike 120 = .ok (.aload_n 1, 1) := by decide +kernel
theorem dL_areAlike_121 : decode cL_areAlike 121 = .ok (.iload 7, 2) := by decide +kernel
theorem dL_areAlike_123 : decode cL_areAlike 123 = .ok (.iconst 2, 1) := by decide +kernel
theorem dL_areAlike_124 : decode cL_areAlike 124 = .ok (.invokevirtual 43, 3) := by decide +kernel
theorem dL_areAlike_127 : decode cL_areAlike 127 = .ok (.if_icmp .ne 73, 3) := by decide +kernel
theorem dL_areAlike_130 : decode cL_areAlike 130 = .ok (.aload_n 0, 1) := by decide +kernel
theorem dL_areAlike_131 : decode cL_areAlike 131 = .ok (.iload 7, 2) := by decide +kernel
theorem dL_areAlike_133 : decode cL_areAlike 133 = .ok (.iconst 3, 1) := by decide +kernel
theorem dL_areAlike_134 : decode cL_areAlike 134 = .ok (.invokevirtual 43, 3) := by decide +kernel
theorem dL_areAlike_137 : decode cL_areAlike 137 = .ok (.aload_n 1, 1) := by decide +kernel
theorem dL_areAlike_138 : decode cL_areAlike 138 = .ok (.iload 7, 2) := by decide +kernel
theorem dL_areAlike_140 : decode cL_areAlike 140 = .ok (.iconst 3, 1) := by decide +kernel
theorem dL_areAlike_141 : decode cL_areAlike 141 = .ok (.invokevirtual 43, 3) := by decide +kernel
theorem dL_areAlike_144 : decode cL_areAlike 144 = .ok (.if_icmp .ne 56, 3) := by decide +kernel
theorem dL_areAlike_147 : decode cL_areAlike 147 = .ok (.aload_n 0, 1) := by decide +kernel
theorem dL_areAlike_148 : decode cL_areAlike 148 = .ok (.iload 7, 2) := by decide +kernel
theorem dL_areAlike_150 : decode cL_areAlike 150 = .ok (.iconst 4, 1) := by decide +kernel
theorem dL_areAlike_151 : decode cL_areAlike 151 = .ok (.invokevirtual 43, 3) := by decide +kernel
theorem dL_areAlike_154 : decode cL_areAlike 154 = .ok (.aload_n 1, 1) := by decide +kernel
theorem dL_areAlike_155 : decode cL_areAlike 155 = .ok (.iload 7, 2) := by decide +kernel
theorem dL_areAlike_157 : decode cL_areAlike 157 = .ok (.iconst 4, 1) := by decide +kernel
theorem dL_areAlike_158 : decode cL_areAlike 158 = .ok (.invokevirtual 43, 3) := by decide +kernel
theorem dL_areAlike_161 : decode cL_areAlike 161 = .ok (.if_icmp .ne 39, 3) := by decide +kernel
theorem dL_areAlike_164 : decode cL_areAlike 164 = .ok (.aload_n 0, 1) := by decide +kernel
theorem dL_areAlike_165 : decode cL_areAlike 165 = .ok (.iload 7, 2) := by decide +kernel
theorem dL_areAlike_167 : decode cL_areAlike 167 = .ok (.iconst 5, 1) := by decide +kernel
theorem dL_areAlike_168 : decode cL_areAlike 168 = .ok (.invokevirtual 43, 3) := by decide +kernel
theorem dL_areAlike_171 : decode cL_areAlike 171 = .ok (.aload_n 1, 1) := by decide +kernel
theorem dL_areAlike_172 : decode cL_areAlike 172 = .ok (.iload 7, 2) := by decide +kernel
theorem dL_areAlike_174 : decode cL_areAlike 174 = .ok (.iconst 5, 1) := by decide +kernel
theorem dL_areAlike_175 : decode cL_areAlike 175 = .ok (.invokevirtual 43, 3) := by decide +kernel
theorem dL_areAlike_178 : decode cL_areAlike 178 = .ok (.if_icmp .ne 22, 3) := by decide +kernel
theorem dL_areAlike_181 : decode cL_areAlike 181 = .ok (.aload_n 0, 1) := by decide +kernel
theorem dL_areAlike_182 : decode cL_areAlike 182 = .ok (.iload 7, 2) := by decide +kernel
theorem dL_areAlike_184 : decode cL_areAlike 184 = .ok (.invokevirtual 53, 3) := by decide +kernel
theorem dL_areAlike_187 : decode cL_areAlike 187 = .ok (.aload_n 1, 1) := by decide +kernel
theorem dL_areAlike_188 : decode cL_areAlike 188 = .ok (.iload 7, 2) := by decide +kernel
theorem dL_areAlike_190 : decode cL_areAlike 190 = .ok (.invokevirtual 53, 3) := by decide +kernel
theorem dL_areAlike_193 : decode cL_areAlike 193 = .ok (.if_icmp .ne 7, 3) := by decide +kernel
theorem dL_areAlike_196 : decode cL_areAlike 196 = .ok (.iconst 1, 1) := by decide +kernel
theorem dL_areAlike_197 : decode cL_areAlike 197 = .ok (.goto 4, 3) := by decide +kernel
theorem dL_areAlike_200 : decode cL_areAlike 200 = .ok (.iconst 0, 1) := by decide +kernel
theorem dL_areAlike_201 : decode cL_areAlike 201 = .ok (.istore 6, 2) := by decide +kernel
theorem dL_areAlike_203 : decode cL_areAlike 203 = .ok (.iinc 7 1, 3) := by decide +kernel
theorem dL_areAlike_206 : decode cL_areAlike 206 = .ok (.goto (-130), 3) := by decide +kernel
theorem dL_areAlike_209 : decode cL_areAlike 209 = .ok (.iconst 0, 1) := by decide +kernel
theorem dL_areAlike_210 : decode cL_areAlike 210 = .ok (.istore 7, 2) := by decide +kernel
theorem dL_areAlike_212 : decode cL_areAlike 212 = .ok (.iload 7, 2) := by decide +kernel
theorem dL_areAlike_214 : decode cL_areAlike 214 = .ok (.iload_n 2, 1) := by decide +kernel
theorem dL_areAlike_215 : decode cL_areAlike 215 = .ok (.if_icmp .ge 109, 3) := by decide +kernel
theorem dL_areAlike_218 : decode cL_areAlike 218 = .ok (.iload 6, 2) := by decide +kernel
theorem dL_areAlike_220 : decode cL_areAlike 220 = .ok (.ifCond .eq 104, 3) := by decide +kernel
theorem dL_areAlike_223 : decode cL_areAlike 223 = .ok (.iload 7, 2) := by decide +kernel
theorem dL_areAlike_225 : decode cL_areAlike 225 = .ok (.iload_n 3, 1) := by decide +kernel
theorem dL_areAlike_226 : decode cL_areAlike 226 = .ok (.iadd, 1) := by decide +kernel
theorem dL_areAlike_227 : decode cL_areAlike 227 = .ok (.iload_n 2, 1) := by decide +kernel
theorem dL_areAlike_228 : decode cL_areAlike 228 = .ok (.irem, 1) := by decide +kernel
theorem dL_areAlike_229 : decode cL_areAlike 229 = .ok (.istore 8, 2) := by decide +kernel
theorem dL_areAlike_231 : decode cL_areAlike 231 = .ok (.aload_n 0, 1) := by decide +kernel
theorem dL_areAlike_232 : decode cL_areAlike 232 = .ok (.iload 7, 2) := by decide +kernel
theorem dL_areAlike_234 : decode cL_areAlike 234 = .ok (.iconst 0, 1) := by decide +kernel
theorem dL_areAlike_235 : decode cL_areAlike 235 = .ok (.invokevirtual 56, 3) := by decide +kernel
theorem dL_areAlike_238 : decode cL_areAlike 238 = .ok (.istore 9, 2) := by decide +kernel
theorem dL_areAlike_240 : decode cL_areAlike 240 = .ok (.aload_n 1, 1) := by decide +kernel
theorem dL_areAlike_241 : decode cL_areAlike 241 = .ok (.iload 8, 2) := by decide +kernel
theorem dL_areAlike_243 : decode cL_areAlike 243 = .ok (.iconst 0, 1) := by decide +kernel
theorem dL_areAlike_244 : decode cL_areAlike 244 = .ok (.invokevirtual 56, 3) := by decide +kernel
theorem dL_areAlike_247 : decode cL_areAlike 247 = .ok (.iload 9, 2) := by decide +kernel
theorem dL_areAlike_249 : decode cL_areAlike 249 = .ok (.bipush (-6), 2) := by decide +kernel
theorem dL_areAlike_251 : decode cL_areAlike 251 = .ok (.if_icmp .ne 8, 3) := by decide +kernel
theorem dL_areAlike_254 : decode cL_areAlike 254 = .ok (.iload 9, 2) := by decide +kernel
theorem dL_areAlike_256 : decode cL_areAlike 256 = .ok (.goto 13, 3) := by decide +kernel
theorem dL_areAlike_259 : decode cL_areAlike 259 = .ok (.iload 9, 2) := by decide +kernel
theorem dL_areAlike_261 : decode cL_areAlike 261 = .ok (.iload 4, 2) := by decide +kernel
theorem dL_areAlike_263 : decode cL_areAlike 263 = .ok (.iload 7, 2) := by decide +kernel
theorem dL_areAlike_265 : decode cL_areAlike 265 = .ok (.ishr, 1) := by decide +kernel
theorem dL_areAlike_266 : decode cL_areAlike 266 = .ok (.iconst 1, 1) := by decide +kernel
theorem dL_areAlike_267 : decode cL_areAlike 267 = .ok (.iand, 1) := by decide +kernel
theorem dL_areAlike_268 : decode cL_areAlike 268 = .ok (.ixor, 1) := by decide +kernel
theorem dL_areAlike_269 : decode cL_areAlike 269 = .ok (.if_icmp .ne 46, 3) := by decide +kernel
theorem dL_areAlike_272 : decode cL_areAlike 272 = .ok (.aload_n 1, 1) := by decide +kernel
theorem dL_areAlike_273 : decode cL_areAlike 273 = .ok (.iload 8, 2) := by decide +kernel
theorem dL_areAlike_275 : decode cL_areAlike 275 = .ok (.iconst 1, 1) := by decide +kernel
theorem dL_areAlike_276 : decode cL_areAlike 276 = .ok (.invokevirtual 56, 3) := by decide +kernel
theorem dL_areAlike_279 : decode cL_areAlike 279 = .ok (.aload_n 0, 1) := by decide +kernel
theorem dL_areAlike_280 : decode cL_areAlike 280 = .ok (.iload 7, 2) := by decide +kernel
theorem dL_areAlike_282 : decode cL_areAlike 282 = .ok (.iconst 1, 1) := by decide +kernel
theorem dL_areAlike_283 : decode cL_areAlike 283 = .ok (.invokevirtual 56, 3) := by decide +kernel
theorem dL_areAlike_286 : decode cL_areAlike 286 = .ok (.if_icmp .ne 29, 3) := by decide +kernel
theorem dL_areAlike_289 : decode cL_areAlike 289 = .ok (.aload_n 1, 1) := by decide +kernel
theorem dL_areAlike_290 : decode cL_areAlike 290 = .ok (.iload 8, 2) := by decide +kernel
theorem dL_areAlike_292 : decode cL_areAlike 292 = .ok (.iconst 2, 1) := by decide +kernel
theorem dL_areAlike_293 : decode cL_areAlike 293 = .ok (.invokevirtual 56, 3) := by decide +kernel
theorem dL_areAlike_296 : decode cL_areAlike 296 = .ok (.aload_n 0, 1) := by decide +kernel
theorem dL_areAlike_297 : decode cL_areAlike 297 = .ok (.iload 7, 2) := by decide +kernel
theorem dL_areAlike_299 : decode cL_areAlike 299 = .ok (.iconst 2, 1) := by decide +kernel
theorem dL_areAlike_300 : decode cL_areAlike 300 = .ok (.invokevirtual 56, 3) := by decide +kernel
theorem dL_areAlike_303 : decode cL_areAlike 303 = .ok (.iload_n 2, 1) := by decide +kernel
theorem dL_areAlike_304 : decode cL_areAlike 304 = .ok (.iload_n 3, 1) := by decide +kernel
theorem dL_areAlike_305 : decode cL_areAlike 305 = .ok (.invokestatic 27, 3) := by decide +kernel
theorem dL_areAlike_308 : decode cL_areAlike 308 = .ok (.if_icmp .ne 7, 3) := by decide +kernel
theorem dL_areAlike_311 : decode cL_areAlike 311 = .ok (.iconst 1, 1) := by decide +kernel
theorem dL_areAlike_312 : decode cL_areAlike 312 = .ok (.goto 4, 3) := by decide +kernel
theorem dL_areAlike_315 : decode cL_areAlike 315 = .ok (.iconst 0, 1) := by decide +kernel
theorem dL_areAlike_316 : decode cL_areAlike 316 = .ok (.istore 6, 2) := by decide +kernel
theorem dL_areAlike_318 : decode cL_areAlike 318 = .ok (.iinc 7 1, 3) := by decide +kernel
theorem dL_areAlike_321 : decode cL_areAlike 321 = .ok (.goto (-109), 3) := by decide +kernel
theorem dL_areAlike_324 : decode cL_areAlike 324 = .ok (.iload 5, 2) := by decide +kernel
theorem dL_areAlike_326 : decode cL_areAlike 326 = .ok (.iconst 1, 1) := by decide +kernel
theorem dL_areAlike_327 : decode cL_areAlike 327 = .ok (.iload_n 2, 1) := by decide +kernel
theorem dL_areAlike_328 : decode cL_areAlike 328 = .ok (.ishl, 1) := by decide +kernel
theorem dL_areAlike_329 : decode cL_areAlike 329 = .ok (.invokestatic 15, 3) := by decide +kernel
theorem dL_areAlike_332 : decode cL_areAlike 332 = .ok (.istore 7, 2) := by decide +kernel
theorem dL_areAlike_334 : decode cL_areAlike 334 = .ok (.aload_n 0, 1) := by decide +kernel
theorem dL_areAlike_335 : decode cL_areAlike 335 = .ok (.iload 7, 2) := by decide +kernel
theorem dL_areAlike_337 : decode cL_areAlike 337 = .ok (.invokevirtual 59, 3) := by decide +kernel
theorem dL_areAlike_340 : decode cL_areAlike 340 = .ok (.istore 8, 2) := by decide +kernel
theorem dL_areAlike_342 : decode cL_areAlike 342 = .ok (.iload 6, 2) := by decide +kernel
theorem dL_areAlike_344 : decode cL_areAlike 344 = .ok (.ifCond .eq 95, 3) := by decide +kernel
theorem dL_areAlike_347 : decode cL_areAlike 347 = .ok (.aload_n 1, 1) := by decide +kernel
theorem dL_areAlike_348 : decode cL_areAlike 348 = .ok (.iload 7, 2) := by decide +kernel
theorem dL_areAlike_350 : decode cL_areAlike 350 = .ok (.iload_n 2, 1) := by decide +kernel
theorem dL_areAlike_351 : decode cL_areAlike 351 = .ok (.iload_n 3, 1) := by decide +kernel
theorem dL_areAlike_352 : decode cL_areAlike 352 = .ok (.invokestatic 27, 3) := by decide +kernel
theorem dL_areAlike_355 : decode cL_areAlike 355 = .ok (.invokevirtual 59, 3) := by decide +kernel
theorem dL_areAlike_358 : decode cL_areAlike 358 = .ok (.iload 8, 2) := by decide +kernel
theorem dL_areAlike_360 : decode cL_areAlike 360 = .ok (.bipush (-6), 2) := by decide +kernel
theorem dL_areAlike_362 : decode cL_areAlike 362 = .ok (.if_icmp .ne 8, 3) := by decide +kernel
theorem dL_areAlike_365 : decode cL_areAlike 365 = .ok (.iload 8, 2) := by decide +kernel
theorem dL_areAlike_367 : decode cL_areAlike 367 = .ok (.goto 14, 3) := by decide +kernel
theorem dL_areAlike_370 : decode cL_areAlike 370 = .ok (.iload 8, 2) := by decide +kernel
theorem dL_areAlike_372 : decode cL_areAlike 372 = .ok (.iload 7, 2) := by decide +kernel
theorem dL_areAlike_374 : decode cL_areAlike 374 = .ok (.iload 4, 2) := by decide +kernel
theorem dL_areAlike_376 : decode cL_areAlike 376 = .ok (.iand, 1) := by decide +kernel
theorem dL_areAlike_377 : decode cL_areAlike 377 = .ok (.invokestatic 31, 3) := by decide +kernel
theorem dL_areAlike_380 : decode cL_areAlike 380 = .ok (.ixor, 1) := by decide +kernel
theorem dL_areAlike_381 : decode cL_areAlike 381 = .ok (.if_icmp .ne 58, 3) := by decide +kernel
theorem dL_areAlike_384 : decode cL_areAlike 384 = .ok (.aload_n 0, 1) := by decide +kernel
theorem dL_areAlike_385 : decode cL_areAlike 385 = .ok (.iload 7, 2) := by decide +kernel
theorem dL_areAlike_387 : decode cL_areAlike 387 = .ok (.iconst 1, 1) := by decide +kernel
theorem dL_areAlike_388 : decode cL_areAlike 388 = .ok (.invokevirtual 62, 3) := by decide +kernel
theorem dL_areAlike_391 : decode cL_areAlike 391 = .ok (.aload_n 1, 1) := by decide +kernel
theorem dL_areAlike_392 : decode cL_areAlike 392 = .ok (.iload 7, 2) := by decide +kernel
theorem dL_areAlike_394 : decode cL_areAlike 394 = .ok (.iload 4, 2) := by decide +kernel
theorem dL_areAlike_396 : decode cL_areAlike 396 = .ok (.ixor, 1) := by decide +kernel
theorem dL_areAlike_397 : decode cL_areAlike 397 = .ok (.iload_n 2, 1) := by decide +kernel
theorem dL_areAlike_398 : decode cL_areAlike 398 = .ok (.iload_n 3, 1) := by decide +kernel
theorem dL_areAlike_399 : decode cL_areAlike 399 = .ok (.invokestatic 27, 3) := by decide +kernel
theorem dL_areAlike_402 : decode cL_areAlike 402 = .ok (.iconst 1, 1) := by decide +kernel
theorem dL_areAlike_403 : decode cL_areAlike 403 = .ok (.invokevirtual 62, 3) := by decide +kernel
theorem dL_areAlike_406 : decode cL_areAlike 406 = .ok (.if_icmp .ne 33, 3) := by decide +kernel
theorem dL_areAlike_409 : decode cL_areAlike 409 = .ok (.aload_n 0, 1) := by decide +kernel
theorem dL_areAlike_410 : decode cL_areAlike 410 = .ok (.iconst 1, 1) := by decide +kernel
theorem dL_areAlike_411 : decode cL_areAlike 411 = .ok (.invokevirtual 65, 3) := by decide +kernel
theorem dL_areAlike_414 : decode cL_areAlike 414 = .ok (.aload_n 1, 1) := by decide +kernel
theorem dL_areAlike_415 : decode cL_areAlike 415 = .ok (.iconst 1, 1) := by decide +kernel
theorem dL_areAlike_416 : decode cL_areAlike 416 = .ok (.invokevirtual 65, 3) := by decide +kernel
theorem dL_areAlike_419 : decode cL_areAlike 419 = .ok (.if_icmp .ne 20, 3) := by decide +kernel
theorem dL_areAlike_422 : decode cL_areAlike 422 = .ok (.aload_n 0, 1) := by decide +kernel
theorem dL_areAlike_423 : decode cL_areAlike 423 = .ok (.iconst 2, 1) := by decide +kernel
theorem dL_areAlike_424 : decode cL_areAlike 424 = .ok (.invokevirtual 65, 3) := by decide +kernel
theorem dL_areAlike_427 : decode cL_areAlike 427 = .ok (.aload_n 1, 1) := by decide +kernel
theorem dL_areAlike_428 : decode cL_areAlike 428 = .ok (.iconst 2, 1) := by decide +kernel
theorem dL_areAlike_429 : decode cL_areAlike 429 = .ok (.invokevirtual 65, 3) := by decide +kernel
theorem dL_areAlike_432 : decode cL_areAlike 432 = .ok (.if_icmp .ne 7, 3) := by decide +kernel
theorem dL_areAlike_435 : decode cL_areAlike 435 = .ok (.iconst 1, 1) := by decide +kernel
theorem dL_areAlike_436 : decode cL_areAlike 436 = .ok (.goto 4, 3) := by decide +kernel
theorem dL_areAlike_439 : decode cL_areAlike 439 = .ok (.iconst 0, 1) := by decide +kernel
theorem dL_areAlike_440 : decode cL_areAlike 440 = .ok (.ireturn, 1) := by decide +kernel
set_option maxRecDepth 20000 in
theorem ggL_isWell_X5_count : GoodIn wsL_isWell wsX5_count := goodIn_r _ [5, 6, 7, 8, 9, 10, 11, 12, 13, 14, 15, 16, 17, 18, 19, 20, 21, 22, 23, 24, 25, 26, 27, 28, 29, 30, 31, 32, 33, 34, 35, 36, 37, 38, 39, 142, 143, 144, 145, 146, 147, 148, 149, 150, 151, 152, 153, 154, 155, 156, 157, 158, 159, 160, 161, 162, 163, 164, 165, 166, 167, 168, 169, 170, 171, 172, 173, 174, 175, 176] (by decide +kernel) (by decide +kernel)
set_option maxRecDepth 20000 in
theorem gL_isWell_X5_count : GoodIn wsL_isWell (wsV RL 9 RX5 yX5_count wsX5_count) := goodIn_app (goodIn_of _ (by decide +kernel)) ggL_isWell_X5_count
set_option maxRecDepth 20000 in
theorem ggL_isWell_X5_answer : GoodIn wsL_isWell wsX5_answer := goodIn_r _ [43, 8, 15, 16, 17, 18, 19, 20, 21, 44, 45, 46, 47, 37, 38, 48, 4, 49, 50, 51, 52, 53, 54, 55, 56, 142, 143, 144, 145, 146, 147, 148, 149, 150, 151, 152, 157, 158, 159, 160, 161, 162, 163, 164, 165, 166, 167, 168] (by decide +kernel) (by decide +kernel)
set_option maxRecDepth 20000 in
theorem gL_isWell_X5_answer : GoodIn wsL_isWell (wsV RL 68 RX5 yX5_answer wsX5_answer) := goodIn_app (goodIn_of _ (by decide +kernel)) ggL_isWell_X5_answer
set_option maxRecDepth 20000 in
theorem ggL_isWell_L_up : GoodIn wsL_isWell wsL_up := goodIn_r _ [60, 61] (by decide +kernel) (by decide +kernel)
set_option maxRecDepth 20000 in
theorem gL_isWell_L_up : GoodIn wsL_isWell (va_wsS RL 15 yL_up wsL_up) := goodIn_app (goodIn_of _ (by decide +kernel)) ggL_isWell_L_up
set_option maxRecDepth 20000 in
theorem ggL_isWell_X5_rule : GoodIn wsL_isWell wsX5_rule := goodIn_r _ [65, 6, 8, 66, 67, 68, 69, 70, 71, 72, 73, 74, 75, 76, 77, 78, 18, 79, 80, 81, 15, 16, 17, 19, 20, 21, 142, 143, 144, 145, 146, 147, 148, 149, 150, 151, 152, 157, 158, 159, 160, 161, 162, 163, 164, 165, 166, 167, 168, 153, 154, 155, 156] (by decide +kernel) (by decide +kernel)
set_option maxRecDepth 20000 in
theorem gL_isWell_X5_rule : GoodIn wsL_isWell (wsV RL 43 RX5 yX5_rule wsX5_rule) := goodIn_app (goodIn_of _ (by decide +kernel)) ggL_isWell_X5_rule
set_option maxRecDepth 20000 in
theorem ggL_isWell_L_odd : GoodIn wsL_isWell wsL_odd := goodIn_r _ [84] (by decide +kernel) (by decide +kernel)
set_option maxRecDepth 20000 in
theorem gL_isWell_L_odd : GoodIn wsL_isWell (va_wsS RL 31 yL_odd wsL_odd) := goodIn_app (goodIn_of _ (by decide +kernel)) ggL_isWell_L_odd
set_option maxRecDepth 20000 in
theorem ggL_isWell_X5_known : GoodIn wsL_isWell wsX5_known := goodIn_r _ [88, 6, 8, 89, 90, 91, 73, 92, 93, 94, 27, 28, 18, 29, 30, 31, 32, 33, 34, 35, 36, 37, 38, 39, 142, 143, 144, 145, 146, 147, 148, 149, 150, 151, 152, 153, 154, 155, 156, 157, 158, 159, 160, 161, 162, 163, 164, 165, 166, 167, 168] (by decide +kernel) (by decide +kernel)
set_option maxRecDepth 20000 in
theorem gL_isWell_X5_known : GoodIn wsL_isWell (wsV RL 59 RX5 yX5_known wsX5_known) := goodIn_app (goodIn_of _ (by decide +kernel)) ggL_isWell_X5_known
set_option maxRecDepth 20000 in
theorem ggL_isWell_X5_nearest : GoodIn wsL_isWell wsX5_nearest := goodIn_r _ [98, 6, 8, 89, 90, 91, 73, 92, 93, 99, 100, 101, 18, 102, 103, 104, 105, 106, 107, 20, 21, 108, 45, 46, 47, 37, 38, 48, 4, 49, 50, 51, 52, 53, 54, 55, 56, 109, 110, 16, 17, 19, 111, 112, 142, 143, 144, 145, 146, 147, 148, 149, 150, 151, 152, 153, 154, 155, 156, 157, 158, 159, 160, 161, 162, 163, 164, 165, 166, 167, 168] (by decide +kernel) (by decide +kernel)
set_option maxRecDepth 20000 in
theorem gL_isWell_X5_nearest : GoodIn wsL_isWell (wsV RL 62 RX5 yX5_nearest wsX5_nearest) := goodIn_app (goodIn_of _ (by decide +kernel)) ggL_isWell_X5_nearest
set_option maxRecDepth 20000 in
theorem ggL_isWell_X5_best : GoodIn wsL_isWell wsX5_best := goodIn_r _ [116, 117, 6, 118, 119, 120, 121, 122, 123, 124, 125, 126, 127, 128, 129, 130, 131, 132, 133, 134, 135, 136, 48, 4, 49, 50, 51, 52, 53, 54, 55, 56, 137, 138, 139, 140, 141, 111, 112, 142, 143, 144, 145, 146, 147, 148, 149, 150, 151, 152, 177, 178, 179, 180, 153, 154, 155, 156] (by decide +kernel) (by decide +kernel)
set_option maxRecDepth 20000 in
theorem gL_isWell_X5_best : GoodIn wsL_isWell (wsV RL 65 RX5 yX5_best wsX5_best) := goodIn_app (goodIn_of _ (by decide +kernel)) ggL_isWell_X5_best
theorem dL_isWell_0 : decode cL_isWell 0 = .ok (.aload_n 0, 1) := by decide +kernel
theorem dL_isWell_1 : decode cL_isWell 1 = .ok (.iconst 0, 1) := by decide +kernel
theorem dL_isWell_2 : decode cL_isWell 2 = .ok (.invokevirtual 9, 3) := by decide +kernel
theorem dL_isWell_5 : decode cL_isWell 5 = .ok (.istore_n 3, 1) := by decide +kernel
theorem dL_isWell_6 : decode cL_isWell 6 = .ok (.aload_n 0, 1) := by decide +kernel
theorem dL_isWell_7 : decode cL_isWell 7 = .ok (.iconst 4, 1) := by decide +kernel
theorem dL_isWell_8 : decode cL_isWell 8 = .ok (.invokevirtual 9, 3) := by decide +kernel
theorem dL_isWell_11 : decode cL_isWell 11 = .ok (.istore 4, 2) := by decide +kernel
theorem dL_isWell_13 : decode cL_isWell 13 = .ok (.aload_n 0, 1) := by decide +kernel
theorem dL_isWell_14 : decode cL_isWell 14 = .ok (.iconst 1, 1) := by decide +kernel
theorem dL_isWell_15 : decode cL_isWell 15 = .ok (.invokevirtual 9, 3) := by decide +kernel
theorem dL_isWell_18 : decode cL_isWell 18 = .ok (.aload_n 0, 1) := by decide +kernel
theorem dL_isWell_19 : decode cL_isWell 19 = .ok (.iconst 2, 1) := by decide +kernel
theorem dL_isWell_20 : decode cL_isWell 20 = .ok (.invokevirtual 9, 3) := by decide +kernel
theorem dL_isWell_23 : decode cL_isWell 23 = .ok (.iadd, 1) := by decide +kernel
theorem dL_isWell_24 : decode cL_isWell 24 = .ok (.aload_n 0, 1) := by decide +kernel
theorem dL_isWell_25 : decode cL_isWell 25 = .ok (.iconst 3, 1) := by decide +kernel
theorem dL_isWell_26 : decode cL_isWell 26 = .ok (.invokevirtual 9, 3) := by decide +kernel
theorem dL_isWell_29 : decode cL_isWell 29 = .ok (.iadd, 1) := by decide +kernel
theorem dL_isWell_30 : decode cL_isWell 30 = .ok (.iload_n 3, 1) := by decide +kernel
theorem dL_isWell_31 : decode cL_isWell 31 = .ok (.if_icmp .ne 31, 3) := by decide +kernel
theorem dL_isWell_34 : decode cL_isWell 34 = .ok (.iload 4, 2) := by decide +kernel
theorem dL_isWell_36 : decode cL_isWell 36 = .ok (.iconst 1, 1) := by decide +kernel
theorem dL_isWell_37 : decode cL_isWell 37 = .ok (.iload_n 1, 1) := by decide +kernel
theorem dL_isWell_38 : decode cL_isWell 38 = .ok (.aload_n 0, 1) := by decide +kernel
theorem dL_isWell_39 : decode cL_isWell 39 = .ok (.iconst 1, 1) := by decide +kernel
theorem dL_isWell_40 : decode cL_isWell 40 = .ok (.invokevirtual 9, 3) := by decide +kernel
theorem dL_isWell_43 : decode cL_isWell 43 = .ok (.isub, 1) := by decide +kernel
theorem dL_isWell_44 : decode cL_isWell 44 = .ok (.ishl, 1) := by decide +kernel
theorem dL_isWell_45 : decode cL_isWell 45 = .ok (.if_icmp .ne 17, 3) := by decide +kernel
theorem dL_isWell_48 : decode cL_isWell 48 = .ok (.aload_n 0, 1) := by decide +kernel
theorem dL_isWell_49 : decode cL_isWell 49 = .ok (.iload 4, 2) := by decide +kernel
theorem dL_isWell_51 : decode cL_isWell 51 = .ok (.invokevirtual 68, 3) := by decide +kernel
theorem dL_isWell_54 : decode cL_isWell 54 = .ok (.iconst (-1), 1) := by decide +kernel
theorem dL_isWell_55 : decode cL_isWell 55 = .ok (.if_icmp .ne 7, 3) := by decide +kernel
theorem dL_isWell_58 : decode cL_isWell 58 = .ok (.iconst 1, 1) := by decide +kernel
theorem dL_isWell_59 : decode cL_isWell 59 = .ok (.goto 4, 3) := by decide +kernel
theorem dL_isWell_62 : decode cL_isWell 62 = .ok (.iconst 0, 1) := by decide +kernel
theorem dL_isWell_63 : decode cL_isWell 63 = .ok (.istore 5, 2) := by decide +kernel
theorem dL_isWell_65 : decode cL_isWell 65 = .ok (.aload_n 0, 1) := by decide +kernel
theorem dL_isWell_66 : decode cL_isWell 66 = .ok (.iload_n 2, 1) := by decide +kernel
theorem dL_isWell_67 : decode cL_isWell 67 = .ok (.iload 4, 2) := by decide +kernel
theorem dL_isWell_69 : decode cL_isWell 69 = .ok (.invokestatic 15, 3) := by decide +kernel
theorem dL_isWell_72 : decode cL_isWell 72 = .ok (.invokevirtual 68, 3) := by decide +kernel
theorem dL_isWell_75 : decode cL_isWell 75 = .ok (.istore 6, 2) := by decide +kernel
theorem dL_isWell_77 : decode cL_isWell 77 = .ok (.aload_n 0, 1) := by decide +kernel
theorem dL_isWell_78 : decode cL_isWell 78 = .ok (.iload_n 2, 1) := by decide +kernel
theorem dL_isWell_79 : decode cL_isWell 79 = .ok (.bipush 12, 2) := by decide +kernel
theorem dL_isWell_81 : decode cL_isWell 81 = .ok (.ishr, 1) := by decide +kernel
theorem dL_isWell_82 : decode cL_isWell 82 = .ok (.iload 4, 2) := by decide +kernel
theorem dL_isWell_84 : decode cL_isWell 84 = .ok (.invokestatic 15, 3) := by decide +kernel
theorem dL_isWell_87 : decode cL_isWell 87 = .ok (.invokevirtual 68, 3) := by decide +kernel
theorem dL_isWell_90 : decode cL_isWell 90 = .ok (.istore 7, 2) := by decide +kernel
theorem dL_isWell_92 : decode cL_isWell 92 = .ok (.iconst 0, 1) := by decide +kernel
theorem dL_isWell_93 : decode cL_isWell 93 = .ok (.istore 8, 2) := by decide +kernel
theorem dL_isWell_95 : decode cL_isWell 95 = .ok (.iload 8, 2) := by decide +kernel
theorem dL_isWell_97 : decode cL_isWell 97 = .ok (.iload_n 3, 1) := by decide +kernel
theorem dL_isWell_98 : decode cL_isWell 98 = .ok (.if_icmp .ge 295, 3) := by decide +kernel
theorem dL_isWell_101 : decode cL_isWell 101 = .ok (.iload 5, 2) := by decide +kernel
theorem dL_isWell_103 : decode cL_isWell 103 = .ok (.ifCond .eq 290, 3) := by decide +kernel
theorem dL_isWell_106 : decode cL_isWell 106 = .ok (.aload_n 0, 1) := by decide +kernel
theorem dL_isWell_107 : decode cL_isWell 107 = .ok (.iload 8, 2) := by decide +kernel
theorem dL_isWell_109 : decode cL_isWell 109 = .ok (.iconst 0, 1) := by decide +kernel
theorem dL_isWell_110 : decode cL_isWell 110 = .ok (.invokevirtual 43, 3) := by decide +kernel
theorem dL_isWell_113 : decode cL_isWell 113 = .ok (.istore 9, 2) := by decide +kernel
theorem dL_isWell_115 : decode cL_isWell 115 = .ok (.aload_n 0, 1) := by decide +kernel
theorem dL_isWell_116 : decode cL_isWell 116 = .ok (.iload 8, 2) := by decide +kernel
theorem dL_isWell_118 : decode cL_isWell 118 = .ok (.iconst 1, 1) := by decide +kernel
theorem dL_isWell_119 : decode cL_isWell 119 = .ok (.invokevirtual 43, 3) := by decide +kernel
theorem dL_isWell_122 : decode cL_isWell 122 = .ok (.istore 10, 2) := by decide +kernel
theorem dL_isWell_124 : decode cL_isWell 124 = .ok (.aload_n 0, 1) := by decide +kernel
theorem dL_isWell_125 : decode cL_isWell 125 = .ok (.iload 8, 2) := by decide +kernel
theorem dL_isWell_127 : decode cL_isWell 127 = .ok (.iconst 2, 1) := by decide +kernel
theorem dL_isWell_128 : decode cL_isWell 128 = .ok (.invokevirtual 43, 3) := by decide +kernel
theorem dL_isWell_131 : decode cL_isWell 131 = .ok (.istore 11, 2) := by decide +kernel
theorem dL_isWell_133 : decode cL_isWell 133 = .ok (.aload_n 0, 1) := by decide +kernel
theorem dL_isWell_134 : decode cL_isWell 134 = .ok (.iload 8, 2) := by decide +kernel
theorem dL_isWell_136 : decode cL_isWell 136 = .ok (.iconst 3, 1) := by decide +kernel
theorem dL_isWell_137 : decode cL_isWell 137 = .ok (.invokevirtual 43, 3) := by decide +kernel
theorem dL_isWell_140 : decode cL_isWell 140 = .ok (.istore 12, 2) := by decide +kernel
theorem dL_isWell_142 : decode cL_isWell 142 = .ok (.iload 9, 2) := by decide +kernel
theorem dL_isWell_144 : decode cL_isWell 144 = .ok (.iload 6, 2) := by decide +kernel
theorem dL_isWell_146 : decode cL_isWell 146 = .ok (.iand, 1) := by decide +kernel
theorem dL_isWell_147 : decode cL_isWell 147 = .ok (.invokestatic 31, 3) := by decide +kernel
theorem dL_isWell_150 : decode cL_isWell 150 = .ok (.iload 10, 2) := by decide +kernel
theorem dL_isWell_152 : decode cL_isWell 152 = .ok (.if_icmp .ne 7, 3) := by decide +kernel
theorem dL_isWell_155 : decode cL_isWell 155 = .ok (.iconst 1, 1) := by decide +kernel
theorem dL_isWell_156 : decode cL_isWell 156 = .ok (.goto 4, 3) := by decide +kernel
theorem dL_isWell_159 : decode cL_isWell 159 = .ok (.iconst 0, 1) := by decide +kernel
theorem dL_isWell_160 : decode cL_isWell 160 = .ok (.iload 11, 2) := by decide +kernel
theorem dL_isWell_162 : decode cL_isWell 162 = .ok (.iconst 2, 1) := by decide +kernel
theorem dL_isWell_163 : decode cL_isWell 163 = .ok (.if_icmp .eq 7, 3) := by decide +kernel
theorem dL_isWell_166 : decode cL_isWell 166 = .ok (.iconst 1, 1) := by decide +kernel
theorem dL_isWell_167 : decode cL_isWell 167 = .ok (.goto 4, 3) := by decide +kernel
theorem dL_isWell_170 : decode cL_isWell 170 = .ok (.iconst 0, 1) := by decide +kernel
theorem dL_isWell_171 : decode cL_isWell 171 = .ok (.if_icmp .ne 63, 3) := by decide +kernel
theorem dL_isWell_174 : decode cL_isWell 174 = .ok (.iload 9, 2) := by decide +kernel
theorem dL_isWell_176 : decode cL_isWell 176 = .ok (.iload 7, 2) := by decide +kernel
theorem dL_isWell_178 : decode cL_isWell 178 = .ok (.iand, 1) := by decide +kernel
theorem dL_isWell_179 : decode cL_isWell 179 = .ok (.invokestatic 31, 3) := by decide +kernel
theorem dL_isWell_182 : decode cL_isWell 182 = .ok (.iload 10, 2) := by decide +kernel
theorem dL_isWell_184 : decode cL_isWell 184 = .ok (.if_icmp .ne 7, 3) := by decide +kernel
theorem dL_isWell_187 : decode cL_isWell 187 = .ok (.iconst 1, 1) := by decide +kernel
theorem dL_isWell_188 : decode cL_isWell 188 = .ok (.goto 4, 3) := by decide +kernel
theorem dL_isWell_191 : decode cL_isWell 191 = .ok (.iconst 0, 1) := by decide +kernel
theorem dL_isWell_192 : decode cL_isWell 192 = .ok (.iload 11, 2) := by decide +kernel
theorem dL_isWell_194 : decode cL_isWell 194 = .ok (.iconst 2, 1) := by decide +kernel
theorem dL_isWell_195 : decode cL_isWell 195 = .ok (.if_icmp .eq 7, 3) := by decide +kernel
theorem dL_isWell_198 : decode cL_isWell 198 = .ok (.iconst 1, 1) := by decide +kernel
theorem dL_isWell_199 : decode cL_isWell 199 = .ok (.goto 4, 3) := by decide +kernel
theorem dL_isWell_202 : decode cL_isWell 202 = .ok (.iconst 0, 1) := by decide +kernel
theorem dL_isWell_203 : decode cL_isWell 203 = .ok (.if_icmp .ne 31, 3) := by decide +kernel
theorem dL_isWell_206 : decode cL_isWell 206 = .ok (.aload_n 0, 1) := by decide +kernel
theorem dL_isWell_207 : decode cL_isWell 207 = .ok (.iload 9, 2) := by decide +kernel
theorem dL_isWell_209 : decode cL_isWell 209 = .ok (.invokevirtual 59, 3) := by decide +kernel
theorem dL_isWell_212 : decode cL_isWell 212 = .ok (.iload 11, 2) := by decide +kernel
theorem dL_isWell_214 : decode cL_isWell 214 = .ok (.iconst 2, 1) := by decide +kernel
theorem dL_isWell_215 : decode cL_isWell 215 = .ok (.if_icmp .ne 10, 3) := by decide +kernel
theorem dL_isWell_218 : decode cL_isWell 218 = .ok (.iconst 1, 1) := by decide +kernel
theorem dL_isWell_219 : decode cL_isWell 219 = .ok (.iload 10, 2) := by decide +kernel
theorem dL_isWell_221 : decode cL_isWell 221 = .ok (.isub, 1) := by decide +kernel
theorem dL_isWell_222 : decode cL_isWell 222 = .ok (.goto 5, 3) := by decide +kernel
theorem dL_isWell_225 : decode cL_isWell 225 = .ok (.iload 10, 2) := by decide +kernel
theorem dL_isWell_227 : decode cL_isWell 227 = .ok (.if_icmp .ne 7, 3) := by decide +kernel
theorem dL_isWell_230 : decode cL_isWell 230 = .ok (.iconst 1, 1) := by decide +kernel
theorem dL_isWell_231 : decode cL_isWell 231 = .ok (.goto 4, 3) := by decide +kernel
theorem dL_isWell_234 : decode cL_isWell 234 = .ok (.iconst 0, 1) := by decide +kernel
theorem dL_isWell_235 : decode cL_isWell 235 = .ok (.istore 5, 2) := by decide +kernel
theorem dL_isWell_237 : decode cL_isWell 237 = .ok (.iconst 0, 1) := by decide +kernel
theorem dL_isWell_238 : decode cL_isWell 238 = .ok (.istore 13, 2) := by decide +kernel
theorem dL_isWell_240 : decode cL_isWell 240 = .ok (.iconst 0, 1) := by decide +kernel
theorem dL_isWell_241 : decode cL_isWell 241 = .ok (.istore 14, 2) := by decide +kernel
theorem dL_isWell_243 : decode cL_isWell 243 = .ok (.iconst 0, 1) := by decide +kernel
theorem dL_isWell_244 : decode cL_isWell 244 = .ok (.istore 15, 2) := by decide +kernel
theorem dL_isWell_246 : decode cL_isWell 246 = .ok (.iload 15, 2) := by decide +kernel
theorem dL_isWell_248 : decode cL_isWell 248 = .ok (.iload_n 3, 1) := by decide +kernel
theorem dL_isWell_249 : decode cL_isWell 249 = .ok (.if_icmp .ge 78, 3) := by decide +kernel
theorem dL_isWell_252 : decode cL_isWell 252 = .ok (.iload 11, 2) := by decide +kernel
theorem dL_isWell_254 : decode cL_isWell 254 = .ok (.ifCond .eq 73, 3) := by decide +kernel
theorem dL_isWell_257 : decode cL_isWell 257 = .ok (.iload 12, 2) := by decide +kernel
theorem dL_isWell_259 : decode cL_isWell 259 = .ok (.iload 15, 2) := by decide +kernel
theorem dL_isWell_261 : decode cL_isWell 261 = .ok (.ishr, 1) := by decide +kernel
theorem dL_isWell_262 : decode cL_isWell 262 = .ok (.iconst 1, 1) := by decide +kernel
theorem dL_isWell_263 : decode cL_isWell 263 = .ok (.iand, 1) := by decide +kernel
theorem dL_isWell_264 : decode cL_isWell 264 = .ok (.iconst 1, 1) := by decide +kernel
theorem dL_isWell_265 : decode cL_isWell 265 = .ok (.if_icmp .ne 56, 3) := by decide +kernel
theorem dL_isWell_268 : decode cL_isWell 268 = .ok (.iload 13, 2) := by decide +kernel
theorem dL_isWell_270 : decode cL_isWell 270 = .ok (.aload_n 0, 1) := by decide +kernel
theorem dL_isWell_271 : decode cL_isWell 271 = .ok (.iload 15, 2) := by decide +kernel
theorem dL_isWell_273 : decode cL_isWell 273 = .ok (.iconst 0, 1) := by decide +kernel
theorem dL_isWell_274 : decode cL_isWell 274 = .ok (.invokevirtual 43, 3) := by decide +kernel
theorem dL_isWell_277 : decode cL_isWell 277 = .ok (.ixor, 1) := by decide +kernel
theorem dL_isWell_278 : decode cL_isWell 278 = .ok (.istore 13, 2) := by decide +kernel
theorem dL_isWell_280 : decode cL_isWell 280 = .ok (.iload 14, 2) := by decide +kernel
theorem dL_isWell_282 : decode cL_isWell 282 = .ok (.aload_n 0, 1) := by decide +kernel
theorem dL_isWell_283 : decode cL_isWell 283 = .ok (.iload 15, 2) := by decide +kernel
theorem dL_isWell_285 : decode cL_isWell 285 = .ok (.iconst 1, 1) := by decide +kernel
theorem dL_isWell_286 : decode cL_isWell 286 = .ok (.invokevirtual 43, 3) := by decide +kernel
theorem dL_isWell_289 : decode cL_isWell 289 = .ok (.ixor, 1) := by decide +kernel
theorem dL_isWell_290 : decode cL_isWell 290 = .ok (.istore 14, 2) := by decide +kernel
theorem dL_isWell_292 : decode cL_isWell 292 = .ok (.iload 5, 2) := by decide +kernel
theorem dL_isWell_294 : decode cL_isWell 294 = .ok (.ifCond .eq 24, 3) := by decide +kernel
theorem dL_isWell_297 : decode cL_isWell 297 = .ok (.iload 15, 2) := by decide +kernel
theorem dL_isWell_299 : decode cL_isWell 299 = .ok (.iload 8, 2) := by decide +kernel
theorem dL_isWell_301 : decode cL_isWell 301 = .ok (.if_icmp .ge 17, 3) := by decide +kernel
theorem dL_isWell_304 : decode cL_isWell 304 = .ok (.aload_n 0, 1) := by decide +kernel
theorem dL_isWell_305 : decode cL_isWell 305 = .ok (.iload 15, 2) := by decide +kernel
theorem dL_isWell_307 : decode cL_isWell 307 = .ok (.iconst 2, 1) := by decide +kernel
theorem dL_isWell_308 : decode cL_isWell 308 = .ok (.invokevirtual 43, 3) := by decide +kernel
theorem dL_isWell_311 : decode cL_isWell 311 = .ok (.ifCond .ne 7, 3) := by decide +kernel
theorem dL_isWell_314 : decode cL_isWell 314 = .ok (.iconst 1, 1) := by decide +kernel
theorem dL_isWell_315 : decode cL_isWell 315 = .ok (.goto 4, 3) := by decide +kernel
theorem dL_isWell_318 : decode cL_isWell 318 = .ok (.iconst 0, 1) := by decide +kernel
theorem dL_isWell_319 : decode cL_isWell 319 = .ok (.istore 5, 2) := by decide +kernel
theorem dL_isWell_321 : decode cL_isWell 321 = .ok (.iinc 15 1, 3) := by decide +kernel
theorem dL_isWell_324 : decode cL_isWell 324 = .ok (.goto (-78), 3) := by decide +kernel
theorem dL_isWell_327 : decode cL_isWell 327 = .ok (.iload 5, 2) := by decide +kernel
theorem dL_isWell_329 : decode cL_isWell 329 = .ok (.ifCond .eq 55, 3) := by decide +kernel
theorem dL_isWell_332 : decode cL_isWell 332 = .ok (.iload 11, 2) := by decide +kernel
theorem dL_isWell_334 : decode cL_isWell 334 = .ok (.ifCond .ne 13, 3) := by decide +kernel
theorem dL_isWell_337 : decode cL_isWell 337 = .ok (.iload 12, 2) := by decide +kernel
theorem dL_isWell_339 : decode cL_isWell 339 = .ok (.bipush (-6), 2) := by decide +kernel
theorem dL_isWell_341 : decode cL_isWell 341 = .ok (.if_icmp .ne 43, 3) := by decide +kernel
theorem dL_isWell_344 : decode cL_isWell 344 = .ok (.goto 36, 3) := by decide +kernel
theorem dL_isWell_347 : decode cL_isWell 347 = .ok (.iload 13, 2) := by decide +kernel
theorem dL_isWell_349 : decode cL_isWell 349 = .ok (.iload 9, 2) := by decide +kernel
theorem dL_isWell_351 : decode cL_isWell 351 = .ok (.if_icmp .ne 33, 3) := by decide +kernel
theorem dL_isWell_354 : decode cL_isWell 354 = .ok (.iload 14, 2) := by decide +kernel
theorem dL_isWell_356 : decode cL_isWell 356 = .ok (.iload 10, 2) := by decide +kernel
theorem dL_isWell_358 : decode cL_isWell 358 = .ok (.if_icmp .ne 7, 3) := by decide +kernel
theorem dL_isWell_361 : decode cL_isWell 361 = .ok (.iconst 1, 1) := by decide +kernel
theorem dL_isWell_362 : decode cL_isWell 362 = .ok (.goto 4, 3) := by decide +kernel
theorem dL_isWell_365 : decode cL_isWell 365 = .ok (.iconst 0, 1) := by decide +kernel
theorem dL_isWell_366 : decode cL_isWell 366 = .ok (.iload 11, 2) := by decide +kernel
theorem dL_isWell_368 : decode cL_isWell 368 = .ok (.iconst 1, 1) := by decide +kernel
theorem dL_isWell_369 : decode cL_isWell 369 = .ok (.if_icmp .ne 7, 3) := by decide +kernel
theorem dL_isWell_372 : decode cL_isWell 372 = .ok (.iconst 1, 1) := by decide +kernel
theorem dL_isWell_373 : decode cL_isWell 373 = .ok (.goto 4, 3) := by decide +kernel
theorem dL_isWell_376 : decode cL_isWell 376 = .ok (.iconst 0, 1) := by decide +kernel
theorem dL_isWell_377 : decode cL_isWell 377 = .ok (.if_icmp .ne 7, 3) := by decide +kernel
theorem dL_isWell_380 : decode cL_isWell 380 = .ok (.iconst 1, 1) := by decide +kernel
theorem dL_isWell_381 : decode cL_isWell 381 = .ok (.goto 4, 3) := by decide +kernel
theorem dL_isWell_384 : decode cL_isWell 384 = .ok (.iconst 0, 1) := by decide +kernel
theorem dL_isWell_385 : decode cL_isWell 385 = .ok (.istore 5, 2) := by decide +kernel
theorem dL_isWell_387 : decode cL_isWell 387 = .ok (.iinc 8 1, 3) := by decide +kernel
theorem dL_isWell_390 : decode cL_isWell 390 = .ok (.goto (-295), 3) := by decide +kernel
theorem dL_isWell_393 : decode cL_isWell 393 = .ok (.iload 6, 2) := by decide +kernel
theorem dL_isWell_395 : decode cL_isWell 395 = .ok (.iload 7, 2) := by decide +kernel
theorem dL_isWell_397 : decode cL_isWell 397 = .ok (.ixor, 1) := by decide +kernel
theorem dL_isWell_398 : decode cL_isWell 398 = .ok (.aload_n 0, 1) := by decide +kernel
theorem dL_isWell_399 : decode cL_isWell 399 = .ok (.iconst 0, 1) := by decide +kernel
theorem dL_isWell_400 : decode cL_isWell 400 = .ok (.invokevirtual 68, 3) := by decide +kernel
theorem dL_isWell_403 : decode cL_isWell 403 = .ok (.ixor, 1) := by decide +kernel
theorem dL_isWell_404 : decode cL_isWell 404 = .ok (.istore 8, 2) := by decide +kernel
theorem dL_isWell_406 : decode cL_isWell 406 = .ok (.iload 5, 2) := by decide +kernel
theorem dL_isWell_408 : decode cL_isWell 408 = .ok (.ifCond .eq 81, 3) := by decide +kernel
theorem dL_isWell_411 : decode cL_isWell 411 = .ok (.aload_n 0, 1) := by decide +kernel
theorem dL_isWell_412 : decode cL_isWell 412 = .ok (.iload 8, 2) := by decide +kernel
theorem dL_isWell_414 : decode cL_isWell 414 = .ok (.iconst 1, 1) := by decide +kernel
theorem dL_isWell_415 : decode cL_isWell 415 = .ok (.invokevirtual 62, 3) := by decide +kernel
theorem dL_isWell_418 : decode cL_isWell 418 = .ok (.ifCond .ne 71, 3) := by decide +kernel
theorem dL_isWell_421 : decode cL_isWell 421 = .ok (.aload_n 0, 1) := by decide +kernel
theorem dL_isWell_422 : decode cL_isWell 422 = .ok (.iload 8, 2) := by decide +kernel
theorem dL_isWell_424 : decode cL_isWell 424 = .ok (.iconst 0, 1) := by decide +kernel
theorem dL_isWell_425 : decode cL_isWell 425 = .ok (.invokevirtual 62, 3) := by decide +kernel
theorem dL_isWell_428 : decode cL_isWell 428 = .ok (.iload 8, 2) := by decide +kernel
theorem dL_isWell_430 : decode cL_isWell 430 = .ok (.if_icmp .ne 59, 3) := by decide +kernel
theorem dL_isWell_433 : decode cL_isWell 433 = .ok (.aload_n 0, 1) := by decide +kernel
theorem dL_isWell_434 : decode cL_isWell 434 = .ok (.iconst 3, 1) := by decide +kernel
theorem dL_isWell_435 : decode cL_isWell 435 = .ok (.invokevirtual 9, 3) := by decide +kernel
theorem dL_isWell_438 : decode cL_isWell 438 = .ok (.ifCond .gt 34, 3) := by decide +kernel
theorem dL_isWell_441 : decode cL_isWell 441 = .ok (.aload_n 0, 1) := by decide +kernel
theorem dL_isWell_442 : decode cL_isWell 442 = .ok (.iconst 1, 1) := by decide +kernel
theorem dL_isWell_443 : decode cL_isWell 443 = .ok (.invokevirtual 65, 3) := by decide +kernel
theorem dL_isWell_446 : decode cL_isWell 446 = .ok (.ifCond .ne 43, 3) := by decide +kernel
theorem dL_isWell_449 : decode cL_isWell 449 = .ok (.aload_n 0, 1) := by decide +kernel
theorem dL_isWell_450 : decode cL_isWell 450 = .ok (.iconst 0, 1) := by decide +kernel
theorem dL_isWell_451 : decode cL_isWell 451 = .ok (.invokevirtual 65, 3) := by decide +kernel
theorem dL_isWell_454 : decode cL_isWell 454 = .ok (.aload_n 0, 1) := by decide +kernel
theorem dL_isWell_455 : decode cL_isWell 455 = .ok (.iconst 0, 1) := by decide +kernel
theorem dL_isWell_456 : decode cL_isWell 456 = .ok (.invokevirtual 68, 3) := by decide +kernel
theorem dL_isWell_459 : decode cL_isWell 459 = .ok (.if_icmp .ne 30, 3) := by decide +kernel
theorem dL_isWell_462 : decode cL_isWell 462 = .ok (.aload_n 0, 1) := by decide +kernel
theorem dL_isWell_463 : decode cL_isWell 463 = .ok (.iconst 2, 1) := by decide +kernel
theorem dL_isWell_464 : decode cL_isWell 464 = .ok (.invokevirtual 65, 3) := by decide +kernel
theorem dL_isWell_467 : decode cL_isWell 467 = .ok (.iload 4, 2) := by decide +kernel
theorem dL_isWell_469 : decode cL_isWell 469 = .ok (.if_icmp .ne 20, 3) := by decide +kernel
theorem dL_isWell_472 : decode cL_isWell 472 = .ok (.aload_n 0, 1) := by decide +kernel
theorem dL_isWell_473 : decode cL_isWell 473 = .ok (.iconst 1, 1) := by decide +kernel
theorem dL_isWell_474 : decode cL_isWell 474 = .ok (.invokevirtual 65, 3) := by decide +kernel
theorem dL_isWell_477 : decode cL_isWell 477 = .ok (.aload_n 0, 1) := by decide +kernel
theorem dL_isWell_478 : decode cL_isWell 478 = .ok (.iconst 3, 1) := by decide +kernel
theorem dL_isWell_479 : decode cL_isWell 479 = .ok (.invokevirtual 9, 3) := by decide +kernel
theorem dL_isWell_482 : decode cL_isWell 482 = .ok (.if_icmp .gt 7, 3) := by decide +kernel
theorem dL_isWell_485 : decode cL_isWell 485 = .ok (.iconst 1, 1) := by decide +kernel
theorem dL_isWell_486 : decode cL_isWell 486 = .ok (.goto 4, 3) := by decide +kernel
theorem dL_isWell_489 : decode cL_isWell 489 = .ok (.iconst 0, 1) := by decide +kernel
theorem dL_isWell_490 : decode cL_isWell 490 = .ok (.ireturn, 1) := by decide +kernel
