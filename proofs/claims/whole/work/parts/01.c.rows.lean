theorem dX0_init_0 : decode cX0_init 0 = .ok (.aload_n 0, 1) := by decide +kernel
theorem dX0_init_1 : decode cX0_init 1 = .ok (.invokespecial 3, 3) := by decide +kernel
theorem dX0_init_4 : decode cX0_init 4 = .ok (.aload_n 0, 1) := by decide +kernel
theorem dX0_init_5 : decode cX0_init 5 = .ok (.bipush 12, 2) := by decide +kernel
theorem dX0_init_7 : decode cX0_init 7 = .ok (.newarray .int, 2) := by decide +kernel
theorem dX0_init_9 : decode cX0_init 9 = .ok (.putfield 9, 3) := by decide +kernel
theorem dX0_init_12 : decode cX0_init 12 = .ok (.return_, 1) := by decide +kernel
set_option maxRecDepth 20000 in
theorem ggX0_find_X0_fillExchanges : GoodIn wsX0_find wsX0_fillExchanges := goodIn_r _ [10, 4, 11, 12, 5, 13, 14, 15, 16, 17, 18, 19, 20, 21, 22, 34, 35, 36, 37, 30, 31, 32, 33] (by decide +kernel) (by decide +kernel)
set_option maxRecDepth 20000 in
theorem gX0_find_X0_fillExchanges : GoodIn wsX0_find (wsV RX0 15 RX0 yX0_fillExchanges wsX0_fillExchanges) := goodIn_app (goodIn_of _ (by decide +kernel)) ggX0_find_X0_fillExchanges
set_option maxRecDepth 20000 in
theorem ggX0_find_X0_brokenByNone : GoodIn wsX0_find wsX0_brokenByNone := goodIn_r _ [25, 11, 26, 34, 35, 36, 37] (by decide +kernel) (by decide +kernel)
set_option maxRecDepth 20000 in
theorem gX0_find_X0_brokenByNone : GoodIn wsX0_find (va_wsS RX0 19 yX0_brokenByNone wsX0_brokenByNone) := goodIn_app (goodIn_of _ (by decide +kernel)) ggX0_find_X0_brokenByNone
set_option maxRecDepth 20000 in
theorem ggX0_find_J6_bitCount_0f7a4 : GoodIn wsX0_find wsJ6_bitCount_0f7a4 := goodIn_r _ [19, 20, 21, 22] (by decide +kernel) (by decide +kernel)
set_option maxRecDepth 20000 in
theorem gX0_find_J6_bitCount_0f7a4 : GoodIn wsX0_find (va_wsS RX0 27 yJ6_bitCount_0f7a4 wsJ6_bitCount_0f7a4) := goodIn_app (goodIn_of _ (by decide +kernel)) ggX0_find_J6_bitCount_0f7a4
set_option maxRecDepth 20000 in
theorem ggX0_find_X5_lowestBit : GoodIn wsX0_find wsX5_lowestBit := goodIn_r _ [29, 16, 17, 18, 19, 20, 21, 22] (by decide +kernel) (by decide +kernel)
set_option maxRecDepth 20000 in
theorem gX0_find_X5_lowestBit_n44 : GoodIn wsX0_find (wsX5_lowestBit) := ggX0_find_X5_lowestBit
theorem dX0_find_0 : decode cX0_find 0 = .ok (.aload_n 0, 1) := by decide +kernel
theorem dX0_find_1 : decode cX0_find 1 = .ok (.aload_n 1, 1) := by decide +kernel
theorem dX0_find_2 : decode cX0_find 2 = .ok (.invokevirtual 15, 3) := by decide +kernel
theorem dX0_find_5 : decode cX0_find 5 = .ok (.aload_n 1, 1) := by decide +kernel
theorem dX0_find_6 : decode cX0_find 6 = .ok (.invokestatic 19, 3) := by decide +kernel
theorem dX0_find_9 : decode cX0_find 9 = .ok (.istore_n 2, 1) := by decide +kernel
theorem dX0_find_10 : decode cX0_find 10 = .ok (.aload_n 0, 1) := by decide +kernel
theorem dX0_find_11 : decode cX0_find 11 = .ok (.iconst 0, 1) := by decide +kernel
theorem dX0_find_12 : decode cX0_find 12 = .ok (.putfield 23, 3) := by decide +kernel
theorem dX0_find_15 : decode cX0_find 15 = .ok (.aload_n 0, 1) := by decide +kernel
theorem dX0_find_16 : decode cX0_find 16 = .ok (.iload_n 2, 1) := by decide +kernel
theorem dX0_find_17 : decode cX0_find 17 = .ok (.invokestatic 27, 3) := by decide +kernel
theorem dX0_find_20 : decode cX0_find 20 = .ok (.putfield 33, 3) := by decide +kernel
theorem dX0_find_23 : decode cX0_find 23 = .ok (.aload_n 0, 1) := by decide +kernel
theorem dX0_find_24 : decode cX0_find 24 = .ok (.iconst 1, 1) := by decide +kernel
theorem dX0_find_25 : decode cX0_find 25 = .ok (.putfield 36, 3) := by decide +kernel
theorem dX0_find_28 : decode cX0_find 28 = .ok (.iconst 1, 1) := by decide +kernel
theorem dX0_find_29 : decode cX0_find 29 = .ok (.aload_n 1, 1) := by decide +kernel
theorem dX0_find_30 : decode cX0_find 30 = .ok (.getfield 39, 3) := by decide +kernel
theorem dX0_find_33 : decode cX0_find 33 = .ok (.ishl, 1) := by decide +kernel
theorem dX0_find_34 : decode cX0_find 34 = .ok (.iconst 1, 1) := by decide +kernel
theorem dX0_find_35 : decode cX0_find 35 = .ok (.isub, 1) := by decide +kernel
theorem dX0_find_36 : decode cX0_find 36 = .ok (.istore_n 3, 1) := by decide +kernel
theorem dX0_find_37 : decode cX0_find 37 = .ok (.iconst 1, 1) := by decide +kernel
theorem dX0_find_38 : decode cX0_find 38 = .ok (.istore 4, 2) := by decide +kernel
theorem dX0_find_40 : decode cX0_find 40 = .ok (.iload 4, 2) := by decide +kernel
theorem dX0_find_42 : decode cX0_find 42 = .ok (.iload_n 3, 1) := by decide +kernel
theorem dX0_find_43 : decode cX0_find 43 = .ok (.if_icmp .gt 76, 3) := by decide +kernel
theorem dX0_find_46 : decode cX0_find 46 = .ok (.iload_n 2, 1) := by decide +kernel
theorem dX0_find_47 : decode cX0_find 47 = .ok (.aload_n 0, 1) := by decide +kernel
theorem dX0_find_48 : decode cX0_find 48 = .ok (.getfield 9, 3) := by decide +kernel
theorem dX0_find_51 : decode cX0_find 51 = .ok (.iload 4, 2) := by decide +kernel
theorem dX0_find_53 : decode cX0_find 53 = .ok (.invokestatic 44, 3) := by decide +kernel
theorem dX0_find_56 : decode cX0_find 56 = .ok (.iaload, 1) := by decide +kernel
theorem dX0_find_57 : decode cX0_find 57 = .ok (.ixor, 1) := by decide +kernel
theorem dX0_find_58 : decode cX0_find 58 = .ok (.istore_n 2, 1) := by decide +kernel
theorem dX0_find_59 : decode cX0_find 59 = .ok (.iload_n 2, 1) := by decide +kernel
theorem dX0_find_60 : decode cX0_find 60 = .ok (.invokestatic 27, 3) := by decide +kernel
theorem dX0_find_63 : decode cX0_find 63 = .ok (.istore 5, 2) := by decide +kernel
theorem dX0_find_65 : decode cX0_find 65 = .ok (.iload 5, 2) := by decide +kernel
theorem dX0_find_67 : decode cX0_find 67 = .ok (.aload_n 0, 1) := by decide +kernel
theorem dX0_find_68 : decode cX0_find 68 = .ok (.getfield 33, 3) := by decide +kernel
theorem dX0_find_71 : decode cX0_find 71 = .ok (.if_icmp .ge 23, 3) := by decide +kernel
theorem dX0_find_74 : decode cX0_find 74 = .ok (.aload_n 0, 1) := by decide +kernel
theorem dX0_find_75 : decode cX0_find 75 = .ok (.iload 4, 2) := by decide +kernel
theorem dX0_find_77 : decode cX0_find 77 = .ok (.putfield 23, 3) := by decide +kernel
theorem dX0_find_80 : decode cX0_find 80 = .ok (.aload_n 0, 1) := by decide +kernel
theorem dX0_find_81 : decode cX0_find 81 = .ok (.iload 5, 2) := by decide +kernel
theorem dX0_find_83 : decode cX0_find 83 = .ok (.putfield 33, 3) := by decide +kernel
theorem dX0_find_86 : decode cX0_find 86 = .ok (.aload_n 0, 1) := by decide +kernel
theorem dX0_find_87 : decode cX0_find 87 = .ok (.iconst 1, 1) := by decide +kernel
theorem dX0_find_88 : decode cX0_find 88 = .ok (.putfield 36, 3) := by decide +kernel
theorem dX0_find_91 : decode cX0_find 91 = .ok (.goto 22, 3) := by decide +kernel
theorem dX0_find_94 : decode cX0_find 94 = .ok (.iload 5, 2) := by decide +kernel
theorem dX0_find_96 : decode cX0_find 96 = .ok (.aload_n 0, 1) := by decide +kernel
theorem dX0_find_97 : decode cX0_find 97 = .ok (.getfield 33, 3) := by decide +kernel
theorem dX0_find_100 : decode cX0_find 100 = .ok (.if_icmp .ne 13, 3) := by decide +kernel
theorem dX0_find_103 : decode cX0_find 103 = .ok (.aload_n 0, 1) := by decide +kernel
theorem dX0_find_104 : decode cX0_find 104 = .ok (.dup, 1) := by decide +kernel
theorem dX0_find_105 : decode cX0_find 105 = .ok (.getfield 36, 3) := by decide +kernel
theorem dX0_find_108 : decode cX0_find 108 = .ok (.iconst 1, 1) := by decide +kernel
theorem dX0_find_109 : decode cX0_find 109 = .ok (.iadd, 1) := by decide +kernel
theorem dX0_find_110 : decode cX0_find 110 = .ok (.putfield 36, 3) := by decide +kernel
theorem dX0_find_113 : decode cX0_find 113 = .ok (.iinc 4 1, 3) := by decide +kernel
theorem dX0_find_116 : decode cX0_find 116 = .ok (.goto (-76), 3) := by decide +kernel
theorem dX0_find_119 : decode cX0_find 119 = .ok (.return_, 1) := by decide +kernel
theorem dX0_brokenByNone_0 : decode cX0_brokenByNone 0 = .ok (.iconst 0, 1) := by decide +kernel
theorem dX0_brokenByNone_1 : decode cX0_brokenByNone 1 = .ok (.istore_n 1, 1) := by decide +kernel
theorem dX0_brokenByNone_2 : decode cX0_brokenByNone 2 = .ok (.iconst 0, 1) := by decide +kernel
theorem dX0_brokenByNone_3 : decode cX0_brokenByNone 3 = .ok (.istore_n 2, 1) := by decide +kernel
theorem dX0_brokenByNone_4 : decode cX0_brokenByNone 4 = .ok (.iload_n 2, 1) := by decide +kernel
theorem dX0_brokenByNone_5 : decode cX0_brokenByNone 5 = .ok (.aload_n 0, 1) := by decide +kernel
theorem dX0_brokenByNone_6 : decode cX0_brokenByNone 6 = .ok (.getfield 47, 3) := by decide +kernel
theorem dX0_brokenByNone_9 : decode cX0_brokenByNone 9 = .ok (.if_icmp .ge 20, 3) := by decide +kernel
theorem dX0_brokenByNone_12 : decode cX0_brokenByNone 12 = .ok (.iload_n 1, 1) := by decide +kernel
theorem dX0_brokenByNone_13 : decode cX0_brokenByNone 13 = .ok (.aload_n 0, 1) := by decide +kernel
theorem dX0_brokenByNone_14 : decode cX0_brokenByNone 14 = .ok (.getfield 50, 3) := by decide +kernel
theorem dX0_brokenByNone_17 : decode cX0_brokenByNone 17 = .ok (.iload_n 2, 1) := by decide +kernel
theorem dX0_brokenByNone_18 : decode cX0_brokenByNone 18 = .ok (.iaload, 1) := by decide +kernel
theorem dX0_brokenByNone_19 : decode cX0_brokenByNone 19 = .ok (.iload_n 2, 1) := by decide +kernel
theorem dX0_brokenByNone_20 : decode cX0_brokenByNone 20 = .ok (.ishl, 1) := by decide +kernel
theorem dX0_brokenByNone_21 : decode cX0_brokenByNone 21 = .ok (.ior, 1) := by decide +kernel
theorem dX0_brokenByNone_22 : decode cX0_brokenByNone 22 = .ok (.istore_n 1, 1) := by decide +kernel
theorem dX0_brokenByNone_23 : decode cX0_brokenByNone 23 = .ok (.iinc 2 1, 3) := by decide +kernel
theorem dX0_brokenByNone_26 : decode cX0_brokenByNone 26 = .ok (.goto (-22), 3) := by decide +kernel
theorem dX0_brokenByNone_29 : decode cX0_brokenByNone 29 = .ok (.iload_n 1, 1) := by decide +kernel
theorem dX0_brokenByNone_30 : decode cX0_brokenByNone 30 = .ok (.ireturn, 1) := by decide +kernel
set_option maxRecDepth 20000 in
theorem ggX0_fillExchanges_X5_parity : GoodIn wsX0_fillExchanges wsX5_parity := goodIn_r _ [7, 8, 9, 10, 11, 12, 13, 14] (by decide +kernel) (by decide +kernel)
set_option maxRecDepth 20000 in
theorem gX0_fillExchanges_X5_parity_n56 : GoodIn wsX0_fillExchanges (wsX5_parity) := ggX0_fillExchanges_X5_parity
theorem dX0_fillExchanges_0 : decode cX0_fillExchanges 0 = .ok (.iconst 0, 1) := by decide +kernel
theorem dX0_fillExchanges_1 : decode cX0_fillExchanges 1 = .ok (.istore_n 2, 1) := by decide +kernel
theorem dX0_fillExchanges_2 : decode cX0_fillExchanges 2 = .ok (.iload_n 2, 1) := by decide +kernel
theorem dX0_fillExchanges_3 : decode cX0_fillExchanges 3 = .ok (.aload_n 1, 1) := by decide +kernel
theorem dX0_fillExchanges_4 : decode cX0_fillExchanges 4 = .ok (.getfield 39, 3) := by decide +kernel
theorem dX0_fillExchanges_7 : decode cX0_fillExchanges 7 = .ok (.if_icmp .ge 64, 3) := by decide +kernel
theorem dX0_fillExchanges_10 : decode cX0_fillExchanges 10 = .ok (.iconst 2, 1) := by decide +kernel
theorem dX0_fillExchanges_11 : decode cX0_fillExchanges 11 = .ok (.iload_n 2, 1) := by decide +kernel
theorem dX0_fillExchanges_12 : decode cX0_fillExchanges 12 = .ok (.ishl, 1) := by decide +kernel
theorem dX0_fillExchanges_13 : decode cX0_fillExchanges 13 = .ok (.iconst 1, 1) := by decide +kernel
theorem dX0_fillExchanges_14 : decode cX0_fillExchanges 14 = .ok (.isub, 1) := by decide +kernel
theorem dX0_fillExchanges_15 : decode cX0_fillExchanges 15 = .ok (.istore_n 3, 1) := by decide +kernel
theorem dX0_fillExchanges_16 : decode cX0_fillExchanges 16 = .ok (.iconst 0, 1) := by decide +kernel
theorem dX0_fillExchanges_17 : decode cX0_fillExchanges 17 = .ok (.istore 4, 2) := by decide +kernel
theorem dX0_fillExchanges_19 : decode cX0_fillExchanges 19 = .ok (.iconst 0, 1) := by decide +kernel
theorem dX0_fillExchanges_20 : decode cX0_fillExchanges 20 = .ok (.istore 5, 2) := by decide +kernel
theorem dX0_fillExchanges_22 : decode cX0_fillExchanges 22 = .ok (.iload 5, 2) := by decide +kernel
theorem dX0_fillExchanges_24 : decode cX0_fillExchanges 24 = .ok (.aload_n 1, 1) := by decide +kernel
theorem dX0_fillExchanges_25 : decode cX0_fillExchanges 25 = .ok (.getfield 47, 3) := by decide +kernel
theorem dX0_fillExchanges_28 : decode cX0_fillExchanges 28 = .ok (.if_icmp .ge 29, 3) := by decide +kernel
theorem dX0_fillExchanges_31 : decode cX0_fillExchanges 31 = .ok (.iload 4, 2) := by decide +kernel
theorem dX0_fillExchanges_33 : decode cX0_fillExchanges 33 = .ok (.aload_n 1, 1) := by decide +kernel
theorem dX0_fillExchanges_34 : decode cX0_fillExchanges 34 = .ok (.getfield 53, 3) := by decide +kernel
theorem dX0_fillExchanges_37 : decode cX0_fillExchanges 37 = .ok (.iload 5, 2) := by decide +kernel
theorem dX0_fillExchanges_39 : decode cX0_fillExchanges 39 = .ok (.iaload, 1) := by decide +kernel
theorem dX0_fillExchanges_40 : decode cX0_fillExchanges 40 = .ok (.iload_n 3, 1) := by decide +kernel
theorem dX0_fillExchanges_41 : decode cX0_fillExchanges 41 = .ok (.iand, 1) := by decide +kernel
theorem dX0_fillExchanges_42 : decode cX0_fillExchanges 42 = .ok (.invokestatic 56, 3) := by decide +kernel
theorem dX0_fillExchanges_45 : decode cX0_fillExchanges 45 = .ok (.iload 5, 2) := by decide +kernel
theorem dX0_fillExchanges_47 : decode cX0_fillExchanges 47 = .ok (.ishl, 1) := by decide +kernel
theorem dX0_fillExchanges_48 : decode cX0_fillExchanges 48 = .ok (.ior, 1) := by decide +kernel
theorem dX0_fillExchanges_49 : decode cX0_fillExchanges 49 = .ok (.istore 4, 2) := by decide +kernel
theorem dX0_fillExchanges_51 : decode cX0_fillExchanges 51 = .ok (.iinc 5 1, 3) := by decide +kernel
theorem dX0_fillExchanges_54 : decode cX0_fillExchanges 54 = .ok (.goto (-32), 3) := by decide +kernel
theorem dX0_fillExchanges_57 : decode cX0_fillExchanges 57 = .ok (.aload_n 0, 1) := by decide +kernel
theorem dX0_fillExchanges_58 : decode cX0_fillExchanges 58 = .ok (.getfield 9, 3) := by decide +kernel
theorem dX0_fillExchanges_61 : decode cX0_fillExchanges 61 = .ok (.iload_n 2, 1) := by decide +kernel
theorem dX0_fillExchanges_62 : decode cX0_fillExchanges 62 = .ok (.iload 4, 2) := by decide +kernel
theorem dX0_fillExchanges_64 : decode cX0_fillExchanges 64 = .ok (.iastore, 1) := by decide +kernel
theorem dX0_fillExchanges_65 : decode cX0_fillExchanges 65 = .ok (.iinc 2 1, 3) := by decide +kernel
theorem dX0_fillExchanges_68 : decode cX0_fillExchanges 68 = .ok (.goto (-66), 3) := by decide +kernel
theorem dX0_fillExchanges_71 : decode cX0_fillExchanges 71 = .ok (.return_, 1) := by decide +kernel
set_option maxRecDepth 20000 in
theorem ggX1_init_X3_init : GoodIn wsX1_init wsX3_init := goodIn_r _ [9, 10, 2, 3, 11, 12, 13, 14, 17, 18, 19, 20] (by decide +kernel) (by decide +kernel)
set_option maxRecDepth 20000 in
theorem gX1_init_X3_init_n17 : GoodIn wsX1_init (wsX3_init) := ggX1_init_X3_init
theorem dX1_init_0 : decode cX1_init 0 = .ok (.aload_n 0, 1) := by decide +kernel
theorem dX1_init_1 : decode cX1_init 1 = .ok (.invokespecial 3, 3) := by decide +kernel
theorem dX1_init_4 : decode cX1_init 4 = .ok (.aload_n 0, 1) := by decide +kernel
theorem dX1_init_5 : decode cX1_init 5 = .ok (.bipush 6, 2) := by decide +kernel
theorem dX1_init_7 : decode cX1_init 7 = .ok (.anewarray 9, 3) := by decide +kernel
theorem dX1_init_10 : decode cX1_init 10 = .ok (.putfield 11, 3) := by decide +kernel
theorem dX1_init_13 : decode cX1_init 13 = .ok (.iconst 0, 1) := by decide +kernel
theorem dX1_init_14 : decode cX1_init 14 = .ok (.istore_n 1, 1) := by decide +kernel
theorem dX1_init_15 : decode cX1_init 15 = .ok (.iload_n 1, 1) := by decide +kernel
theorem dX1_init_16 : decode cX1_init 16 = .ok (.bipush 6, 2) := by decide +kernel
theorem dX1_init_18 : decode cX1_init 18 = .ok (.if_icmp .ge 22, 3) := by decide +kernel
theorem dX1_init_21 : decode cX1_init 21 = .ok (.aload_n 0, 1) := by decide +kernel
theorem dX1_init_22 : decode cX1_init 22 = .ok (.getfield 11, 3) := by decide +kernel
theorem dX1_init_25 : decode cX1_init 25 = .ok (.iload_n 1, 1) := by decide +kernel
theorem dX1_init_26 : decode cX1_init 26 = .ok (.new 9, 3) := by decide +kernel
theorem dX1_init_29 : decode cX1_init 29 = .ok (.dup, 1) := by decide +kernel
theorem dX1_init_30 : decode cX1_init 30 = .ok (.invokespecial 17, 3) := by decide +kernel
theorem dX1_init_33 : decode cX1_init 33 = .ok (.aastore, 1) := by decide +kernel
theorem dX1_init_34 : decode cX1_init 34 = .ok (.iinc 1 1, 3) := by decide +kernel
theorem dX1_init_37 : decode cX1_init 37 = .ok (.goto (-22), 3) := by decide +kernel
theorem dX1_init_40 : decode cX1_init 40 = .ok (.return_, 1) := by decide +kernel
set_option maxRecDepth 20000 in
theorem ggX1_remember_X1_dropOldest : GoodIn wsX1_remember wsX1_dropOldest := goodIn_r _ [7, 2, 1, 21, 22] (by decide +kernel) (by decide +kernel)
set_option maxRecDepth 20000 in
theorem gX1_remember_X1_dropOldest : GoodIn wsX1_remember (wsV RX1 22 RX1 yX1_dropOldest wsX1_dropOldest) := goodIn_app (goodIn_of _ (by decide +kernel)) ggX1_remember_X1_dropOldest
set_option maxRecDepth 20000 in
theorem ggX1_remember_X3_become : GoodIn wsX1_remember wsX3_become := goodIn_r _ [12, 13, 14, 15, 16, 17, 18, 19, 20, 23, 24, 25, 26] (by decide +kernel) (by decide +kernel)
set_option maxRecDepth 20000 in
theorem gX1_remember_X3_become : GoodIn wsX1_remember (wsV RX1 25 RX3 yX3_become wsX3_become) := goodIn_app (goodIn_of _ (by decide +kernel)) ggX1_remember_X3_become
theorem dX1_remember_0 : decode cX1_remember 0 = .ok (.aload_n 0, 1) := by decide +kernel
theorem dX1_remember_1 : decode cX1_remember 1 = .ok (.getfield 18, 3) := by decide +kernel
theorem dX1_remember_4 : decode cX1_remember 4 = .ok (.bipush 6, 2) := by decide +kernel
theorem dX1_remember_6 : decode cX1_remember 6 = .ok (.if_icmp .lt 7, 3) := by decide +kernel
theorem dX1_remember_9 : decode cX1_remember 9 = .ok (.aload_n 0, 1) := by decide +kernel
theorem dX1_remember_10 : decode cX1_remember 10 = .ok (.invokevirtual 22, 3) := by decide +kernel
theorem dX1_remember_13 : decode cX1_remember 13 = .ok (.aload_n 0, 1) := by decide +kernel
theorem dX1_remember_14 : decode cX1_remember 14 = .ok (.getfield 11, 3) := by decide +kernel
theorem dX1_remember_17 : decode cX1_remember 17 = .ok (.aload_n 0, 1) := by decide +kernel
theorem dX1_remember_18 : decode cX1_remember 18 = .ok (.getfield 18, 3) := by decide +kernel
theorem dX1_remember_21 : decode cX1_remember 21 = .ok (.aaload, 1) := by decide +kernel
theorem dX1_remember_22 : decode cX1_remember 22 = .ok (.aload_n 1, 1) := by decide +kernel
theorem dX1_remember_23 : decode cX1_remember 23 = .ok (.invokevirtual 25, 3) := by decide +kernel
theorem dX1_remember_26 : decode cX1_remember 26 = .ok (.aload_n 0, 1) := by decide +kernel
theorem dX1_remember_27 : decode cX1_remember 27 = .ok (.dup, 1) := by decide +kernel
theorem dX1_remember_28 : decode cX1_remember 28 = .ok (.getfield 18, 3) := by decide +kernel
theorem dX1_remember_31 : decode cX1_remember 31 = .ok (.iconst 1, 1) := by decide +kernel
theorem dX1_remember_32 : decode cX1_remember 32 = .ok (.iadd, 1) := by decide +kernel
theorem dX1_remember_33 : decode cX1_remember 33 = .ok (.putfield 18, 3) := by decide +kernel
theorem dX1_remember_36 : decode cX1_remember 36 = .ok (.return_, 1) := by decide +kernel
theorem dX1_dropOldest_0 : decode cX1_dropOldest 0 = .ok (.aload_n 0, 1) := by decide +kernel
theorem dX1_dropOldest_1 : decode cX1_dropOldest 1 = .ok (.getfield 11, 3) := by decide +kernel
theorem dX1_dropOldest_4 : decode cX1_dropOldest 4 = .ok (.iconst 0, 1) := by decide +kernel
theorem dX1_dropOldest_5 : decode cX1_dropOldest 5 = .ok (.aaload, 1) := by decide +kernel
theorem dX1_dropOldest_6 : decode cX1_dropOldest 6 = .ok (.astore_n 1, 1) := by decide +kernel
theorem dX1_dropOldest_7 : decode cX1_dropOldest 7 = .ok (.iconst 1, 1) := by decide +kernel
theorem dX1_dropOldest_8 : decode cX1_dropOldest 8 = .ok (.istore_n 2, 1) := by decide +kernel
theorem dX1_dropOldest_9 : decode cX1_dropOldest 9 = .ok (.iload_n 2, 1) := by decide +kernel
theorem dX1_dropOldest_10 : decode cX1_dropOldest 10 = .ok (.bipush 6, 2) := by decide +kernel
theorem dX1_dropOldest_12 : decode cX1_dropOldest 12 = .ok (.if_icmp .ge 23, 3) := by decide +kernel
theorem dX1_dropOldest_15 : decode cX1_dropOldest 15 = .ok (.aload_n 0, 1) := by decide +kernel
theorem dX1_dropOldest_16 : decode cX1_dropOldest 16 = .ok (.getfield 11, 3) := by decide +kernel
theorem dX1_dropOldest_19 : decode cX1_dropOldest 19 = .ok (.iload_n 2, 1) := by decide +kernel
theorem dX1_dropOldest_20 : decode cX1_dropOldest 20 = .ok (.iconst 1, 1) := by decide +kernel
theorem dX1_dropOldest_21 : decode cX1_dropOldest 21 = .ok (.isub, 1) := by decide +kernel
theorem dX1_dropOldest_22 : decode cX1_dropOldest 22 = .ok (.aload_n 0, 1) := by decide +kernel
theorem dX1_dropOldest_23 : decode cX1_dropOldest 23 = .ok (.getfield 11, 3) := by decide +kernel
theorem dX1_dropOldest_26 : decode cX1_dropOldest 26 = .ok (.iload_n 2, 1) := by decide +kernel
theorem dX1_dropOldest_27 : decode cX1_dropOldest 27 = .ok (.aaload, 1) := by decide +kernel
theorem dX1_dropOldest_28 : decode cX1_dropOldest 28 = .ok (.aastore, 1) := by decide +kernel
theorem dX1_dropOldest_29 : decode cX1_dropOldest 29 = .ok (.iinc 2 1, 3) := by decide +kernel
theorem dX1_dropOldest_32 : decode cX1_dropOldest 32 = .ok (.goto (-23), 3) := by decide +kernel
theorem dX1_dropOldest_35 : decode cX1_dropOldest 35 = .ok (.aload_n 0, 1) := by decide +kernel
theorem dX1_dropOldest_36 : decode cX1_dropOldest 36 = .ok (.getfield 11, 3) := by decide +kernel
theorem dX1_dropOldest_39 : decode cX1_dropOldest 39 = .ok (.iconst 5, 1) := by decide +kernel
theorem dX1_dropOldest_40 : decode cX1_dropOldest 40 = .ok (.aload_n 1, 1) := by decide +kernel
theorem dX1_dropOldest_41 : decode cX1_dropOldest 41 = .ok (.aastore, 1) := by decide +kernel
theorem dX1_dropOldest_42 : decode cX1_dropOldest 42 = .ok (.aload_n 0, 1) := by decide +kernel
theorem dX1_dropOldest_43 : decode cX1_dropOldest 43 = .ok (.iconst 5, 1) := by decide +kernel
theorem dX1_dropOldest_44 : decode cX1_dropOldest 44 = .ok (.putfield 18, 3) := by decide +kernel
theorem dX1_dropOldest_47 : decode cX1_dropOldest 47 = .ok (.return_, 1) := by decide +kernel
set_option maxRecDepth 20000 in
theorem ggX1_giveBack_X3_become : GoodIn wsX1_giveBack wsX3_become := goodIn_r _ [7, 8, 9, 10, 11, 12, 13, 14, 15, 18, 19, 20, 21] (by decide +kernel) (by decide +kernel)
set_option maxRecDepth 20000 in
theorem gX1_giveBack_X3_become : GoodIn wsX1_giveBack (wsV RX1 25 RX3 yX3_become wsX3_become) := goodIn_app (goodIn_of _ (by decide +kernel)) ggX1_giveBack_X3_become
theorem dX1_giveBack_0 : decode cX1_giveBack 0 = .ok (.aload_n 0, 1) := by decide +kernel
theorem dX1_giveBack_1 : decode cX1_giveBack 1 = .ok (.getfield 18, 3) := by decide +kernel
theorem dX1_giveBack_4 : decode cX1_giveBack 4 = .ok (.ifCond .le 26, 3) := by decide +kernel
theorem dX1_giveBack_7 : decode cX1_giveBack 7 = .ok (.aload_n 0, 1) := by decide +kernel
theorem dX1_giveBack_8 : decode cX1_giveBack 8 = .ok (.dup, 1) := by decide +kernel
theorem dX1_giveBack_9 : decode cX1_giveBack 9 = .ok (.getfield 18, 3) := by decide +kernel
theorem dX1_giveBack_12 : decode cX1_giveBack 12 = .ok (.iconst 1, 1) := by decide +kernel
theorem dX1_giveBack_13 : decode cX1_giveBack 13 = .ok (.isub, 1) := by decide +kernel
theorem dX1_giveBack_14 : decode cX1_giveBack 14 = .ok (.putfield 18, 3) := by decide +kernel
theorem dX1_giveBack_17 : decode cX1_giveBack 17 = .ok (.aload_n 1, 1) := by decide +kernel
theorem dX1_giveBack_18 : decode cX1_giveBack 18 = .ok (.aload_n 0, 1) := by decide +kernel
theorem dX1_giveBack_19 : decode cX1_giveBack 19 = .ok (.getfield 11, 3) := by decide +kernel
theorem dX1_giveBack_22 : decode cX1_giveBack 22 = .ok (.aload_n 0, 1) := by decide +kernel
theorem dX1_giveBack_23 : decode cX1_giveBack 23 = .ok (.getfield 18, 3) := by decide +kernel
theorem dX1_giveBack_26 : decode cX1_giveBack 26 = .ok (.aaload, 1) := by decide +kernel
theorem dX1_giveBack_27 : decode cX1_giveBack 27 = .ok (.invokevirtual 25, 3) := by decide +kernel
theorem dX1_giveBack_30 : decode cX1_giveBack 30 = .ok (.return_, 1) := by decide +kernel
theorem dX2_init_0 : decode cX2_init 0 = .ok (.aload_n 0, 1) := by decide +kernel
theorem dX2_init_1 : decode cX2_init 1 = .ok (.invokespecial 3, 3) := by decide +kernel
theorem dX2_init_4 : decode cX2_init 4 = .ok (.aload_n 0, 1) := by decide +kernel
theorem dX2_init_5 : decode cX2_init 5 = .ok (.bipush 80, 2) := by decide +kernel
theorem dX2_init_7 : decode cX2_init 7 = .ok (.newarray .char, 2) := by decide +kernel
theorem dX2_init_9 : decode cX2_init 9 = .ok (.putfield 9, 3) := by decide +kernel
theorem dX2_init_12 : decode cX2_init 12 = .ok (.return_, 1) := by decide +kernel
theorem dX2_append_0 : decode cX2_append 0 = .ok (.aload_n 0, 1) := by decide +kernel
theorem dX2_append_1 : decode cX2_append 1 = .ok (.getfield 15, 3) := by decide +kernel
theorem dX2_append_4 : decode cX2_append 4 = .ok (.bipush 80, 2) := by decide +kernel
theorem dX2_append_6 : decode cX2_append 6 = .ok (.if_icmp .ge 23, 3) := by decide +kernel
theorem dX2_append_9 : decode cX2_append 9 = .ok (.aload_n 0, 1) := by decide +kernel
theorem dX2_append_10 : decode cX2_append 10 = .ok (.getfield 9, 3) := by decide +kernel
theorem dX2_append_13 : decode cX2_append 13 = .ok (.aload_n 0, 1) := by decide +kernel
theorem dX2_append_14 : decode cX2_append 14 = .ok (.getfield 15, 3) := by decide +kernel
theorem dX2_append_17 : decode cX2_append 17 = .ok (.iload_n 1, 1) := by decide +kernel
theorem dX2_append_18 : decode cX2_append 18 = .ok (.castore, 1) := by decide +kernel
theorem dX2_append_19 : decode cX2_append 19 = .ok (.aload_n 0, 1) := by decide +kernel
theorem dX2_append_20 : decode cX2_append 20 = .ok (.dup, 1) := by decide +kernel
theorem dX2_append_21 : decode cX2_append 21 = .ok (.getfield 15, 3) := by decide +kernel
theorem dX2_append_24 : decode cX2_append 24 = .ok (.iconst 1, 1) := by decide +kernel
theorem dX2_append_25 : decode cX2_append 25 = .ok (.iadd, 1) := by decide +kernel
theorem dX2_append_26 : decode cX2_append 26 = .ok (.putfield 15, 3) := by decide +kernel
theorem dX2_append_29 : decode cX2_append 29 = .ok (.return_, 1) := by decide +kernel
set_option maxRecDepth 20000 in
theorem ggX2_readInto_X2_startRule : GoodIn wsX2_readInto wsX2_startRule := goodIn_r _ [9, 4, 10, 11, 41, 42, 43, 44, 45, 46] (by decide +kernel) (by decide +kernel)
set_option maxRecDepth 20000 in
theorem gX2_readInto_X2_startRule : GoodIn wsX2_readInto (wsV RX2 24 RX2 yX2_startRule wsX2_startRule) := goodIn_app (goodIn_of _ (by decide +kernel)) ggX2_readInto_X2_startRule
set_option maxRecDepth 20000 in
theorem ggX2_readInto_X2_canStand : GoodIn wsX2_readInto wsX2_canStand := goodIn_r _ [15, 4, 16, 17, 18, 8, 19, 10, 20, 21, 22, 23, 24, 11, 25, 26, 27, 28, 29, 30, 31, 32, 33, 34, 35, 36, 5, 6, 7, 9, 41, 42, 43, 44, 45, 46, 37, 38, 39, 40] (by decide +kernel) (by decide +kernel)
set_option maxRecDepth 20000 in
theorem gX2_readInto_X2_canStand : GoodIn wsX2_readInto (wsV RX2 27 RX2 yX2_canStand wsX2_canStand) := goodIn_app (goodIn_of _ (by decide +kernel)) ggX2_readInto_X2_canStand
theorem dX2_readInto_0 : decode cX2_readInto 0 = .ok (.aload_n 1, 1) := by decide +kernel
theorem dX2_readInto_1 : decode cX2_readInto 1 = .ok (.iconst 0, 1) := by decide +kernel
theorem dX2_readInto_2 : decode cX2_readInto 2 = .ok (.putfield 19, 3) := by decide +kernel
theorem dX2_readInto_5 : decode cX2_readInto 5 = .ok (.aload_n 0, 1) := by decide +kernel
theorem dX2_readInto_6 : decode cX2_readInto 6 = .ok (.invokevirtual 24, 3) := by decide +kernel
theorem dX2_readInto_9 : decode cX2_readInto 9 = .ok (.iconst 0, 1) := by decide +kernel
theorem dX2_readInto_10 : decode cX2_readInto 10 = .ok (.istore_n 2, 1) := by decide +kernel
theorem dX2_readInto_11 : decode cX2_readInto 11 = .ok (.iload_n 2, 1) := by decide +kernel
theorem dX2_readInto_12 : decode cX2_readInto 12 = .ok (.aload_n 0, 1) := by decide +kernel
theorem dX2_readInto_13 : decode cX2_readInto 13 = .ok (.getfield 15, 3) := by decide +kernel
theorem dX2_readInto_16 : decode cX2_readInto 16 = .ok (.if_icmp .ge 25, 3) := by decide +kernel
theorem dX2_readInto_19 : decode cX2_readInto 19 = .ok (.aload_n 0, 1) := by decide +kernel
theorem dX2_readInto_20 : decode cX2_readInto 20 = .ok (.aload_n 0, 1) := by decide +kernel
theorem dX2_readInto_21 : decode cX2_readInto 21 = .ok (.getfield 9, 3) := by decide +kernel
theorem dX2_readInto_24 : decode cX2_readInto 24 = .ok (.iload_n 2, 1) := by decide +kernel
theorem dX2_readInto_25 : decode cX2_readInto 25 = .ok (.caload, 1) := by decide +kernel
theorem dX2_readInto_26 : decode cX2_readInto 26 = .ok (.aload_n 1, 1) := by decide +kernel
theorem dX2_readInto_27 : decode cX2_readInto 27 = .ok (.invokevirtual 27, 3) := by decide +kernel
theorem dX2_readInto_30 : decode cX2_readInto 30 = .ok (.ifCond .ne 5, 3) := by decide +kernel
theorem dX2_readInto_33 : decode cX2_readInto 33 = .ok (.iload_n 2, 1) := by decide +kernel
theorem dX2_readInto_34 : decode cX2_readInto 34 = .ok (.ireturn, 1) := by decide +kernel
theorem dX2_readInto_35 : decode cX2_readInto 35 = .ok (.iinc 2 1, 3) := by decide +kernel
theorem dX2_readInto_38 : decode cX2_readInto 38 = .ok (.goto (-27), 3) := by decide +kernel
theorem dX2_readInto_41 : decode cX2_readInto 41 = .ok (.aload_n 0, 1) := by decide +kernel
theorem dX2_readInto_42 : decode cX2_readInto 42 = .ok (.getfield 31, 3) := by decide +kernel
theorem dX2_readInto_45 : decode cX2_readInto 45 = .ok (.iconst 3, 1) := by decide +kernel
theorem dX2_readInto_46 : decode cX2_readInto 46 = .ok (.if_icmp .ne 8, 3) := by decide +kernel
theorem dX2_readInto_49 : decode cX2_readInto 49 = .ok (.bipush (-6), 2) := by decide +kernel
theorem dX2_readInto_51 : decode cX2_readInto 51 = .ok (.goto 7, 3) := by decide +kernel
theorem dX2_readInto_54 : decode cX2_readInto 54 = .ok (.aload_n 0, 1) := by decide +kernel
theorem dX2_readInto_55 : decode cX2_readInto 55 = .ok (.getfield 15, 3) := by decide +kernel
theorem dX2_readInto_58 : decode cX2_readInto 58 = .ok (.ireturn, 1) := by decide +kernel
theorem dX2_startRule_0 : decode cX2_startRule 0 = .ok (.aload_n 0, 1) := by decide +kernel
theorem dX2_startRule_1 : decode cX2_startRule 1 = .ok (.iconst 0, 1) := by decide +kernel
theorem dX2_startRule_2 : decode cX2_startRule 2 = .ok (.putfield 31, 3) := by decide +kernel
theorem dX2_startRule_5 : decode cX2_startRule 5 = .ok (.aload_n 0, 1) := by decide +kernel
theorem dX2_startRule_6 : decode cX2_startRule 6 = .ok (.iconst (-1), 1) := by decide +kernel
theorem dX2_startRule_7 : decode cX2_startRule 7 = .ok (.putfield 34, 3) := by decide +kernel
theorem dX2_startRule_10 : decode cX2_startRule 10 = .ok (.aload_n 0, 1) := by decide +kernel
theorem dX2_startRule_11 : decode cX2_startRule 11 = .ok (.iconst 0, 1) := by decide +kernel
theorem dX2_startRule_12 : decode cX2_startRule 12 = .ok (.putfield 37, 3) := by decide +kernel
theorem dX2_startRule_15 : decode cX2_startRule 15 = .ok (.return_, 1) := by decide +kernel
set_option maxRecDepth 20000 in
theorem ggX2_canStand_X2_canStartChoice : GoodIn wsX2_canStand wsX2_canStartChoice := goodIn_r _ [6, 7, 8, 1, 30, 31, 32, 33, 34, 35] (by decide +kernel) (by decide +kernel)
set_option maxRecDepth 20000 in
theorem gX2_canStand_X2_canStartChoice : GoodIn wsX2_canStand (wsV RX2 40 RX2 yX2_canStartChoice wsX2_canStartChoice) := goodIn_app (goodIn_of _ (by decide +kernel)) ggX2_canStand_X2_canStartChoice
set_option maxRecDepth 20000 in
theorem ggX2_canStand_X2_canStandInChoice : GoodIn wsX2_canStand wsX2_canStandInChoice := goodIn_r _ [12, 8, 7, 13, 1, 30, 31, 32, 33, 34, 35] (by decide +kernel) (by decide +kernel)
set_option maxRecDepth 20000 in
theorem gX2_canStand_X2_canStandInChoice : GoodIn wsX2_canStand (wsV RX2 44 RX2 yX2_canStandInChoice wsX2_canStandInChoice) := goodIn_app (goodIn_of _ (by decide +kernel)) ggX2_canStand_X2_canStandInChoice
set_option maxRecDepth 20000 in
theorem ggX2_canStand_X2_canBeSum : GoodIn wsX2_canStand wsX2_canBeSum := goodIn_r _ [17, 13, 1, 18, 19, 20, 21, 22, 23, 24, 25, 30, 31, 32, 33, 34, 35, 36, 37, 38, 39] (by decide +kernel) (by decide +kernel)
set_option maxRecDepth 20000 in
theorem gX2_canStand_X2_canBeSum : GoodIn wsX2_canStand (wsV RX2 47 RX2 yX2_canBeSum wsX2_canBeSum) := goodIn_app (goodIn_of _ (by decide +kernel)) ggX2_canStand_X2_canBeSum
set_option maxRecDepth 20000 in
theorem ggX2_canStand_X2_startRule : GoodIn wsX2_canStand wsX2_startRule := goodIn_r _ [29, 1, 7, 13, 30, 31, 32, 33, 34, 35] (by decide +kernel) (by decide +kernel)
set_option maxRecDepth 20000 in
theorem gX2_canStand_X2_startRule : GoodIn wsX2_canStand (wsV RX2 24 RX2 yX2_startRule wsX2_startRule) := goodIn_app (goodIn_of _ (by decide +kernel)) ggX2_canStand_X2_startRule
theorem dX2_canStand_0 : decode cX2_canStand 0 = .ok (.aload_n 0, 1) := by decide +kernel
theorem dX2_canStand_1 : decode cX2_canStand 1 = .ok (.getfield 31, 3) := by decide +kernel
theorem dX2_canStand_4 : decode cX2_canStand 4 = .ok (.tableswitch 47 0 2 #[28, 34, 40], 28) := by decide +kernel
theorem dX2_canStand_32 : decode cX2_canStand 32 = .ok (.aload_n 0, 1) := by decide +kernel
theorem dX2_canStand_33 : decode cX2_canStand 33 = .ok (.iload_n 1, 1) := by decide +kernel
theorem dX2_canStand_34 : decode cX2_canStand 34 = .ok (.invokevirtual 40, 3) := by decide +kernel
theorem dX2_canStand_37 : decode cX2_canStand 37 = .ok (.ireturn, 1) := by decide +kernel
theorem dX2_canStand_38 : decode cX2_canStand 38 = .ok (.aload_n 0, 1) := by decide +kernel
theorem dX2_canStand_39 : decode cX2_canStand 39 = .ok (.iload_n 1, 1) := by decide +kernel
theorem dX2_canStand_40 : decode cX2_canStand 40 = .ok (.invokevirtual 44, 3) := by decide +kernel
theorem dX2_canStand_43 : decode cX2_canStand 43 = .ok (.ireturn, 1) := by decide +kernel
theorem dX2_canStand_44 : decode cX2_canStand 44 = .ok (.aload_n 0, 1) := by decide +kernel
theorem dX2_canStand_45 : decode cX2_canStand 45 = .ok (.iload_n 1, 1) := by decide +kernel
theorem dX2_canStand_46 : decode cX2_canStand 46 = .ok (.aload_n 2, 1) := by decide +kernel
theorem dX2_canStand_47 : decode cX2_canStand 47 = .ok (.invokevirtual 47, 3) := by decide +kernel
theorem dX2_canStand_50 : decode cX2_canStand 50 = .ok (.ireturn, 1) := by decide +kernel
theorem dX2_canStand_51 : decode cX2_canStand 51 = .ok (.iload_n 1, 1) := by decide +kernel
theorem dX2_canStand_52 : decode cX2_canStand 52 = .ok (.bipush 59, 2) := by decide +kernel
theorem dX2_canStand_54 : decode cX2_canStand 54 = .ok (.if_icmp .eq 5, 3) := by decide +kernel
theorem dX2_canStand_57 : decode cX2_canStand 57 = .ok (.iconst 0, 1) := by decide +kernel
theorem dX2_canStand_58 : decode cX2_canStand 58 = .ok (.ireturn, 1) := by decide +kernel
theorem dX2_canStand_59 : decode cX2_canStand 59 = .ok (.aload_n 0, 1) := by decide +kernel
theorem dX2_canStand_60 : decode cX2_canStand 60 = .ok (.invokevirtual 24, 3) := by decide +kernel
theorem dX2_canStand_63 : decode cX2_canStand 63 = .ok (.iconst 1, 1) := by decide +kernel
theorem dX2_canStand_64 : decode cX2_canStand 64 = .ok (.ireturn, 1) := by decide +kernel
theorem dX2_canStartChoice_0 : decode cX2_canStartChoice 0 = .ok (.iload_n 1, 1) := by decide +kernel
theorem dX2_canStartChoice_1 : decode cX2_canStartChoice 1 = .ok (.bipush 48, 2) := by decide +kernel
theorem dX2_canStartChoice_3 : decode cX2_canStartChoice 3 = .ok (.if_icmp .lt 9, 3) := by decide +kernel
theorem dX2_canStartChoice_6 : decode cX2_canStartChoice 6 = .ok (.iload_n 1, 1) := by decide +kernel
theorem dX2_canStartChoice_7 : decode cX2_canStartChoice 7 = .ok (.bipush 57, 2) := by decide +kernel
theorem dX2_canStartChoice_9 : decode cX2_canStartChoice 9 = .ok (.if_icmp .le 5, 3) := by decide +kernel
theorem dX2_canStartChoice_12 : decode cX2_canStartChoice 12 = .ok (.iconst 0, 1) := by decide +kernel
theorem dX2_canStartChoice_13 : decode cX2_canStartChoice 13 = .ok (.ireturn, 1) := by decide +kernel
theorem dX2_canStartChoice_14 : decode cX2_canStartChoice 14 = .ok (.iload_n 1, 1) := by decide +kernel
theorem dX2_canStartChoice_15 : decode cX2_canStartChoice 15 = .ok (.bipush 48, 2) := by decide +kernel
theorem dX2_canStartChoice_17 : decode cX2_canStartChoice 17 = .ok (.isub, 1) := by decide +kernel
theorem dX2_canStartChoice_18 : decode cX2_canStartChoice 18 = .ok (.istore_n 2, 1) := by decide +kernel
theorem dX2_canStartChoice_19 : decode cX2_canStartChoice 19 = .ok (.iload_n 2, 1) := by decide +kernel
theorem dX2_canStartChoice_20 : decode cX2_canStartChoice 20 = .ok (.iconst 1, 1) := by decide +kernel
theorem dX2_canStartChoice_21 : decode cX2_canStartChoice 21 = .ok (.if_icmp .ne 8, 3) := by decide +kernel
theorem dX2_canStartChoice_24 : decode cX2_canStartChoice 24 = .ok (.bipush 11, 2) := by decide +kernel
theorem dX2_canStartChoice_26 : decode cX2_canStartChoice 26 = .ok (.goto 4, 3) := by decide +kernel
theorem dX2_canStartChoice_29 : decode cX2_canStartChoice 29 = .ok (.iload_n 2, 1) := by decide +kernel
theorem dX2_canStartChoice_30 : decode cX2_canStartChoice 30 = .ok (.istore_n 3, 1) := by decide +kernel
theorem dX2_canStartChoice_31 : decode cX2_canStartChoice 31 = .ok (.iload_n 3, 1) := by decide +kernel
theorem dX2_canStartChoice_32 : decode cX2_canStartChoice 32 = .ok (.aload_n 0, 1) := by decide +kernel
theorem dX2_canStartChoice_33 : decode cX2_canStartChoice 33 = .ok (.getfield 34, 3) := by decide +kernel
theorem dX2_canStartChoice_36 : decode cX2_canStartChoice 36 = .ok (.if_icmp .gt 5, 3) := by decide +kernel
theorem dX2_canStartChoice_39 : decode cX2_canStartChoice 39 = .ok (.iconst 0, 1) := by decide +kernel
theorem dX2_canStartChoice_40 : decode cX2_canStartChoice 40 = .ok (.ireturn, 1) := by decide +kernel
theorem dX2_canStartChoice_41 : decode cX2_canStartChoice 41 = .ok (.aload_n 0, 1) := by decide +kernel
theorem dX2_canStartChoice_42 : decode cX2_canStartChoice 42 = .ok (.iload_n 2, 1) := by decide +kernel
theorem dX2_canStartChoice_43 : decode cX2_canStartChoice 43 = .ok (.putfield 50, 3) := by decide +kernel
theorem dX2_canStartChoice_46 : decode cX2_canStartChoice 46 = .ok (.aload_n 0, 1) := by decide +kernel
theorem dX2_canStartChoice_47 : decode cX2_canStartChoice 47 = .ok (.iconst 1, 1) := by decide +kernel
theorem dX2_canStartChoice_48 : decode cX2_canStartChoice 48 = .ok (.putfield 31, 3) := by decide +kernel
theorem dX2_canStartChoice_51 : decode cX2_canStartChoice 51 = .ok (.iconst 1, 1) := by decide +kernel
theorem dX2_canStartChoice_52 : decode cX2_canStartChoice 52 = .ok (.ireturn, 1) := by decide +kernel
theorem dX2_canStandInChoice_0 : decode cX2_canStandInChoice 0 = .ok (.aload_n 0, 1) := by decide +kernel
theorem dX2_canStandInChoice_1 : decode cX2_canStandInChoice 1 = .ok (.getfield 50, 3) := by decide +kernel
theorem dX2_canStandInChoice_4 : decode cX2_canStandInChoice 4 = .ok (.iconst 1, 1) := by decide +kernel
theorem dX2_canStandInChoice_5 : decode cX2_canStandInChoice 5 = .ok (.if_icmp .ne 43, 3) := by decide +kernel
theorem dX2_canStandInChoice_8 : decode cX2_canStandInChoice 8 = .ok (.iload_n 1, 1) := by decide +kernel
theorem dX2_canStandInChoice_9 : decode cX2_canStandInChoice 9 = .ok (.bipush 48, 2) := by decide +kernel
theorem dX2_canStandInChoice_11 : decode cX2_canStandInChoice 11 = .ok (.if_icmp .eq 9, 3) := by decide +kernel
theorem dX2_canStandInChoice_14 : decode cX2_canStandInChoice 14 = .ok (.iload_n 1, 1) := by decide +kernel
theorem dX2_canStandInChoice_15 : decode cX2_canStandInChoice 15 = .ok (.bipush 49, 2) := by decide +kernel
theorem dX2_canStandInChoice_17 : decode cX2_canStandInChoice 17 = .ok (.if_icmp .ne 31, 3) := by decide +kernel
theorem dX2_canStandInChoice_20 : decode cX2_canStandInChoice 20 = .ok (.aload_n 0, 1) := by decide +kernel
theorem dX2_canStandInChoice_21 : decode cX2_canStandInChoice 21 = .ok (.bipush 10, 2) := by decide +kernel
theorem dX2_canStandInChoice_23 : decode cX2_canStandInChoice 23 = .ok (.iload_n 1, 1) := by decide +kernel
theorem dX2_canStandInChoice_24 : decode cX2_canStandInChoice 24 = .ok (.iadd, 1) := by decide +kernel
theorem dX2_canStandInChoice_25 : decode cX2_canStandInChoice 25 = .ok (.bipush 48, 2) := by decide +kernel
theorem dX2_canStandInChoice_27 : decode cX2_canStandInChoice 27 = .ok (.isub, 1) := by decide +kernel
theorem dX2_canStandInChoice_28 : decode cX2_canStandInChoice 28 = .ok (.putfield 50, 3) := by decide +kernel
theorem dX2_canStandInChoice_31 : decode cX2_canStandInChoice 31 = .ok (.aload_n 0, 1) := by decide +kernel
theorem dX2_canStandInChoice_32 : decode cX2_canStandInChoice 32 = .ok (.getfield 50, 3) := by decide +kernel
theorem dX2_canStandInChoice_35 : decode cX2_canStandInChoice 35 = .ok (.aload_n 0, 1) := by decide +kernel
theorem dX2_canStandInChoice_36 : decode cX2_canStandInChoice 36 = .ok (.getfield 34, 3) := by decide +kernel
theorem dX2_canStandInChoice_39 : decode cX2_canStandInChoice 39 = .ok (.if_icmp .le 7, 3) := by decide +kernel
theorem dX2_canStandInChoice_42 : decode cX2_canStandInChoice 42 = .ok (.iconst 1, 1) := by decide +kernel
theorem dX2_canStandInChoice_43 : decode cX2_canStandInChoice 43 = .ok (.goto 4, 3) := by decide +kernel
theorem dX2_canStandInChoice_46 : decode cX2_canStandInChoice 46 = .ok (.iconst 0, 1) := by decide +kernel
theorem dX2_canStandInChoice_47 : decode cX2_canStandInChoice 47 = .ok (.ireturn, 1) := by decide +kernel
theorem dX2_canStandInChoice_48 : decode cX2_canStandInChoice 48 = .ok (.iload_n 1, 1) := by decide +kernel
theorem dX2_canStandInChoice_49 : decode cX2_canStandInChoice 49 = .ok (.bipush 61, 2) := by decide +kernel
theorem dX2_canStandInChoice_51 : decode cX2_canStandInChoice 51 = .ok (.if_icmp .eq 18, 3) := by decide +kernel
theorem dX2_canStandInChoice_54 : decode cX2_canStandInChoice 54 = .ok (.iload_n 1, 1) := by decide +kernel
theorem dX2_canStandInChoice_55 : decode cX2_canStandInChoice 55 = .ok (.bipush 43, 2) := by decide +kernel
theorem dX2_canStandInChoice_57 : decode cX2_canStandInChoice 57 = .ok (.if_icmp .ne 16, 3) := by decide +kernel
theorem dX2_canStandInChoice_60 : decode cX2_canStandInChoice 60 = .ok (.aload_n 0, 1) := by decide +kernel
theorem dX2_canStandInChoice_61 : decode cX2_canStandInChoice 61 = .ok (.getfield 50, 3) := by decide +kernel
theorem dX2_canStandInChoice_64 : decode cX2_canStandInChoice 64 = .ok (.bipush 11, 2) := by decide +kernel
theorem dX2_canStandInChoice_66 : decode cX2_canStandInChoice 66 = .ok (.if_icmp .ge 7, 3) := by decide +kernel
theorem dX2_canStandInChoice_69 : decode cX2_canStandInChoice 69 = .ok (.iconst 1, 1) := by decide +kernel
theorem dX2_canStandInChoice_70 : decode cX2_canStandInChoice 70 = .ok (.goto 4, 3) := by decide +kernel
theorem dX2_canStandInChoice_73 : decode cX2_canStandInChoice 73 = .ok (.iconst 0, 1) := by decide +kernel
theorem dX2_canStandInChoice_74 : decode cX2_canStandInChoice 74 = .ok (.istore_n 2, 1) := by decide +kernel
theorem dX2_canStandInChoice_75 : decode cX2_canStandInChoice 75 = .ok (.iload_n 2, 1) := by decide +kernel
theorem dX2_canStandInChoice_76 : decode cX2_canStandInChoice 76 = .ok (.ifCond .eq 14, 3) := by decide +kernel
theorem dX2_canStandInChoice_79 : decode cX2_canStandInChoice 79 = .ok (.aload_n 0, 1) := by decide +kernel
theorem dX2_canStandInChoice_80 : decode cX2_canStandInChoice 80 = .ok (.getfield 50, 3) := by decide +kernel
theorem dX2_canStandInChoice_83 : decode cX2_canStandInChoice 83 = .ok (.aload_n 0, 1) := by decide +kernel
theorem dX2_canStandInChoice_84 : decode cX2_canStandInChoice 84 = .ok (.getfield 34, 3) := by decide +kernel
theorem dX2_canStandInChoice_87 : decode cX2_canStandInChoice 87 = .ok (.if_icmp .gt 5, 3) := by decide +kernel
theorem dX2_canStandInChoice_90 : decode cX2_canStandInChoice 90 = .ok (.iconst 0, 1) := by decide +kernel
theorem dX2_canStandInChoice_91 : decode cX2_canStandInChoice 91 = .ok (.ireturn, 1) := by decide +kernel
theorem dX2_canStandInChoice_92 : decode cX2_canStandInChoice 92 = .ok (.aload_n 0, 1) := by decide +kernel
theorem dX2_canStandInChoice_93 : decode cX2_canStandInChoice 93 = .ok (.dup, 1) := by decide +kernel
theorem dX2_canStandInChoice_94 : decode cX2_canStandInChoice 94 = .ok (.getfield 37, 3) := by decide +kernel
theorem dX2_canStandInChoice_97 : decode cX2_canStandInChoice 97 = .ok (.iconst 1, 1) := by decide +kernel
theorem dX2_canStandInChoice_98 : decode cX2_canStandInChoice 98 = .ok (.aload_n 0, 1) := by decide +kernel
theorem dX2_canStandInChoice_99 : decode cX2_canStandInChoice 99 = .ok (.getfield 50, 3) := by decide +kernel
theorem dX2_canStandInChoice_102 : decode cX2_canStandInChoice 102 = .ok (.ishl, 1) := by decide +kernel
theorem dX2_canStandInChoice_103 : decode cX2_canStandInChoice 103 = .ok (.ior, 1) := by decide +kernel
theorem dX2_canStandInChoice_104 : decode cX2_canStandInChoice 104 = .ok (.putfield 37, 3) := by decide +kernel
theorem dX2_canStandInChoice_107 : decode cX2_canStandInChoice 107 = .ok (.aload_n 0, 1) := by decide +kernel
theorem dX2_canStandInChoice_108 : decode cX2_canStandInChoice 108 = .ok (.aload_n 0, 1) := by decide +kernel
theorem dX2_canStandInChoice_109 : decode cX2_canStandInChoice 109 = .ok (.getfield 50, 3) := by decide +kernel
theorem dX2_canStandInChoice_112 : decode cX2_canStandInChoice 112 = .ok (.putfield 34, 3) := by decide +kernel
theorem dX2_canStandInChoice_115 : decode cX2_canStandInChoice 115 = .ok (.aload_n 0, 1) := by decide +kernel
theorem dX2_canStandInChoice_116 : decode cX2_canStandInChoice 116 = .ok (.iload_n 1, 1) := by decide +kernel
theorem dX2_canStandInChoice_117 : decode cX2_canStandInChoice 117 = .ok (.bipush 43, 2) := by decide +kernel
theorem dX2_canStandInChoice_119 : decode cX2_canStandInChoice 119 = .ok (.if_icmp .ne 7, 3) := by decide +kernel
theorem dX2_canStandInChoice_122 : decode cX2_canStandInChoice 122 = .ok (.iconst 0, 1) := by decide +kernel
theorem dX2_canStandInChoice_123 : decode cX2_canStandInChoice 123 = .ok (.goto 4, 3) := by decide +kernel
theorem dX2_canStandInChoice_126 : decode cX2_canStandInChoice 126 = .ok (.iconst 2, 1) := by decide +kernel
theorem dX2_canStandInChoice_127 : decode cX2_canStandInChoice 127 = .ok (.putfield 31, 3) := by decide +kernel
theorem dX2_canStandInChoice_130 : decode cX2_canStandInChoice 130 = .ok (.iconst 1, 1) := by decide +kernel
theorem dX2_canStandInChoice_131 : decode cX2_canStandInChoice 131 = .ok (.ireturn, 1) := by decide +kernel
set_option maxRecDepth 20000 in
theorem ggX2_canBeSum_X3_append : GoodIn wsX2_canBeSum wsX3_append := goodIn_r _ [7, 8, 9, 10, 17, 18, 19, 20] (by decide +kernel) (by decide +kernel)
set_option maxRecDepth 20000 in
theorem gX2_canBeSum_X3_append : GoodIn wsX2_canBeSum (wsV RX2 53 RX3 yX3_append wsX3_append) := goodIn_app (goodIn_of _ (by decide +kernel)) ggX2_canBeSum_X3_append
theorem dX2_canBeSum_0 : decode cX2_canBeSum 0 = .ok (.iload_n 1, 1) := by decide +kernel
theorem dX2_canBeSum_1 : decode cX2_canBeSum 1 = .ok (.bipush 48, 2) := by decide +kernel
theorem dX2_canBeSum_3 : decode cX2_canBeSum 3 = .ok (.if_icmp .eq 11, 3) := by decide +kernel
theorem dX2_canBeSum_6 : decode cX2_canBeSum 6 = .ok (.iload_n 1, 1) := by decide +kernel
theorem dX2_canBeSum_7 : decode cX2_canBeSum 7 = .ok (.bipush 49, 2) := by decide +kernel
theorem dX2_canBeSum_9 : decode cX2_canBeSum 9 = .ok (.if_icmp .eq 5, 3) := by decide +kernel
theorem dX2_canBeSum_12 : decode cX2_canBeSum 12 = .ok (.iconst 0, 1) := by decide +kernel
theorem dX2_canBeSum_13 : decode cX2_canBeSum 13 = .ok (.ireturn, 1) := by decide +kernel
theorem dX2_canBeSum_14 : decode cX2_canBeSum 14 = .ok (.aload_n 2, 1) := by decide +kernel
theorem dX2_canBeSum_15 : decode cX2_canBeSum 15 = .ok (.aload_n 0, 1) := by decide +kernel
theorem dX2_canBeSum_16 : decode cX2_canBeSum 16 = .ok (.getfield 37, 3) := by decide +kernel
theorem dX2_canBeSum_19 : decode cX2_canBeSum 19 = .ok (.iload_n 1, 1) := by decide +kernel
theorem dX2_canBeSum_20 : decode cX2_canBeSum 20 = .ok (.bipush 48, 2) := by decide +kernel
theorem dX2_canBeSum_22 : decode cX2_canBeSum 22 = .ok (.isub, 1) := by decide +kernel
theorem dX2_canBeSum_23 : decode cX2_canBeSum 23 = .ok (.invokevirtual 53, 3) := by decide +kernel
theorem dX2_canBeSum_26 : decode cX2_canBeSum 26 = .ok (.aload_n 0, 1) := by decide +kernel
theorem dX2_canBeSum_27 : decode cX2_canBeSum 27 = .ok (.iconst 3, 1) := by decide +kernel
theorem dX2_canBeSum_28 : decode cX2_canBeSum 28 = .ok (.putfield 31, 3) := by decide +kernel
theorem dX2_canBeSum_31 : decode cX2_canBeSum 31 = .ok (.iconst 1, 1) := by decide +kernel
theorem dX2_canBeSum_32 : decode cX2_canBeSum 32 = .ok (.ireturn, 1) := by decide +kernel
theorem dX3_init_0 : decode cX3_init 0 = .ok (.aload_n 0, 1) := by decide +kernel
theorem dX3_init_1 : decode cX3_init 1 = .ok (.invokespecial 3, 3) := by decide +kernel
theorem dX3_init_4 : decode cX3_init 4 = .ok (.aload_n 0, 1) := by decide +kernel
theorem dX3_init_5 : decode cX3_init 5 = .ok (.bipush 6, 2) := by decide +kernel
theorem dX3_init_7 : decode cX3_init 7 = .ok (.putfield 9, 3) := by decide +kernel
theorem dX3_init_10 : decode cX3_init 10 = .ok (.aload_n 0, 1) := by decide +kernel
theorem dX3_init_11 : decode cX3_init 11 = .ok (.bipush 20, 2) := by decide +kernel
theorem dX3_init_13 : decode cX3_init 13 = .ok (.newarray .int, 2) := by decide +kernel
theorem dX3_init_15 : decode cX3_init 15 = .ok (.putfield 15, 3) := by decide +kernel
theorem dX3_init_18 : decode cX3_init 18 = .ok (.aload_n 0, 1) := by decide +kernel
theorem dX3_init_19 : decode cX3_init 19 = .ok (.bipush 20, 2) := by decide +kernel
theorem dX3_init_21 : decode cX3_init 21 = .ok (.newarray .int, 2) := by decide +kernel
theorem dX3_init_23 : decode cX3_init 23 = .ok (.putfield 19, 3) := by decide +kernel
theorem dX3_init_26 : decode cX3_init 26 = .ok (.return_, 1) := by decide +kernel
theorem dX3_hasPlace_0 : decode cX3_hasPlace 0 = .ok (.iload_n 1, 1) := by decide +kernel
theorem dX3_hasPlace_1 : decode cX3_hasPlace 1 = .ok (.ifCond .lt 15, 3) := by decide +kernel
theorem dX3_hasPlace_4 : decode cX3_hasPlace 4 = .ok (.iload_n 1, 1) := by decide +kernel
theorem dX3_hasPlace_5 : decode cX3_hasPlace 5 = .ok (.aload_n 0, 1) := by decide +kernel
theorem dX3_hasPlace_6 : decode cX3_hasPlace 6 = .ok (.getfield 22, 3) := by decide +kernel
theorem dX3_hasPlace_9 : decode cX3_hasPlace 9 = .ok (.if_icmp .ge 7, 3) := by decide +kernel
theorem dX3_hasPlace_12 : decode cX3_hasPlace 12 = .ok (.iconst 1, 1) := by decide +kernel
theorem dX3_hasPlace_13 : decode cX3_hasPlace 13 = .ok (.goto 4, 3) := by decide +kernel
theorem dX3_hasPlace_16 : decode cX3_hasPlace 16 = .ok (.iconst 0, 1) := by decide +kernel
theorem dX3_hasPlace_17 : decode cX3_hasPlace 17 = .ok (.ireturn, 1) := by decide +kernel
theorem dX3_hasSet_0 : decode cX3_hasSet 0 = .ok (.iload_n 1, 1) := by decide +kernel
theorem dX3_hasSet_1 : decode cX3_hasSet 1 = .ok (.ifCond .lt 17, 3) := by decide +kernel
theorem dX3_hasSet_4 : decode cX3_hasSet 4 = .ok (.iload_n 1, 1) := by decide +kernel
theorem dX3_hasSet_5 : decode cX3_hasSet 5 = .ok (.iconst 1, 1) := by decide +kernel
theorem dX3_hasSet_6 : decode cX3_hasSet 6 = .ok (.aload_n 0, 1) := by decide +kernel
theorem dX3_hasSet_7 : decode cX3_hasSet 7 = .ok (.getfield 9, 3) := by decide +kernel
theorem dX3_hasSet_10 : decode cX3_hasSet 10 = .ok (.ishl, 1) := by decide +kernel
theorem dX3_hasSet_11 : decode cX3_hasSet 11 = .ok (.if_icmp .ge 7, 3) := by decide +kernel
theorem dX3_hasSet_14 : decode cX3_hasSet 14 = .ok (.iconst 1, 1) := by decide +kernel
theorem dX3_hasSet_15 : decode cX3_hasSet 15 = .ok (.goto 4, 3) := by decide +kernel
theorem dX3_hasSet_18 : decode cX3_hasSet 18 = .ok (.iconst 0, 1) := by decide +kernel
theorem dX3_hasSet_19 : decode cX3_hasSet 19 = .ok (.ireturn, 1) := by decide +kernel
theorem dX3_setsStayBelow_0 : decode cX3_setsStayBelow 0 = .ok (.iconst 0, 1) := by decide +kernel
theorem dX3_setsStayBelow_1 : decode cX3_setsStayBelow 1 = .ok (.istore_n 2, 1) := by decide +kernel
theorem dX3_setsStayBelow_2 : decode cX3_setsStayBelow 2 = .ok (.iconst 0, 1) := by decide +kernel
theorem dX3_setsStayBelow_3 : decode cX3_setsStayBelow 3 = .ok (.istore_n 3, 1) := by decide +kernel
theorem dX3_setsStayBelow_4 : decode cX3_setsStayBelow 4 = .ok (.iload_n 3, 1) := by decide +kernel
theorem dX3_setsStayBelow_5 : decode cX3_setsStayBelow 5 = .ok (.aload_n 0, 1) := by decide +kernel
theorem dX3_setsStayBelow_6 : decode cX3_setsStayBelow 6 = .ok (.getfield 22, 3) := by decide +kernel
theorem dX3_setsStayBelow_9 : decode cX3_setsStayBelow 9 = .ok (.if_icmp .ge 18, 3) := by decide +kernel
theorem dX3_setsStayBelow_12 : decode cX3_setsStayBelow 12 = .ok (.iload_n 2, 1) := by decide +kernel
theorem dX3_setsStayBelow_13 : decode cX3_setsStayBelow 13 = .ok (.aload_n 0, 1) := by decide +kernel
theorem dX3_setsStayBelow_14 : decode cX3_setsStayBelow 14 = .ok (.getfield 15, 3) := by decide +kernel
theorem dX3_setsStayBelow_17 : decode cX3_setsStayBelow 17 = .ok (.iload_n 3, 1) := by decide +kernel
theorem dX3_setsStayBelow_18 : decode cX3_setsStayBelow 18 = .ok (.iaload, 1) := by decide +kernel
theorem dX3_setsStayBelow_19 : decode cX3_setsStayBelow 19 = .ok (.ior, 1) := by decide +kernel
theorem dX3_setsStayBelow_20 : decode cX3_setsStayBelow 20 = .ok (.istore_n 2, 1) := by decide +kernel
theorem dX3_setsStayBelow_21 : decode cX3_setsStayBelow 21 = .ok (.iinc 3 1, 3) := by decide +kernel
theorem dX3_setsStayBelow_24 : decode cX3_setsStayBelow 24 = .ok (.goto (-20), 3) := by decide +kernel
theorem dX3_setsStayBelow_27 : decode cX3_setsStayBelow 27 = .ok (.iload_n 2, 1) := by decide +kernel
theorem dX3_setsStayBelow_28 : decode cX3_setsStayBelow 28 = .ok (.iload_n 1, 1) := by decide +kernel
theorem dX3_setsStayBelow_29 : decode cX3_setsStayBelow 29 = .ok (.ishr, 1) := by decide +kernel
theorem dX3_setsStayBelow_30 : decode cX3_setsStayBelow 30 = .ok (.ifCond .ne 7, 3) := by decide +kernel
theorem dX3_setsStayBelow_33 : decode cX3_setsStayBelow 33 = .ok (.iconst 1, 1) := by decide +kernel
theorem dX3_setsStayBelow_34 : decode cX3_setsStayBelow 34 = .ok (.goto 4, 3) := by decide +kernel
theorem dX3_setsStayBelow_37 : decode cX3_setsStayBelow 37 = .ok (.iconst 0, 1) := by decide +kernel
theorem dX3_setsStayBelow_38 : decode cX3_setsStayBelow 38 = .ok (.ireturn, 1) := by decide +kernel
theorem dX3_rulesWith_0 : decode cX3_rulesWith 0 = .ok (.iconst 0, 1) := by decide +kernel
theorem dX3_rulesWith_1 : decode cX3_rulesWith 1 = .ok (.istore_n 2, 1) := by decide +kernel
theorem dX3_rulesWith_2 : decode cX3_rulesWith 2 = .ok (.iconst 0, 1) := by decide +kernel
theorem dX3_rulesWith_3 : decode cX3_rulesWith 3 = .ok (.istore_n 3, 1) := by decide +kernel
theorem dX3_rulesWith_4 : decode cX3_rulesWith 4 = .ok (.iload_n 3, 1) := by decide +kernel
theorem dX3_rulesWith_5 : decode cX3_rulesWith 5 = .ok (.aload_n 0, 1) := by decide +kernel
theorem dX3_rulesWith_6 : decode cX3_rulesWith 6 = .ok (.getfield 22, 3) := by decide +kernel
theorem dX3_rulesWith_9 : decode cX3_rulesWith 9 = .ok (.if_icmp .ge 22, 3) := by decide +kernel
theorem dX3_rulesWith_12 : decode cX3_rulesWith 12 = .ok (.iload_n 2, 1) := by decide +kernel
theorem dX3_rulesWith_13 : decode cX3_rulesWith 13 = .ok (.aload_n 0, 1) := by decide +kernel
theorem dX3_rulesWith_14 : decode cX3_rulesWith 14 = .ok (.getfield 15, 3) := by decide +kernel
theorem dX3_rulesWith_17 : decode cX3_rulesWith 17 = .ok (.iload_n 3, 1) := by decide +kernel
theorem dX3_rulesWith_18 : decode cX3_rulesWith 18 = .ok (.iaload, 1) := by decide +kernel
theorem dX3_rulesWith_19 : decode cX3_rulesWith 19 = .ok (.iload_n 1, 1) := by decide +kernel
theorem dX3_rulesWith_20 : decode cX3_rulesWith 20 = .ok (.ishr, 1) := by decide +kernel
theorem dX3_rulesWith_21 : decode cX3_rulesWith 21 = .ok (.iconst 1, 1) := by decide +kernel
theorem dX3_rulesWith_22 : decode cX3_rulesWith 22 = .ok (.iand, 1) := by decide +kernel
theorem dX3_rulesWith_23 : decode cX3_rulesWith 23 = .ok (.iadd, 1) := by decide +kernel
theorem dX3_rulesWith_24 : decode cX3_rulesWith 24 = .ok (.istore_n 2, 1) := by decide +kernel
theorem dX3_rulesWith_25 : decode cX3_rulesWith 25 = .ok (.iinc 3 1, 3) := by decide +kernel
theorem dX3_rulesWith_28 : decode cX3_rulesWith 28 = .ok (.goto (-24), 3) := by decide +kernel
theorem dX3_rulesWith_31 : decode cX3_rulesWith 31 = .ok (.iload_n 2, 1) := by decide +kernel
theorem dX3_rulesWith_32 : decode cX3_rulesWith 32 = .ok (.ireturn, 1) := by decide +kernel
theorem dX3_become_0 : decode cX3_become 0 = .ok (.aload_n 0, 1) := by decide +kernel
theorem dX3_become_1 : decode cX3_become 1 = .ok (.aload_n 1, 1) := by decide +kernel
theorem dX3_become_2 : decode cX3_become 2 = .ok (.getfield 9, 3) := by decide +kernel
theorem dX3_become_5 : decode cX3_become 5 = .ok (.putfield 9, 3) := by decide +kernel
theorem dX3_become_8 : decode cX3_become 8 = .ok (.aload_n 0, 1) := by decide +kernel
theorem dX3_become_9 : decode cX3_become 9 = .ok (.aload_n 1, 1) := by decide +kernel
theorem dX3_become_10 : decode cX3_become 10 = .ok (.getfield 22, 3) := by decide +kernel
theorem dX3_become_13 : decode cX3_become 13 = .ok (.putfield 22, 3) := by decide +kernel
theorem dX3_become_16 : decode cX3_become 16 = .ok (.aload_n 1, 1) := by decide +kernel
theorem dX3_become_17 : decode cX3_become 17 = .ok (.getfield 15, 3) := by decide +kernel
theorem dX3_become_20 : decode cX3_become 20 = .ok (.iconst 0, 1) := by decide +kernel
theorem dX3_become_21 : decode cX3_become 21 = .ok (.aload_n 0, 1) := by decide +kernel
theorem dX3_become_22 : decode cX3_become 22 = .ok (.getfield 15, 3) := by decide +kernel
theorem dX3_become_25 : decode cX3_become 25 = .ok (.iconst 0, 1) := by decide +kernel
theorem dX3_become_26 : decode cX3_become 26 = .ok (.bipush 20, 2) := by decide +kernel
theorem dX3_become_28 : decode cX3_become 28 = .ok (.invokestatic 25, 3) := by decide +kernel
theorem dX3_become_31 : decode cX3_become 31 = .ok (.aload_n 1, 1) := by decide +kernel
theorem dX3_become_32 : decode cX3_become 32 = .ok (.getfield 19, 3) := by decide +kernel
theorem dX3_become_35 : decode cX3_become 35 = .ok (.iconst 0, 1) := by decide +kernel
theorem dX3_become_36 : decode cX3_become 36 = .ok (.aload_n 0, 1) := by decide +kernel
theorem dX3_become_37 : decode cX3_become 37 = .ok (.getfield 19, 3) := by decide +kernel
theorem dX3_become_40 : decode cX3_become 40 = .ok (.iconst 0, 1) := by decide +kernel
theorem dX3_become_41 : decode cX3_become 41 = .ok (.bipush 20, 2) := by decide +kernel
theorem dX3_become_43 : decode cX3_become 43 = .ok (.invokestatic 25, 3) := by decide +kernel
theorem dX3_become_46 : decode cX3_become 46 = .ok (.return_, 1) := by decide +kernel
theorem dX3_append_0 : decode cX3_append 0 = .ok (.aload_n 0, 1) := by decide +kernel
theorem dX3_append_1 : decode cX3_append 1 = .ok (.getfield 22, 3) := by decide +kernel
theorem dX3_append_4 : decode cX3_append 4 = .ok (.bipush 20, 2) := by decide +kernel
theorem dX3_append_6 : decode cX3_append 6 = .ok (.if_icmp .ge 33, 3) := by decide +kernel
theorem dX3_append_9 : decode cX3_append 9 = .ok (.aload_n 0, 1) := by decide +kernel
theorem dX3_append_10 : decode cX3_append 10 = .ok (.getfield 15, 3) := by decide +kernel
theorem dX3_append_13 : decode cX3_append 13 = .ok (.aload_n 0, 1) := by decide +kernel
theorem dX3_append_14 : decode cX3_append 14 = .ok (.getfield 22, 3) := by decide +kernel
theorem dX3_append_17 : decode cX3_append 17 = .ok (.iload_n 1, 1) := by decide +kernel
theorem dX3_append_18 : decode cX3_append 18 = .ok (.iastore, 1) := by decide +kernel
theorem dX3_append_19 : decode cX3_append 19 = .ok (.aload_n 0, 1) := by decide +kernel
theorem dX3_append_20 : decode cX3_append 20 = .ok (.getfield 19, 3) := by decide +kernel
theorem dX3_append_23 : decode cX3_append 23 = .ok (.aload_n 0, 1) := by decide +kernel
theorem dX3_append_24 : decode cX3_append 24 = .ok (.getfield 22, 3) := by decide +kernel
theorem dX3_append_27 : decode cX3_append 27 = .ok (.iload_n 2, 1) := by decide +kernel
theorem dX3_append_28 : decode cX3_append 28 = .ok (.iastore, 1) := by decide +kernel
theorem dX3_append_29 : decode cX3_append 29 = .ok (.aload_n 0, 1) := by decide +kernel
theorem dX3_append_30 : decode cX3_append 30 = .ok (.dup, 1) := by decide +kernel
theorem dX3_append_31 : decode cX3_append 31 = .ok (.getfield 22, 3) := by decide +kernel
theorem dX3_append_34 : decode cX3_append 34 = .ok (.iconst 1, 1) := by decide +kernel
theorem dX3_append_35 : decode cX3_append 35 = .ok (.iadd, 1) := by decide +kernel
theorem dX3_append_36 : decode cX3_append 36 = .ok (.putfield 22, 3) := by decide +kernel
theorem dX3_append_39 : decode cX3_append 39 = .ok (.return_, 1) := by decide +kernel
set_option maxRecDepth 20000 in
theorem ggX3_carryRule_X5_carry : GoodIn wsX3_carryRule wsX5_carry := goodIn_r _ [5] (by decide +kernel) (by decide +kernel)
set_option maxRecDepth 20000 in
theorem gX3_carryRule_X5_carry_n31 : GoodIn wsX3_carryRule (wsX5_carry) := ggX3_carryRule_X5_carry
theorem dX3_carryRule_0 : decode cX3_carryRule 0 = .ok (.aload_n 0, 1) := by decide +kernel
theorem dX3_carryRule_1 : decode cX3_carryRule 1 = .ok (.getfield 15, 3) := by decide +kernel
theorem dX3_carryRule_4 : decode cX3_carryRule 4 = .ok (.iload_n 1, 1) := by decide +kernel
theorem dX3_carryRule_5 : decode cX3_carryRule 5 = .ok (.iload_n 2, 1) := by decide +kernel
theorem dX3_carryRule_6 : decode cX3_carryRule 6 = .ok (.invokestatic 31, 3) := by decide +kernel
theorem dX3_carryRule_9 : decode cX3_carryRule 9 = .ok (.aload_n 0, 1) := by decide +kernel
theorem dX3_carryRule_10 : decode cX3_carryRule 10 = .ok (.getfield 19, 3) := by decide +kernel
theorem dX3_carryRule_13 : decode cX3_carryRule 13 = .ok (.iload_n 1, 1) := by decide +kernel
theorem dX3_carryRule_14 : decode cX3_carryRule 14 = .ok (.iload_n 2, 1) := by decide +kernel
theorem dX3_carryRule_15 : decode cX3_carryRule 15 = .ok (.invokestatic 31, 3) := by decide +kernel
theorem dX3_carryRule_18 : decode cX3_carryRule 18 = .ok (.return_, 1) := by decide +kernel
set_option maxRecDepth 20000 in
theorem ggX3_takeOut_X3_carryRule : GoodIn wsX3_takeOut wsX3_carryRule := goodIn_r _ [6, 7, 8, 9, 10, 11, 12, 13, 14, 15] (by decide +kernel) (by decide +kernel)
set_option maxRecDepth 20000 in
theorem gX3_takeOut_X3_carryRule : GoodIn wsX3_takeOut (wsV RX3 35 RX3 yX3_carryRule wsX3_carryRule) := goodIn_app (goodIn_of _ (by decide +kernel)) ggX3_takeOut_X3_carryRule
theorem dX3_takeOut_0 : decode cX3_takeOut 0 = .ok (.aload_n 0, 1) := by decide +kernel
theorem dX3_takeOut_1 : decode cX3_takeOut 1 = .ok (.iload_n 1, 1) := by decide +kernel
theorem dX3_takeOut_2 : decode cX3_takeOut 2 = .ok (.aload_n 0, 1) := by decide +kernel
theorem dX3_takeOut_3 : decode cX3_takeOut 3 = .ok (.getfield 22, 3) := by decide +kernel
theorem dX3_takeOut_6 : decode cX3_takeOut 6 = .ok (.iconst 1, 1) := by decide +kernel
theorem dX3_takeOut_7 : decode cX3_takeOut 7 = .ok (.isub, 1) := by decide +kernel
theorem dX3_takeOut_8 : decode cX3_takeOut 8 = .ok (.invokevirtual 35, 3) := by decide +kernel
theorem dX3_takeOut_11 : decode cX3_takeOut 11 = .ok (.aload_n 0, 1) := by decide +kernel
theorem dX3_takeOut_12 : decode cX3_takeOut 12 = .ok (.dup, 1) := by decide +kernel
theorem dX3_takeOut_13 : decode cX3_takeOut 13 = .ok (.getfield 22, 3) := by decide +kernel
theorem dX3_takeOut_16 : decode cX3_takeOut 16 = .ok (.iconst 1, 1) := by decide +kernel
theorem dX3_takeOut_17 : decode cX3_takeOut 17 = .ok (.isub, 1) := by decide +kernel
theorem dX3_takeOut_18 : decode cX3_takeOut 18 = .ok (.putfield 22, 3) := by decide +kernel
theorem dX3_takeOut_21 : decode cX3_takeOut 21 = .ok (.return_, 1) := by decide +kernel
theorem dX4_init_0 : decode cX4_init 0 = .ok (.aload_n 0, 1) := by decide +kernel
theorem dX4_init_1 : decode cX4_init 1 = .ok (.invokespecial 3, 3) := by decide +kernel
theorem dX4_init_4 : decode cX4_init 4 = .ok (.aload_n 0, 1) := by decide +kernel
theorem dX4_init_5 : decode cX4_init 5 = .ok (.bipush 20, 2) := by decide +kernel
theorem dX4_init_7 : decode cX4_init 7 = .ok (.newarray .int, 2) := by decide +kernel
theorem dX4_init_9 : decode cX4_init 9 = .ok (.putfield 9, 3) := by decide +kernel
theorem dX4_init_12 : decode cX4_init 12 = .ok (.aload_n 0, 1) := by decide +kernel
theorem dX4_init_13 : decode cX4_init 13 = .ok (.bipush 20, 2) := by decide +kernel
theorem dX4_init_15 : decode cX4_init 15 = .ok (.newarray .int, 2) := by decide +kernel
theorem dX4_init_17 : decode cX4_init 17 = .ok (.putfield 15, 3) := by decide +kernel
theorem dX4_init_20 : decode cX4_init 20 = .ok (.aload_n 0, 1) := by decide +kernel
theorem dX4_init_21 : decode cX4_init 21 = .ok (.iconst 3, 1) := by decide +kernel
theorem dX4_init_22 : decode cX4_init 22 = .ok (.newarray .int, 2) := by decide +kernel
theorem dX4_init_24 : decode cX4_init 24 = .ok (.putfield 18, 3) := by decide +kernel
theorem dX4_init_27 : decode cX4_init 27 = .ok (.aload_n 0, 1) := by decide +kernel
theorem dX4_init_28 : decode cX4_init 28 = .ok (.bipush 12, 2) := by decide +kernel
theorem dX4_init_30 : decode cX4_init 30 = .ok (.newarray .int, 2) := by decide +kernel
theorem dX4_init_32 : decode cX4_init 32 = .ok (.putfield 21, 3) := by decide +kernel
theorem dX4_init_35 : decode cX4_init 35 = .ok (.aload_n 0, 1) := by decide +kernel
theorem dX4_init_36 : decode cX4_init 36 = .ok (.bipush 12, 2) := by decide +kernel
theorem dX4_init_38 : decode cX4_init 38 = .ok (.newarray .int, 2) := by decide +kernel
theorem dX4_init_40 : decode cX4_init 40 = .ok (.putfield 24, 3) := by decide +kernel
theorem dX4_init_43 : decode cX4_init 43 = .ok (.aload_n 0, 1) := by decide +kernel
theorem dX4_init_44 : decode cX4_init 44 = .ok (.bipush 12, 2) := by decide +kernel
theorem dX4_init_46 : decode cX4_init 46 = .ok (.newarray .int, 2) := by decide +kernel
theorem dX4_init_48 : decode cX4_init 48 = .ok (.putfield 27, 3) := by decide +kernel
theorem dX4_init_51 : decode cX4_init 51 = .ok (.aload_n 0, 1) := by decide +kernel
theorem dX4_init_52 : decode cX4_init 52 = .ok (.bipush 12, 2) := by decide +kernel
theorem dX4_init_54 : decode cX4_init 54 = .ok (.newarray .int, 2) := by decide +kernel
theorem dX4_init_56 : decode cX4_init 56 = .ok (.putfield 30, 3) := by decide +kernel
theorem dX4_init_59 : decode cX4_init 59 = .ok (.return_, 1) := by decide +kernel
set_option maxRecDepth 20000 in
theorem ggX4_judge_X4_judgeNext : GoodIn wsX4_judge wsX4_judgeNext := goodIn_r _ [13, 14, 5, 15, 16, 17, 18, 3, 19, 20, 4, 21, 22, 23, 12, 24, 25, 26, 27, 28, 29, 30, 31, 32, 33, 34, 35, 36, 37, 38, 43, 44, 45, 46, 47, 48, 49, 50, 51, 52, 53, 54] (by decide +kernel) (by decide +kernel)
set_option maxRecDepth 20000 in
theorem gX4_judge_X4_judgeNext : GoodIn wsX4_judge (wsV RX4 50 RX4 yX4_judgeNext wsX4_judgeNext) := goodIn_app (goodIn_of _ (by decide +kernel)) ggX4_judge_X4_judgeNext
theorem dX4_judge_0 : decode cX4_judge 0 = .ok (.aload_n 0, 1) := by decide +kernel
theorem dX4_judge_1 : decode cX4_judge 1 = .ok (.aload_n 1, 1) := by decide +kernel
theorem dX4_judge_2 : decode cX4_judge 2 = .ok (.getfield 33, 3) := by decide +kernel
theorem dX4_judge_5 : decode cX4_judge 5 = .ok (.putfield 39, 3) := by decide +kernel
theorem dX4_judge_8 : decode cX4_judge 8 = .ok (.aload_n 0, 1) := by decide +kernel
theorem dX4_judge_9 : decode cX4_judge 9 = .ok (.iconst 0, 1) := by decide +kernel
theorem dX4_judge_10 : decode cX4_judge 10 = .ok (.putfield 40, 3) := by decide +kernel
theorem dX4_judge_13 : decode cX4_judge 13 = .ok (.iconst 0, 1) := by decide +kernel
theorem dX4_judge_14 : decode cX4_judge 14 = .ok (.istore_n 2, 1) := by decide +kernel
theorem dX4_judge_15 : decode cX4_judge 15 = .ok (.iload_n 2, 1) := by decide +kernel
theorem dX4_judge_16 : decode cX4_judge 16 = .ok (.iconst 2, 1) := by decide +kernel
theorem dX4_judge_17 : decode cX4_judge 17 = .ok (.if_icmp .gt 16, 3) := by decide +kernel
theorem dX4_judge_20 : decode cX4_judge 20 = .ok (.aload_n 0, 1) := by decide +kernel
theorem dX4_judge_21 : decode cX4_judge 21 = .ok (.getfield 18, 3) := by decide +kernel
theorem dX4_judge_24 : decode cX4_judge 24 = .ok (.iload_n 2, 1) := by decide +kernel
theorem dX4_judge_25 : decode cX4_judge 25 = .ok (.iconst 0, 1) := by decide +kernel
theorem dX4_judge_26 : decode cX4_judge 26 = .ok (.iastore, 1) := by decide +kernel
theorem dX4_judge_27 : decode cX4_judge 27 = .ok (.iinc 2 1, 3) := by decide +kernel
theorem dX4_judge_30 : decode cX4_judge 30 = .ok (.goto (-15), 3) := by decide +kernel
theorem dX4_judge_33 : decode cX4_judge 33 = .ok (.iconst 0, 1) := by decide +kernel
theorem dX4_judge_34 : decode cX4_judge 34 = .ok (.istore_n 2, 1) := by decide +kernel
theorem dX4_judge_35 : decode cX4_judge 35 = .ok (.iload_n 2, 1) := by decide +kernel
theorem dX4_judge_36 : decode cX4_judge 36 = .ok (.bipush 12, 2) := by decide +kernel
theorem dX4_judge_38 : decode cX4_judge 38 = .ok (.if_icmp .ge 16, 3) := by decide +kernel
theorem dX4_judge_41 : decode cX4_judge 41 = .ok (.aload_n 0, 1) := by decide +kernel
theorem dX4_judge_42 : decode cX4_judge 42 = .ok (.getfield 21, 3) := by decide +kernel
theorem dX4_judge_45 : decode cX4_judge 45 = .ok (.iload_n 2, 1) := by decide +kernel
theorem dX4_judge_46 : decode cX4_judge 46 = .ok (.iconst 0, 1) := by decide +kernel
theorem dX4_judge_47 : decode cX4_judge 47 = .ok (.iastore, 1) := by decide +kernel
theorem dX4_judge_48 : decode cX4_judge 48 = .ok (.iinc 2 1, 3) := by decide +kernel
theorem dX4_judge_51 : decode cX4_judge 51 = .ok (.goto (-16), 3) := by decide +kernel
theorem dX4_judge_54 : decode cX4_judge 54 = .ok (.iconst 0, 1) := by decide +kernel
theorem dX4_judge_55 : decode cX4_judge 55 = .ok (.istore_n 2, 1) := by decide +kernel
theorem dX4_judge_56 : decode cX4_judge 56 = .ok (.iload_n 2, 1) := by decide +kernel
theorem dX4_judge_57 : decode cX4_judge 57 = .ok (.aload_n 1, 1) := by decide +kernel
theorem dX4_judge_58 : decode cX4_judge 58 = .ok (.getfield 43, 3) := by decide +kernel
theorem dX4_judge_61 : decode cX4_judge 61 = .ok (.if_icmp .ge 25, 3) := by decide +kernel
theorem dX4_judge_64 : decode cX4_judge 64 = .ok (.aload_n 0, 1) := by decide +kernel
theorem dX4_judge_65 : decode cX4_judge 65 = .ok (.aload_n 1, 1) := by decide +kernel
theorem dX4_judge_66 : decode cX4_judge 66 = .ok (.getfield 44, 3) := by decide +kernel
theorem dX4_judge_69 : decode cX4_judge 69 = .ok (.iload_n 2, 1) := by decide +kernel
theorem dX4_judge_70 : decode cX4_judge 70 = .ok (.iaload, 1) := by decide +kernel
theorem dX4_judge_71 : decode cX4_judge 71 = .ok (.aload_n 1, 1) := by decide +kernel
theorem dX4_judge_72 : decode cX4_judge 72 = .ok (.getfield 47, 3) := by decide +kernel
theorem dX4_judge_75 : decode cX4_judge 75 = .ok (.iload_n 2, 1) := by decide +kernel
theorem dX4_judge_76 : decode cX4_judge 76 = .ok (.iaload, 1) := by decide +kernel
theorem dX4_judge_77 : decode cX4_judge 77 = .ok (.invokevirtual 50, 3) := by decide +kernel
theorem dX4_judge_80 : decode cX4_judge 80 = .ok (.iinc 2 1, 3) := by decide +kernel
theorem dX4_judge_83 : decode cX4_judge 83 = .ok (.goto (-27), 3) := by decide +kernel
theorem dX4_judge_86 : decode cX4_judge 86 = .ok (.return_, 1) := by decide +kernel
set_option maxRecDepth 20000 in
theorem ggX4_judgeNext_X4_stateOf : GoodIn wsX4_judgeNext wsX4_stateOf := goodIn_r _ [15, 1, 4, 16, 17, 18, 14, 19, 6, 2, 3, 5, 30, 31, 32, 33, 34, 35, 36, 37, 38, 39, 40, 41] (by decide +kernel) (by decide +kernel)
set_option maxRecDepth 20000 in
theorem gX4_judgeNext_X4_stateOf : GoodIn wsX4_judgeNext (wsV RX4 54 RX4 yX4_stateOf wsX4_stateOf) := goodIn_app (goodIn_of _ (by decide +kernel)) ggX4_judgeNext_X4_stateOf
set_option maxRecDepth 20000 in
theorem ggX4_judgeNext_X5_lowestBit : GoodIn wsX4_judgeNext wsX5_lowestBit := goodIn_r _ [22, 23, 24, 25, 26, 27, 28, 29] (by decide +kernel) (by decide +kernel)
set_option maxRecDepth 20000 in
theorem gX4_judgeNext_X5_lowestBit_n61 : GoodIn wsX4_judgeNext (wsX5_lowestBit) := ggX4_judgeNext_X5_lowestBit
theorem dX4_judgeNext_0 : decode cX4_judgeNext 0 = .ok (.aload_n 0, 1) := by decide +kernel
theorem dX4_judgeNext_1 : decode cX4_judgeNext 1 = .ok (.iload_n 1, 1) := by decide +kernel
theorem dX4_judgeNext_2 : decode cX4_judgeNext 2 = .ok (.iload_n 2, 1) := by decide +kernel
theorem dX4_judgeNext_3 : decode cX4_judgeNext 3 = .ok (.invokevirtual 54, 3) := by decide +kernel
theorem dX4_judgeNext_6 : decode cX4_judgeNext 6 = .ok (.istore_n 3, 1) := by decide +kernel
theorem dX4_judgeNext_7 : decode cX4_judgeNext 7 = .ok (.iload_n 3, 1) := by decide +kernel
theorem dX4_judgeNext_8 : decode cX4_judgeNext 8 = .ok (.ifCond .ne 52, 3) := by decide +kernel
theorem dX4_judgeNext_11 : decode cX4_judgeNext 11 = .ok (.aload_n 0, 1) := by decide +kernel
theorem dX4_judgeNext_12 : decode cX4_judgeNext 12 = .ok (.getfield 58, 3) := by decide +kernel
theorem dX4_judgeNext_15 : decode cX4_judgeNext 15 = .ok (.invokestatic 61, 3) := by decide +kernel
theorem dX4_judgeNext_18 : decode cX4_judgeNext 18 = .ok (.istore 4, 2) := by decide +kernel
theorem dX4_judgeNext_20 : decode cX4_judgeNext 20 = .ok (.aload_n 0, 1) := by decide +kernel
theorem dX4_judgeNext_21 : decode cX4_judgeNext 21 = .ok (.getfield 21, 3) := by decide +kernel
theorem dX4_judgeNext_24 : decode cX4_judgeNext 24 = .ok (.iload 4, 2) := by decide +kernel
theorem dX4_judgeNext_26 : decode cX4_judgeNext 26 = .ok (.aload_n 0, 1) := by decide +kernel
theorem dX4_judgeNext_27 : decode cX4_judgeNext 27 = .ok (.getfield 58, 3) := by decide +kernel
theorem dX4_judgeNext_30 : decode cX4_judgeNext 30 = .ok (.iastore, 1) := by decide +kernel
theorem dX4_judgeNext_31 : decode cX4_judgeNext 31 = .ok (.aload_n 0, 1) := by decide +kernel
theorem dX4_judgeNext_32 : decode cX4_judgeNext 32 = .ok (.getfield 24, 3) := by decide +kernel
theorem dX4_judgeNext_35 : decode cX4_judgeNext 35 = .ok (.iload 4, 2) := by decide +kernel
theorem dX4_judgeNext_37 : decode cX4_judgeNext 37 = .ok (.aload_n 0, 1) := by decide +kernel
theorem dX4_judgeNext_38 : decode cX4_judgeNext 38 = .ok (.getfield 65, 3) := by decide +kernel
theorem dX4_judgeNext_41 : decode cX4_judgeNext 41 = .ok (.iastore, 1) := by decide +kernel
theorem dX4_judgeNext_42 : decode cX4_judgeNext 42 = .ok (.aload_n 0, 1) := by decide +kernel
theorem dX4_judgeNext_43 : decode cX4_judgeNext 43 = .ok (.getfield 27, 3) := by decide +kernel
theorem dX4_judgeNext_46 : decode cX4_judgeNext 46 = .ok (.iload 4, 2) := by decide +kernel
theorem dX4_judgeNext_48 : decode cX4_judgeNext 48 = .ok (.aload_n 0, 1) := by decide +kernel
theorem dX4_judgeNext_49 : decode cX4_judgeNext 49 = .ok (.getfield 68, 3) := by decide +kernel
theorem dX4_judgeNext_52 : decode cX4_judgeNext 52 = .ok (.iconst 1, 1) := by decide +kernel
theorem dX4_judgeNext_53 : decode cX4_judgeNext 53 = .ok (.aload_n 0, 1) := by decide +kernel
theorem dX4_judgeNext_54 : decode cX4_judgeNext 54 = .ok (.getfield 40, 3) := by decide +kernel
theorem dX4_judgeNext_57 : decode cX4_judgeNext 57 = .ok (.ishl, 1) := by decide +kernel
theorem dX4_judgeNext_58 : decode cX4_judgeNext 58 = .ok (.ior, 1) := by decide +kernel
theorem dX4_judgeNext_59 : decode cX4_judgeNext 59 = .ok (.iastore, 1) := by decide +kernel
theorem dX4_judgeNext_60 : decode cX4_judgeNext 60 = .ok (.aload_n 0, 1) := by decide +kernel
theorem dX4_judgeNext_61 : decode cX4_judgeNext 61 = .ok (.getfield 9, 3) := by decide +kernel
theorem dX4_judgeNext_64 : decode cX4_judgeNext 64 = .ok (.aload_n 0, 1) := by decide +kernel
theorem dX4_judgeNext_65 : decode cX4_judgeNext 65 = .ok (.getfield 40, 3) := by decide +kernel
theorem dX4_judgeNext_68 : decode cX4_judgeNext 68 = .ok (.iload_n 3, 1) := by decide +kernel
theorem dX4_judgeNext_69 : decode cX4_judgeNext 69 = .ok (.iastore, 1) := by decide +kernel
theorem dX4_judgeNext_70 : decode cX4_judgeNext 70 = .ok (.aload_n 0, 1) := by decide +kernel
theorem dX4_judgeNext_71 : decode cX4_judgeNext 71 = .ok (.getfield 15, 3) := by decide +kernel
theorem dX4_judgeNext_74 : decode cX4_judgeNext 74 = .ok (.aload_n 0, 1) := by decide +kernel
theorem dX4_judgeNext_75 : decode cX4_judgeNext 75 = .ok (.getfield 40, 3) := by decide +kernel
theorem dX4_judgeNext_78 : decode cX4_judgeNext 78 = .ok (.iload_n 3, 1) := by decide +kernel
theorem dX4_judgeNext_79 : decode cX4_judgeNext 79 = .ok (.ifCond .ne 7, 3) := by decide +kernel
theorem dX4_judgeNext_82 : decode cX4_judgeNext 82 = .ok (.iconst 0, 1) := by decide +kernel
theorem dX4_judgeNext_83 : decode cX4_judgeNext 83 = .ok (.goto 7, 3) := by decide +kernel
theorem dX4_judgeNext_86 : decode cX4_judgeNext 86 = .ok (.aload_n 0, 1) := by decide +kernel
theorem dX4_judgeNext_87 : decode cX4_judgeNext 87 = .ok (.getfield 68, 3) := by decide +kernel
theorem dX4_judgeNext_90 : decode cX4_judgeNext 90 = .ok (.iastore, 1) := by decide +kernel
theorem dX4_judgeNext_91 : decode cX4_judgeNext 91 = .ok (.aload_n 0, 1) := by decide +kernel
theorem dX4_judgeNext_92 : decode cX4_judgeNext 92 = .ok (.getfield 18, 3) := by decide +kernel
theorem dX4_judgeNext_95 : decode cX4_judgeNext 95 = .ok (.iload_n 3, 1) := by decide +kernel
theorem dX4_judgeNext_96 : decode cX4_judgeNext 96 = .ok (.dup2, 1) := by decide +kernel
theorem dX4_judgeNext_97 : decode cX4_judgeNext 97 = .ok (.iaload, 1) := by decide +kernel
theorem dX4_judgeNext_98 : decode cX4_judgeNext 98 = .ok (.iconst 1, 1) := by decide +kernel
theorem dX4_judgeNext_99 : decode cX4_judgeNext 99 = .ok (.iadd, 1) := by decide +kernel
theorem dX4_judgeNext_100 : decode cX4_judgeNext 100 = .ok (.iastore, 1) := by decide +kernel
theorem dX4_judgeNext_101 : decode cX4_judgeNext 101 = .ok (.aload_n 0, 1) := by decide +kernel
theorem dX4_judgeNext_102 : decode cX4_judgeNext 102 = .ok (.dup, 1) := by decide +kernel
theorem dX4_judgeNext_103 : decode cX4_judgeNext 103 = .ok (.getfield 40, 3) := by decide +kernel
theorem dX4_judgeNext_106 : decode cX4_judgeNext 106 = .ok (.iconst 1, 1) := by decide +kernel
theorem dX4_judgeNext_107 : decode cX4_judgeNext 107 = .ok (.iadd, 1) := by decide +kernel
theorem dX4_judgeNext_108 : decode cX4_judgeNext 108 = .ok (.putfield 40, 3) := by decide +kernel
theorem dX4_judgeNext_111 : decode cX4_judgeNext 111 = .ok (.return_, 1) := by decide +kernel
set_option maxRecDepth 20000 in
theorem ggX4_stateOf_X4_combine : GoodIn wsX4_stateOf wsX4_combine := goodIn_r _ [7, 1, 2, 8, 9, 10, 11, 12, 13, 14, 15, 16, 17, 18, 19, 20, 21, 22, 23] (by decide +kernel) (by decide +kernel)
set_option maxRecDepth 20000 in
theorem gX4_stateOf_X4_combine : GoodIn wsX4_stateOf (wsV RX4 71 RX4 yX4_combine wsX4_combine) := goodIn_app (goodIn_of _ (by decide +kernel)) ggX4_stateOf_X4_combine
theorem dX4_stateOf_0 : decode cX4_stateOf 0 = .ok (.aload_n 0, 1) := by decide +kernel
theorem dX4_stateOf_1 : decode cX4_stateOf 1 = .ok (.iload_n 1, 1) := by decide +kernel
theorem dX4_stateOf_2 : decode cX4_stateOf 2 = .ok (.iload_n 2, 1) := by decide +kernel
theorem dX4_stateOf_3 : decode cX4_stateOf 3 = .ok (.invokevirtual 71, 3) := by decide +kernel
theorem dX4_stateOf_6 : decode cX4_stateOf 6 = .ok (.aload_n 0, 1) := by decide +kernel
theorem dX4_stateOf_7 : decode cX4_stateOf 7 = .ok (.getfield 58, 3) := by decide +kernel
theorem dX4_stateOf_10 : decode cX4_stateOf 10 = .ok (.ifCond .eq 5, 3) := by decide +kernel
theorem dX4_stateOf_13 : decode cX4_stateOf 13 = .ok (.iconst 0, 1) := by decide +kernel
theorem dX4_stateOf_14 : decode cX4_stateOf 14 = .ok (.ireturn, 1) := by decide +kernel
theorem dX4_stateOf_15 : decode cX4_stateOf 15 = .ok (.aload_n 0, 1) := by decide +kernel
theorem dX4_stateOf_16 : decode cX4_stateOf 16 = .ok (.getfield 65, 3) := by decide +kernel
theorem dX4_stateOf_19 : decode cX4_stateOf 19 = .ok (.ifCond .ne 7, 3) := by decide +kernel
theorem dX4_stateOf_22 : decode cX4_stateOf 22 = .ok (.iconst 1, 1) := by decide +kernel
theorem dX4_stateOf_23 : decode cX4_stateOf 23 = .ok (.goto 4, 3) := by decide +kernel
theorem dX4_stateOf_26 : decode cX4_stateOf 26 = .ok (.iconst 2, 1) := by decide +kernel
theorem dX4_stateOf_27 : decode cX4_stateOf 27 = .ok (.ireturn, 1) := by decide +kernel
set_option maxRecDepth 20000 in
theorem ggX4_sumOf_X4_combine : GoodIn wsX4_sumOf wsX4_combine := goodIn_r _ [7, 1, 2, 8, 9, 10, 11, 12, 13, 14, 15, 16, 17, 18, 19, 20, 21, 22, 23] (by decide +kernel) (by decide +kernel)
set_option maxRecDepth 20000 in
theorem gX4_sumOf_X4_combine : GoodIn wsX4_sumOf (wsV RX4 71 RX4 yX4_combine wsX4_combine) := goodIn_app (goodIn_of _ (by decide +kernel)) ggX4_sumOf_X4_combine
theorem dX4_sumOf_0 : decode cX4_sumOf 0 = .ok (.aload_n 0, 1) := by decide +kernel
theorem dX4_sumOf_1 : decode cX4_sumOf 1 = .ok (.iload_n 1, 1) := by decide +kernel
theorem dX4_sumOf_2 : decode cX4_sumOf 2 = .ok (.iconst 0, 1) := by decide +kernel
theorem dX4_sumOf_3 : decode cX4_sumOf 3 = .ok (.invokevirtual 71, 3) := by decide +kernel
theorem dX4_sumOf_6 : decode cX4_sumOf 6 = .ok (.aload_n 0, 1) := by decide +kernel
theorem dX4_sumOf_7 : decode cX4_sumOf 7 = .ok (.getfield 58, 3) := by decide +kernel
theorem dX4_sumOf_10 : decode cX4_sumOf 10 = .ok (.ifCond .ne 10, 3) := by decide +kernel
theorem dX4_sumOf_13 : decode cX4_sumOf 13 = .ok (.aload_n 0, 1) := by decide +kernel
theorem dX4_sumOf_14 : decode cX4_sumOf 14 = .ok (.getfield 65, 3) := by decide +kernel
theorem dX4_sumOf_17 : decode cX4_sumOf 17 = .ok (.goto 5, 3) := by decide +kernel
theorem dX4_sumOf_20 : decode cX4_sumOf 20 = .ok (.bipush (-6), 2) := by decide +kernel
theorem dX4_sumOf_22 : decode cX4_sumOf 22 = .ok (.ireturn, 1) := by decide +kernel
theorem dX4_combine_0 : decode cX4_combine 0 = .ok (.aload_n 0, 1) := by decide +kernel
theorem dX4_combine_1 : decode cX4_combine 1 = .ok (.iload_n 1, 1) := by decide +kernel
theorem dX4_combine_2 : decode cX4_combine 2 = .ok (.putfield 58, 3) := by decide +kernel
theorem dX4_combine_5 : decode cX4_combine 5 = .ok (.aload_n 0, 1) := by decide +kernel
theorem dX4_combine_6 : decode cX4_combine 6 = .ok (.iload_n 2, 1) := by decide +kernel
theorem dX4_combine_7 : decode cX4_combine 7 = .ok (.putfield 65, 3) := by decide +kernel
theorem dX4_combine_10 : decode cX4_combine 10 = .ok (.aload_n 0, 1) := by decide +kernel
theorem dX4_combine_11 : decode cX4_combine 11 = .ok (.iconst 0, 1) := by decide +kernel
theorem dX4_combine_12 : decode cX4_combine 12 = .ok (.putfield 68, 3) := by decide +kernel
theorem dX4_combine_15 : decode cX4_combine 15 = .ok (.iconst 0, 1) := by decide +kernel
theorem dX4_combine_16 : decode cX4_combine 16 = .ok (.istore_n 3, 1) := by decide +kernel
theorem dX4_combine_17 : decode cX4_combine 17 = .ok (.iload_n 3, 1) := by decide +kernel
theorem dX4_combine_18 : decode cX4_combine 18 = .ok (.bipush 12, 2) := by decide +kernel
theorem dX4_combine_20 : decode cX4_combine 20 = .ok (.if_icmp .ge 75, 3) := by decide +kernel
theorem dX4_combine_23 : decode cX4_combine 23 = .ok (.aload_n 0, 1) := by decide +kernel
theorem dX4_combine_24 : decode cX4_combine 24 = .ok (.getfield 58, 3) := by decide +kernel
theorem dX4_combine_27 : decode cX4_combine 27 = .ok (.iload_n 3, 1) := by decide +kernel
theorem dX4_combine_28 : decode cX4_combine 28 = .ok (.ishr, 1) := by decide +kernel
theorem dX4_combine_29 : decode cX4_combine 29 = .ok (.iconst 1, 1) := by decide +kernel
theorem dX4_combine_30 : decode cX4_combine 30 = .ok (.iand, 1) := by decide +kernel
theorem dX4_combine_31 : decode cX4_combine 31 = .ok (.iconst 1, 1) := by decide +kernel
theorem dX4_combine_32 : decode cX4_combine 32 = .ok (.if_icmp .ne 57, 3) := by decide +kernel
theorem dX4_combine_35 : decode cX4_combine 35 = .ok (.aload_n 0, 1) := by decide +kernel
theorem dX4_combine_36 : decode cX4_combine 36 = .ok (.getfield 21, 3) := by decide +kernel
theorem dX4_combine_39 : decode cX4_combine 39 = .ok (.iload_n 3, 1) := by decide +kernel
theorem dX4_combine_40 : decode cX4_combine 40 = .ok (.iaload, 1) := by decide +kernel
theorem dX4_combine_41 : decode cX4_combine 41 = .ok (.ifCond .eq 48, 3) := by decide +kernel
theorem dX4_combine_44 : decode cX4_combine 44 = .ok (.aload_n 0, 1) := by decide +kernel
theorem dX4_combine_45 : decode cX4_combine 45 = .ok (.dup, 1) := by decide +kernel
theorem dX4_combine_46 : decode cX4_combine 46 = .ok (.getfield 58, 3) := by decide +kernel
theorem dX4_combine_49 : decode cX4_combine 49 = .ok (.aload_n 0, 1) := by decide +kernel
theorem dX4_combine_50 : decode cX4_combine 50 = .ok (.getfield 21, 3) := by decide +kernel
theorem dX4_combine_53 : decode cX4_combine 53 = .ok (.iload_n 3, 1) := by decide +kernel
theorem dX4_combine_54 : decode cX4_combine 54 = .ok (.iaload, 1) := by decide +kernel
theorem dX4_combine_55 : decode cX4_combine 55 = .ok (.ixor, 1) := by decide +kernel
theorem dX4_combine_56 : decode cX4_combine 56 = .ok (.putfield 58, 3) := by decide +kernel
theorem dX4_combine_59 : decode cX4_combine 59 = .ok (.aload_n 0, 1) := by decide +kernel
theorem dX4_combine_60 : decode cX4_combine 60 = .ok (.dup, 1) := by decide +kernel
theorem dX4_combine_61 : decode cX4_combine 61 = .ok (.getfield 65, 3) := by decide +kernel
theorem dX4_combine_64 : decode cX4_combine 64 = .ok (.aload_n 0, 1) := by decide +kernel
theorem dX4_combine_65 : decode cX4_combine 65 = .ok (.getfield 24, 3) := by decide +kernel
theorem dX4_combine_68 : decode cX4_combine 68 = .ok (.iload_n 3, 1) := by decide +kernel
theorem dX4_combine_69 : decode cX4_combine 69 = .ok (.iaload, 1) := by decide +kernel
theorem dX4_combine_70 : decode cX4_combine 70 = .ok (.ixor, 1) := by decide +kernel
theorem dX4_combine_71 : decode cX4_combine 71 = .ok (.putfield 65, 3) := by decide +kernel
theorem dX4_combine_74 : decode cX4_combine 74 = .ok (.aload_n 0, 1) := by decide +kernel
theorem dX4_combine_75 : decode cX4_combine 75 = .ok (.dup, 1) := by decide +kernel
theorem dX4_combine_76 : decode cX4_combine 76 = .ok (.getfield 68, 3) := by decide +kernel
theorem dX4_combine_79 : decode cX4_combine 79 = .ok (.aload_n 0, 1) := by decide +kernel
theorem dX4_combine_80 : decode cX4_combine 80 = .ok (.getfield 27, 3) := by decide +kernel
theorem dX4_combine_83 : decode cX4_combine 83 = .ok (.iload_n 3, 1) := by decide +kernel
theorem dX4_combine_84 : decode cX4_combine 84 = .ok (.iaload, 1) := by decide +kernel
theorem dX4_combine_85 : decode cX4_combine 85 = .ok (.ixor, 1) := by decide +kernel
theorem dX4_combine_86 : decode cX4_combine 86 = .ok (.putfield 68, 3) := by decide +kernel
theorem dX4_combine_89 : decode cX4_combine 89 = .ok (.iinc 3 1, 3) := by decide +kernel
theorem dX4_combine_92 : decode cX4_combine 92 = .ok (.goto (-75), 3) := by decide +kernel
theorem dX4_combine_95 : decode cX4_combine 95 = .ok (.return_, 1) := by decide +kernel
theorem dX4_reasonsWith_0 : decode cX4_reasonsWith 0 = .ok (.iconst 0, 1) := by decide +kernel
theorem dX4_reasonsWith_1 : decode cX4_reasonsWith 1 = .ok (.istore_n 2, 1) := by decide +kernel
theorem dX4_reasonsWith_2 : decode cX4_reasonsWith 2 = .ok (.iconst 0, 1) := by decide +kernel
theorem dX4_reasonsWith_3 : decode cX4_reasonsWith 3 = .ok (.istore_n 3, 1) := by decide +kernel
theorem dX4_reasonsWith_4 : decode cX4_reasonsWith 4 = .ok (.iload_n 3, 1) := by decide +kernel
theorem dX4_reasonsWith_5 : decode cX4_reasonsWith 5 = .ok (.aload_n 0, 1) := by decide +kernel
theorem dX4_reasonsWith_6 : decode cX4_reasonsWith 6 = .ok (.getfield 40, 3) := by decide +kernel
theorem dX4_reasonsWith_9 : decode cX4_reasonsWith 9 = .ok (.if_icmp .ge 22, 3) := by decide +kernel
theorem dX4_reasonsWith_12 : decode cX4_reasonsWith 12 = .ok (.iload_n 2, 1) := by decide +kernel
theorem dX4_reasonsWith_13 : decode cX4_reasonsWith 13 = .ok (.aload_n 0, 1) := by decide +kernel
theorem dX4_reasonsWith_14 : decode cX4_reasonsWith 14 = .ok (.getfield 15, 3) := by decide +kernel
theorem dX4_reasonsWith_17 : decode cX4_reasonsWith 17 = .ok (.iload_n 3, 1) := by decide +kernel
theorem dX4_reasonsWith_18 : decode cX4_reasonsWith 18 = .ok (.iaload, 1) := by decide +kernel
theorem dX4_reasonsWith_19 : decode cX4_reasonsWith 19 = .ok (.iload_n 1, 1) := by decide +kernel
theorem dX4_reasonsWith_20 : decode cX4_reasonsWith 20 = .ok (.ishr, 1) := by decide +kernel
theorem dX4_reasonsWith_21 : decode cX4_reasonsWith 21 = .ok (.iconst 1, 1) := by decide +kernel
theorem dX4_reasonsWith_22 : decode cX4_reasonsWith 22 = .ok (.iand, 1) := by decide +kernel
theorem dX4_reasonsWith_23 : decode cX4_reasonsWith 23 = .ok (.iadd, 1) := by decide +kernel
theorem dX4_reasonsWith_24 : decode cX4_reasonsWith 24 = .ok (.istore_n 2, 1) := by decide +kernel
theorem dX4_reasonsWith_25 : decode cX4_reasonsWith 25 = .ok (.iinc 3 1, 3) := by decide +kernel
theorem dX4_reasonsWith_28 : decode cX4_reasonsWith 28 = .ok (.goto (-24), 3) := by decide +kernel
theorem dX4_reasonsWith_31 : decode cX4_reasonsWith 31 = .ok (.iload_n 2, 1) := by decide +kernel
theorem dX4_reasonsWith_32 : decode cX4_reasonsWith 32 = .ok (.ireturn, 1) := by decide +kernel
set_option maxRecDepth 20000 in
theorem ggX4_settled_X4_sumOf : GoodIn wsX4_settled wsX4_sumOf := goodIn_r _ [6, 7, 8, 9, 10, 11, 5, 12, 13, 14, 15, 16, 17, 18, 19, 20, 21, 22, 23, 24, 25, 26, 27, 28] (by decide +kernel) (by decide +kernel)
set_option maxRecDepth 20000 in
theorem gX4_settled_X4_sumOf : GoodIn wsX4_settled (wsV RX4 74 RX4 yX4_sumOf wsX4_sumOf) := goodIn_app (goodIn_of _ (by decide +kernel)) ggX4_settled_X4_sumOf
theorem dX4_settled_0 : decode cX4_settled 0 = .ok (.iconst 0, 1) := by decide +kernel
theorem dX4_settled_1 : decode cX4_settled 1 = .ok (.istore_n 1, 1) := by decide +kernel
theorem dX4_settled_2 : decode cX4_settled 2 = .ok (.iconst 0, 1) := by decide +kernel
theorem dX4_settled_3 : decode cX4_settled 3 = .ok (.istore_n 2, 1) := by decide +kernel
theorem dX4_settled_4 : decode cX4_settled 4 = .ok (.iload_n 2, 1) := by decide +kernel
theorem dX4_settled_5 : decode cX4_settled 5 = .ok (.aload_n 0, 1) := by decide +kernel
theorem dX4_settled_6 : decode cX4_settled 6 = .ok (.getfield 39, 3) := by decide +kernel
theorem dX4_settled_9 : decode cX4_settled 9 = .ok (.if_icmp .ge 27, 3) := by decide +kernel
theorem dX4_settled_12 : decode cX4_settled 12 = .ok (.aload_n 0, 1) := by decide +kernel
theorem dX4_settled_13 : decode cX4_settled 13 = .ok (.iconst 1, 1) := by decide +kernel
theorem dX4_settled_14 : decode cX4_settled 14 = .ok (.iload_n 2, 1) := by decide +kernel
theorem dX4_settled_15 : decode cX4_settled 15 = .ok (.ishl, 1) := by decide +kernel
theorem dX4_settled_16 : decode cX4_settled 16 = .ok (.invokevirtual 74, 3) := by decide +kernel
theorem dX4_settled_19 : decode cX4_settled 19 = .ok (.bipush (-6), 2) := by decide +kernel
theorem dX4_settled_21 : decode cX4_settled 21 = .ok (.if_icmp .eq 9, 3) := by decide +kernel
theorem dX4_settled_24 : decode cX4_settled 24 = .ok (.iload_n 1, 1) := by decide +kernel
theorem dX4_settled_25 : decode cX4_settled 25 = .ok (.iconst 1, 1) := by decide +kernel
theorem dX4_settled_26 : decode cX4_settled 26 = .ok (.iload_n 2, 1) := by decide +kernel
theorem dX4_settled_27 : decode cX4_settled 27 = .ok (.ishl, 1) := by decide +kernel
theorem dX4_settled_28 : decode cX4_settled 28 = .ok (.ior, 1) := by decide +kernel
theorem dX4_settled_29 : decode cX4_settled 29 = .ok (.istore_n 1, 1) := by decide +kernel
theorem dX4_settled_30 : decode cX4_settled 30 = .ok (.iinc 2 1, 3) := by decide +kernel
theorem dX4_settled_33 : decode cX4_settled 33 = .ok (.goto (-29), 3) := by decide +kernel
theorem dX4_settled_36 : decode cX4_settled 36 = .ok (.iload_n 1, 1) := by decide +kernel
theorem dX4_settled_37 : decode cX4_settled 37 = .ok (.ireturn, 1) := by decide +kernel
set_option maxRecDepth 20000 in
theorem ggX4_boundTo_X4_sumOf : GoodIn wsX4_boundTo wsX4_sumOf := goodIn_r _ [6, 7, 8, 9, 10, 11, 5, 12, 13, 14, 15, 16, 17, 18, 19, 20, 21, 22, 23, 24, 25, 26, 27, 28] (by decide +kernel) (by decide +kernel)
set_option maxRecDepth 20000 in
theorem gX4_boundTo_X4_sumOf : GoodIn wsX4_boundTo (wsV RX4 74 RX4 yX4_sumOf wsX4_sumOf) := goodIn_app (goodIn_of _ (by decide +kernel)) ggX4_boundTo_X4_sumOf
theorem dX4_boundTo_0 : decode cX4_boundTo 0 = .ok (.iconst 1, 1) := by decide +kernel
theorem dX4_boundTo_1 : decode cX4_boundTo 1 = .ok (.iload_n 1, 1) := by decide +kernel
theorem dX4_boundTo_2 : decode cX4_boundTo 2 = .ok (.ishl, 1) := by decide +kernel
theorem dX4_boundTo_3 : decode cX4_boundTo 3 = .ok (.istore_n 2, 1) := by decide +kernel
theorem dX4_boundTo_4 : decode cX4_boundTo 4 = .ok (.aload_n 0, 1) := by decide +kernel
theorem dX4_boundTo_5 : decode cX4_boundTo 5 = .ok (.iload_n 2, 1) := by decide +kernel
theorem dX4_boundTo_6 : decode cX4_boundTo 6 = .ok (.invokevirtual 74, 3) := by decide +kernel
theorem dX4_boundTo_9 : decode cX4_boundTo 9 = .ok (.bipush (-6), 2) := by decide +kernel
theorem dX4_boundTo_11 : decode cX4_boundTo 11 = .ok (.if_icmp .eq 5, 3) := by decide +kernel
theorem dX4_boundTo_14 : decode cX4_boundTo 14 = .ok (.iconst 0, 1) := by decide +kernel
theorem dX4_boundTo_15 : decode cX4_boundTo 15 = .ok (.ireturn, 1) := by decide +kernel
theorem dX4_boundTo_16 : decode cX4_boundTo 16 = .ok (.iconst 0, 1) := by decide +kernel
theorem dX4_boundTo_17 : decode cX4_boundTo 17 = .ok (.istore_n 3, 1) := by decide +kernel
theorem dX4_boundTo_18 : decode cX4_boundTo 18 = .ok (.iconst 0, 1) := by decide +kernel
theorem dX4_boundTo_19 : decode cX4_boundTo 19 = .ok (.istore 4, 2) := by decide +kernel
theorem dX4_boundTo_21 : decode cX4_boundTo 21 = .ok (.iload 4, 2) := by decide +kernel
theorem dX4_boundTo_23 : decode cX4_boundTo 23 = .ok (.aload_n 0, 1) := by decide +kernel
theorem dX4_boundTo_24 : decode cX4_boundTo 24 = .ok (.getfield 39, 3) := by decide +kernel
theorem dX4_boundTo_27 : decode cX4_boundTo 27 = .ok (.if_icmp .ge 37, 3) := by decide +kernel
theorem dX4_boundTo_30 : decode cX4_boundTo 30 = .ok (.iload 4, 2) := by decide +kernel
theorem dX4_boundTo_32 : decode cX4_boundTo 32 = .ok (.iload_n 1, 1) := by decide +kernel
theorem dX4_boundTo_33 : decode cX4_boundTo 33 = .ok (.if_icmp .eq 25, 3) := by decide +kernel
theorem dX4_boundTo_36 : decode cX4_boundTo 36 = .ok (.aload_n 0, 1) := by decide +kernel
theorem dX4_boundTo_37 : decode cX4_boundTo 37 = .ok (.iload_n 2, 1) := by decide +kernel
theorem dX4_boundTo_38 : decode cX4_boundTo 38 = .ok (.iconst 1, 1) := by decide +kernel
theorem dX4_boundTo_39 : decode cX4_boundTo 39 = .ok (.iload 4, 2) := by decide +kernel
theorem dX4_boundTo_41 : decode cX4_boundTo 41 = .ok (.ishl, 1) := by decide +kernel
theorem dX4_boundTo_42 : decode cX4_boundTo 42 = .ok (.ior, 1) := by decide +kernel
theorem dX4_boundTo_43 : decode cX4_boundTo 43 = .ok (.invokevirtual 74, 3) := by decide +kernel
theorem dX4_boundTo_46 : decode cX4_boundTo 46 = .ok (.bipush (-6), 2) := by decide +kernel
theorem dX4_boundTo_48 : decode cX4_boundTo 48 = .ok (.if_icmp .eq 10, 3) := by decide +kernel
theorem dX4_boundTo_51 : decode cX4_boundTo 51 = .ok (.iload_n 3, 1) := by decide +kernel
theorem dX4_boundTo_52 : decode cX4_boundTo 52 = .ok (.iconst 1, 1) := by decide +kernel
theorem dX4_boundTo_53 : decode cX4_boundTo 53 = .ok (.iload 4, 2) := by decide +kernel
theorem dX4_boundTo_55 : decode cX4_boundTo 55 = .ok (.ishl, 1) := by decide +kernel
theorem dX4_boundTo_56 : decode cX4_boundTo 56 = .ok (.ior, 1) := by decide +kernel
theorem dX4_boundTo_57 : decode cX4_boundTo 57 = .ok (.istore_n 3, 1) := by decide +kernel
theorem dX4_boundTo_58 : decode cX4_boundTo 58 = .ok (.iinc 4 1, 3) := by decide +kernel
theorem dX4_boundTo_61 : decode cX4_boundTo 61 = .ok (.goto (-40), 3) := by decide +kernel
theorem dX4_boundTo_64 : decode cX4_boundTo 64 = .ok (.iload_n 3, 1) := by decide +kernel
theorem dX4_boundTo_65 : decode cX4_boundTo 65 = .ok (.ireturn, 1) := by decide +kernel
theorem dX4_answers_0 : decode cX4_answers 0 = .ok (.iconst 1, 1) := by decide +kernel
theorem dX4_answers_1 : decode cX4_answers 1 = .ok (.aload_n 0, 1) := by decide +kernel
theorem dX4_answers_2 : decode cX4_answers 2 = .ok (.getfield 39, 3) := by decide +kernel
theorem dX4_answers_5 : decode cX4_answers 5 = .ok (.aload_n 0, 1) := by decide +kernel
theorem dX4_answers_6 : decode cX4_answers 6 = .ok (.getfield 18, 3) := by decide +kernel
theorem dX4_answers_9 : decode cX4_answers 9 = .ok (.iconst 0, 1) := by decide +kernel
theorem dX4_answers_10 : decode cX4_answers 10 = .ok (.iaload, 1) := by decide +kernel
theorem dX4_answers_11 : decode cX4_answers 11 = .ok (.isub, 1) := by decide +kernel
theorem dX4_answers_12 : decode cX4_answers 12 = .ok (.ishl, 1) := by decide +kernel
theorem dX4_answers_13 : decode cX4_answers 13 = .ok (.ireturn, 1) := by decide +kernel
set_option maxRecDepth 20000 in
theorem ggX4_answerAt_X5_parity : GoodIn wsX4_answerAt wsX5_parity := goodIn_r _ [7, 8, 9, 10, 11, 12, 13, 14] (by decide +kernel) (by decide +kernel)
set_option maxRecDepth 20000 in
theorem gX4_answerAt_X5_parity_n77 : GoodIn wsX4_answerAt (wsX5_parity) := ggX4_answerAt_X5_parity
theorem dX4_answerAt_0 : decode cX4_answerAt 0 = .ok (.aload_n 0, 1) := by decide +kernel
theorem dX4_answerAt_1 : decode cX4_answerAt 1 = .ok (.getfield 39, 3) := by decide +kernel
theorem dX4_answerAt_4 : decode cX4_answerAt 4 = .ok (.aload_n 0, 1) := by decide +kernel
theorem dX4_answerAt_5 : decode cX4_answerAt 5 = .ok (.getfield 18, 3) := by decide +kernel
theorem dX4_answerAt_8 : decode cX4_answerAt 8 = .ok (.iconst 0, 1) := by decide +kernel
theorem dX4_answerAt_9 : decode cX4_answerAt 9 = .ok (.iaload, 1) := by decide +kernel
theorem dX4_answerAt_10 : decode cX4_answerAt 10 = .ok (.isub, 1) := by decide +kernel
theorem dX4_answerAt_11 : decode cX4_answerAt 11 = .ok (.istore_n 2, 1) := by decide +kernel
theorem dX4_answerAt_12 : decode cX4_answerAt 12 = .ok (.iconst 0, 1) := by decide +kernel
theorem dX4_answerAt_13 : decode cX4_answerAt 13 = .ok (.istore_n 3, 1) := by decide +kernel
theorem dX4_answerAt_14 : decode cX4_answerAt 14 = .ok (.aload_n 0, 1) := by decide +kernel
theorem dX4_answerAt_15 : decode cX4_answerAt 15 = .ok (.getfield 39, 3) := by decide +kernel
theorem dX4_answerAt_18 : decode cX4_answerAt 18 = .ok (.iconst 1, 1) := by decide +kernel
theorem dX4_answerAt_19 : decode cX4_answerAt 19 = .ok (.isub, 1) := by decide +kernel
theorem dX4_answerAt_20 : decode cX4_answerAt 20 = .ok (.istore 4, 2) := by decide +kernel
theorem dX4_answerAt_22 : decode cX4_answerAt 22 = .ok (.iload 4, 2) := by decide +kernel
theorem dX4_answerAt_24 : decode cX4_answerAt 24 = .ok (.ifCond .lt 62, 3) := by decide +kernel
theorem dX4_answerAt_27 : decode cX4_answerAt 27 = .ok (.aload_n 0, 1) := by decide +kernel
theorem dX4_answerAt_28 : decode cX4_answerAt 28 = .ok (.getfield 21, 3) := by decide +kernel
theorem dX4_answerAt_31 : decode cX4_answerAt 31 = .ok (.iload 4, 2) := by decide +kernel
theorem dX4_answerAt_33 : decode cX4_answerAt 33 = .ok (.iaload, 1) := by decide +kernel
theorem dX4_answerAt_34 : decode cX4_answerAt 34 = .ok (.ifCond .ne 16, 3) := by decide +kernel
theorem dX4_answerAt_37 : decode cX4_answerAt 37 = .ok (.iinc 2 (-1), 3) := by decide +kernel
theorem dX4_answerAt_40 : decode cX4_answerAt 40 = .ok (.iload_n 1, 1) := by decide +kernel
theorem dX4_answerAt_41 : decode cX4_answerAt 41 = .ok (.iload_n 2, 1) := by decide +kernel
theorem dX4_answerAt_42 : decode cX4_answerAt 42 = .ok (.ishr, 1) := by decide +kernel
theorem dX4_answerAt_43 : decode cX4_answerAt 43 = .ok (.iconst 1, 1) := by decide +kernel
theorem dX4_answerAt_44 : decode cX4_answerAt 44 = .ok (.iand, 1) := by decide +kernel
theorem dX4_answerAt_45 : decode cX4_answerAt 45 = .ok (.istore 5, 2) := by decide +kernel
theorem dX4_answerAt_47 : decode cX4_answerAt 47 = .ok (.goto 25, 3) := by decide +kernel
theorem dX4_answerAt_50 : decode cX4_answerAt 50 = .ok (.aload_n 0, 1) := by decide +kernel
theorem dX4_answerAt_51 : decode cX4_answerAt 51 = .ok (.getfield 24, 3) := by decide +kernel
theorem dX4_answerAt_54 : decode cX4_answerAt 54 = .ok (.iload 4, 2) := by decide +kernel
theorem dX4_answerAt_56 : decode cX4_answerAt 56 = .ok (.iaload, 1) := by decide +kernel
theorem dX4_answerAt_57 : decode cX4_answerAt 57 = .ok (.aload_n 0, 1) := by decide +kernel
theorem dX4_answerAt_58 : decode cX4_answerAt 58 = .ok (.getfield 21, 3) := by decide +kernel
theorem dX4_answerAt_61 : decode cX4_answerAt 61 = .ok (.iload 4, 2) := by decide +kernel
theorem dX4_answerAt_63 : decode cX4_answerAt 63 = .ok (.iaload, 1) := by decide +kernel
theorem dX4_answerAt_64 : decode cX4_answerAt 64 = .ok (.iload_n 3, 1) := by decide +kernel
theorem dX4_answerAt_65 : decode cX4_answerAt 65 = .ok (.iand, 1) := by decide +kernel
theorem dX4_answerAt_66 : decode cX4_answerAt 66 = .ok (.invokestatic 77, 3) := by decide +kernel
theorem dX4_answerAt_69 : decode cX4_answerAt 69 = .ok (.ixor, 1) := by decide +kernel
theorem dX4_answerAt_70 : decode cX4_answerAt 70 = .ok (.istore 5, 2) := by decide +kernel
theorem dX4_answerAt_72 : decode cX4_answerAt 72 = .ok (.iload_n 3, 1) := by decide +kernel
theorem dX4_answerAt_73 : decode cX4_answerAt 73 = .ok (.iload 5, 2) := by decide +kernel
theorem dX4_answerAt_75 : decode cX4_answerAt 75 = .ok (.iload 4, 2) := by decide +kernel
theorem dX4_answerAt_77 : decode cX4_answerAt 77 = .ok (.ishl, 1) := by decide +kernel
theorem dX4_answerAt_78 : decode cX4_answerAt 78 = .ok (.ior, 1) := by decide +kernel
theorem dX4_answerAt_79 : decode cX4_answerAt 79 = .ok (.istore_n 3, 1) := by decide +kernel
theorem dX4_answerAt_80 : decode cX4_answerAt 80 = .ok (.iinc 4 (-1), 3) := by decide +kernel
theorem dX4_answerAt_83 : decode cX4_answerAt 83 = .ok (.goto (-61), 3) := by decide +kernel
theorem dX4_answerAt_86 : decode cX4_answerAt 86 = .ok (.iload_n 3, 1) := by decide +kernel
theorem dX4_answerAt_87 : decode cX4_answerAt 87 = .ok (.ireturn, 1) := by decide +kernel
set_option maxRecDepth 20000 in
theorem ggX4_nearestTo_X4_fillExchanges : GoodIn wsX4_nearestTo wsX4_fillExchanges := goodIn_r _ [6, 7, 8, 1, 9, 10, 11, 5, 12, 13, 14, 15, 16, 17, 18, 19, 20, 21, 22, 23, 24, 32, 33, 34, 35, 36, 37, 38, 39, 40, 41, 42, 43] (by decide +kernel) (by decide +kernel)
set_option maxRecDepth 20000 in
theorem gX4_nearestTo_X4_fillExchanges : GoodIn wsX4_nearestTo (wsV RX4 80 RX4 yX4_fillExchanges wsX4_fillExchanges) := goodIn_app (goodIn_of _ (by decide +kernel)) ggX4_nearestTo_X4_fillExchanges
set_option maxRecDepth 20000 in
theorem ggX4_nearestTo_X4_answerAt : GoodIn wsX4_nearestTo wsX4_answerAt := goodIn_r _ [12, 7, 8, 13, 14, 15, 16, 17, 18, 19, 20, 21, 22, 23, 24, 32, 33, 34, 35, 36, 37, 38, 39, 40, 41, 42, 43] (by decide +kernel) (by decide +kernel)
set_option maxRecDepth 20000 in
theorem gX4_nearestTo_X4_answerAt : GoodIn wsX4_nearestTo (wsV RX4 83 RX4 yX4_answerAt wsX4_answerAt) := goodIn_app (goodIn_of _ (by decide +kernel)) ggX4_nearestTo_X4_answerAt
set_option maxRecDepth 20000 in
theorem ggX4_nearestTo_J6_bitCount_0f7a4 : GoodIn wsX4_nearestTo wsJ6_bitCount_0f7a4 := goodIn_r _ [21, 22, 23, 24] (by decide +kernel) (by decide +kernel)
set_option maxRecDepth 20000 in
theorem gX4_nearestTo_J6_bitCount_0f7a4 : GoodIn wsX4_nearestTo (va_wsS RX4 86 yJ6_bitCount_0f7a4 wsJ6_bitCount_0f7a4) := goodIn_app (goodIn_of _ (by decide +kernel)) ggX4_nearestTo_J6_bitCount_0f7a4
set_option maxRecDepth 20000 in
theorem ggX4_nearestTo_X4_answers : GoodIn wsX4_nearestTo wsX4_answers := goodIn_r _ [29, 7, 8, 32, 33, 34, 35, 36, 37, 38, 39, 40, 41, 42, 43] (by decide +kernel) (by decide +kernel)
set_option maxRecDepth 20000 in
theorem gX4_nearestTo_X4_answers : GoodIn wsX4_nearestTo (wsV RX4 91 RX4 yX4_answers wsX4_answers) := goodIn_app (goodIn_of _ (by decide +kernel)) ggX4_nearestTo_X4_answers
set_option maxRecDepth 20000 in
theorem ggX4_nearestTo_X5_lowestBit : GoodIn wsX4_nearestTo wsX5_lowestBit := goodIn_r _ [31, 18, 19, 20, 21, 22, 23, 24] (by decide +kernel) (by decide +kernel)
set_option maxRecDepth 20000 in
theorem gX4_nearestTo_X5_lowestBit_n61 : GoodIn wsX4_nearestTo (wsX5_lowestBit) := ggX4_nearestTo_X5_lowestBit
theorem dX4_nearestTo_0 : decode cX4_nearestTo 0 = .ok (.aload_n 0, 1) := by decide +kernel
theorem dX4_nearestTo_1 : decode cX4_nearestTo 1 = .ok (.invokevirtual 80, 3) := by decide +kernel
theorem dX4_nearestTo_4 : decode cX4_nearestTo 4 = .ok (.aload_n 0, 1) := by decide +kernel
theorem dX4_nearestTo_5 : decode cX4_nearestTo 5 = .ok (.iconst 0, 1) := by decide +kernel
theorem dX4_nearestTo_6 : decode cX4_nearestTo 6 = .ok (.invokevirtual 83, 3) := by decide +kernel
theorem dX4_nearestTo_9 : decode cX4_nearestTo 9 = .ok (.istore_n 2, 1) := by decide +kernel
theorem dX4_nearestTo_10 : decode cX4_nearestTo 10 = .ok (.iload_n 2, 1) := by decide +kernel
theorem dX4_nearestTo_11 : decode cX4_nearestTo 11 = .ok (.istore_n 3, 1) := by decide +kernel
theorem dX4_nearestTo_12 : decode cX4_nearestTo 12 = .ok (.iload_n 2, 1) := by decide +kernel
theorem dX4_nearestTo_13 : decode cX4_nearestTo 13 = .ok (.iload_n 1, 1) := by decide +kernel
theorem dX4_nearestTo_14 : decode cX4_nearestTo 14 = .ok (.ixor, 1) := by decide +kernel
theorem dX4_nearestTo_15 : decode cX4_nearestTo 15 = .ok (.invokestatic 86, 3) := by decide +kernel
theorem dX4_nearestTo_18 : decode cX4_nearestTo 18 = .ok (.istore 4, 2) := by decide +kernel
theorem dX4_nearestTo_20 : decode cX4_nearestTo 20 = .ok (.aload_n 0, 1) := by decide +kernel
theorem dX4_nearestTo_21 : decode cX4_nearestTo 21 = .ok (.invokevirtual 91, 3) := by decide +kernel
theorem dX4_nearestTo_24 : decode cX4_nearestTo 24 = .ok (.iconst 1, 1) := by decide +kernel
theorem dX4_nearestTo_25 : decode cX4_nearestTo 25 = .ok (.isub, 1) := by decide +kernel
theorem dX4_nearestTo_26 : decode cX4_nearestTo 26 = .ok (.istore 5, 2) := by decide +kernel
theorem dX4_nearestTo_28 : decode cX4_nearestTo 28 = .ok (.iconst 1, 1) := by decide +kernel
theorem dX4_nearestTo_29 : decode cX4_nearestTo 29 = .ok (.istore 6, 2) := by decide +kernel
theorem dX4_nearestTo_31 : decode cX4_nearestTo 31 = .ok (.iload 6, 2) := by decide +kernel
theorem dX4_nearestTo_33 : decode cX4_nearestTo 33 = .ok (.iload 5, 2) := by decide +kernel
theorem dX4_nearestTo_35 : decode cX4_nearestTo 35 = .ok (.if_icmp .gt 43, 3) := by decide +kernel
theorem dX4_nearestTo_38 : decode cX4_nearestTo 38 = .ok (.iload_n 2, 1) := by decide +kernel
theorem dX4_nearestTo_39 : decode cX4_nearestTo 39 = .ok (.aload_n 0, 1) := by decide +kernel
theorem dX4_nearestTo_40 : decode cX4_nearestTo 40 = .ok (.getfield 30, 3) := by decide +kernel
theorem dX4_nearestTo_43 : decode cX4_nearestTo 43 = .ok (.iload 6, 2) := by decide +kernel
theorem dX4_nearestTo_45 : decode cX4_nearestTo 45 = .ok (.invokestatic 61, 3) := by decide +kernel
theorem dX4_nearestTo_48 : decode cX4_nearestTo 48 = .ok (.iaload, 1) := by decide +kernel
theorem dX4_nearestTo_49 : decode cX4_nearestTo 49 = .ok (.ixor, 1) := by decide +kernel
theorem dX4_nearestTo_50 : decode cX4_nearestTo 50 = .ok (.istore_n 2, 1) := by decide +kernel
theorem dX4_nearestTo_51 : decode cX4_nearestTo 51 = .ok (.iload_n 2, 1) := by decide +kernel
theorem dX4_nearestTo_52 : decode cX4_nearestTo 52 = .ok (.iload_n 1, 1) := by decide +kernel
theorem dX4_nearestTo_53 : decode cX4_nearestTo 53 = .ok (.ixor, 1) := by decide +kernel
theorem dX4_nearestTo_54 : decode cX4_nearestTo 54 = .ok (.invokestatic 86, 3) := by decide +kernel
theorem dX4_nearestTo_57 : decode cX4_nearestTo 57 = .ok (.istore 7, 2) := by decide +kernel
theorem dX4_nearestTo_59 : decode cX4_nearestTo 59 = .ok (.iload 7, 2) := by decide +kernel
theorem dX4_nearestTo_61 : decode cX4_nearestTo 61 = .ok (.iload 4, 2) := by decide +kernel
theorem dX4_nearestTo_63 : decode cX4_nearestTo 63 = .ok (.if_icmp .ge 9, 3) := by decide +kernel
theorem dX4_nearestTo_66 : decode cX4_nearestTo 66 = .ok (.iload 7, 2) := by decide +kernel
theorem dX4_nearestTo_68 : decode cX4_nearestTo 68 = .ok (.istore 4, 2) := by decide +kernel
theorem dX4_nearestTo_70 : decode cX4_nearestTo 70 = .ok (.iload_n 2, 1) := by decide +kernel
theorem dX4_nearestTo_71 : decode cX4_nearestTo 71 = .ok (.istore_n 3, 1) := by decide +kernel
theorem dX4_nearestTo_72 : decode cX4_nearestTo 72 = .ok (.iinc 6 1, 3) := by decide +kernel
theorem dX4_nearestTo_75 : decode cX4_nearestTo 75 = .ok (.goto (-44), 3) := by decide +kernel
theorem dX4_nearestTo_78 : decode cX4_nearestTo 78 = .ok (.iload_n 3, 1) := by decide +kernel
theorem dX4_nearestTo_79 : decode cX4_nearestTo 79 = .ok (.ireturn, 1) := by decide +kernel
set_option maxRecDepth 20000 in
theorem ggX4_fillExchanges_X4_answerAt : GoodIn wsX4_fillExchanges wsX4_answerAt := goodIn_r _ [8, 1, 2, 9, 10, 11, 12, 13, 14, 15, 16, 17, 18, 19, 20, 21, 22, 23, 24, 25, 26, 27, 28, 29, 30, 31, 32] (by decide +kernel) (by decide +kernel)
set_option maxRecDepth 20000 in
theorem gX4_fillExchanges_X4_answerAt : GoodIn wsX4_fillExchanges (wsV RX4 83 RX4 yX4_answerAt wsX4_answerAt) := goodIn_app (goodIn_of _ (by decide +kernel)) ggX4_fillExchanges_X4_answerAt
theorem dX4_fillExchanges_0 : decode cX4_fillExchanges 0 = .ok (.aload_n 0, 1) := by decide +kernel
theorem dX4_fillExchanges_1 : decode cX4_fillExchanges 1 = .ok (.iconst 0, 1) := by decide +kernel
theorem dX4_fillExchanges_2 : decode cX4_fillExchanges 2 = .ok (.invokevirtual 83, 3) := by decide +kernel
theorem dX4_fillExchanges_5 : decode cX4_fillExchanges 5 = .ok (.istore_n 1, 1) := by decide +kernel
theorem dX4_fillExchanges_6 : decode cX4_fillExchanges 6 = .ok (.aload_n 0, 1) := by decide +kernel
theorem dX4_fillExchanges_7 : decode cX4_fillExchanges 7 = .ok (.getfield 39, 3) := by decide +kernel
theorem dX4_fillExchanges_10 : decode cX4_fillExchanges 10 = .ok (.aload_n 0, 1) := by decide +kernel
theorem dX4_fillExchanges_11 : decode cX4_fillExchanges 11 = .ok (.getfield 18, 3) := by decide +kernel
theorem dX4_fillExchanges_14 : decode cX4_fillExchanges 14 = .ok (.iconst 0, 1) := by decide +kernel
theorem dX4_fillExchanges_15 : decode cX4_fillExchanges 15 = .ok (.iaload, 1) := by decide +kernel
theorem dX4_fillExchanges_16 : decode cX4_fillExchanges 16 = .ok (.isub, 1) := by decide +kernel
theorem dX4_fillExchanges_17 : decode cX4_fillExchanges 17 = .ok (.istore_n 2, 1) := by decide +kernel
theorem dX4_fillExchanges_18 : decode cX4_fillExchanges 18 = .ok (.iconst 0, 1) := by decide +kernel
theorem dX4_fillExchanges_19 : decode cX4_fillExchanges 19 = .ok (.istore_n 3, 1) := by decide +kernel
theorem dX4_fillExchanges_20 : decode cX4_fillExchanges 20 = .ok (.iload_n 3, 1) := by decide +kernel
theorem dX4_fillExchanges_21 : decode cX4_fillExchanges 21 = .ok (.iload_n 2, 1) := by decide +kernel
theorem dX4_fillExchanges_22 : decode cX4_fillExchanges 22 = .ok (.if_icmp .ge 26, 3) := by decide +kernel
theorem dX4_fillExchanges_25 : decode cX4_fillExchanges 25 = .ok (.aload_n 0, 1) := by decide +kernel
theorem dX4_fillExchanges_26 : decode cX4_fillExchanges 26 = .ok (.getfield 30, 3) := by decide +kernel
theorem dX4_fillExchanges_29 : decode cX4_fillExchanges 29 = .ok (.iload_n 3, 1) := by decide +kernel
theorem dX4_fillExchanges_30 : decode cX4_fillExchanges 30 = .ok (.iload_n 1, 1) := by decide +kernel
theorem dX4_fillExchanges_31 : decode cX4_fillExchanges 31 = .ok (.aload_n 0, 1) := by decide +kernel
theorem dX4_fillExchanges_32 : decode cX4_fillExchanges 32 = .ok (.iconst 2, 1) := by decide +kernel
theorem dX4_fillExchanges_33 : decode cX4_fillExchanges 33 = .ok (.iload_n 3, 1) := by decide +kernel
theorem dX4_fillExchanges_34 : decode cX4_fillExchanges 34 = .ok (.ishl, 1) := by decide +kernel
theorem dX4_fillExchanges_35 : decode cX4_fillExchanges 35 = .ok (.iconst 1, 1) := by decide +kernel
theorem dX4_fillExchanges_36 : decode cX4_fillExchanges 36 = .ok (.isub, 1) := by decide +kernel
theorem dX4_fillExchanges_37 : decode cX4_fillExchanges 37 = .ok (.invokevirtual 83, 3) := by decide +kernel
theorem dX4_fillExchanges_40 : decode cX4_fillExchanges 40 = .ok (.ixor, 1) := by decide +kernel
theorem dX4_fillExchanges_41 : decode cX4_fillExchanges 41 = .ok (.iastore, 1) := by decide +kernel
theorem dX4_fillExchanges_42 : decode cX4_fillExchanges 42 = .ok (.iinc 3 1, 3) := by decide +kernel
theorem dX4_fillExchanges_45 : decode cX4_fillExchanges 45 = .ok (.goto (-25), 3) := by decide +kernel
theorem dX4_fillExchanges_48 : decode cX4_fillExchanges 48 = .ok (.return_, 1) := by decide +kernel
set_option maxRecDepth 20000 in
theorem ggX5_init_X3_init : GoodIn wsX5_init wsX3_init := goodIn_r _ [33, 34, 2, 3, 35, 14, 36, 37, 98, 99, 100, 101] (by decide +kernel) (by decide +kernel)
set_option maxRecDepth 20000 in
theorem gX5_init_X3_init_n9 : GoodIn wsX5_init (wsX3_init) := ggX5_init_X3_init
set_option maxRecDepth 20000 in
theorem ggX5_init_X4_init : GoodIn wsX5_init wsX4_init := goodIn_r _ [39, 40, 2, 3, 14, 41, 42, 43, 44, 45, 46, 47, 113, 114, 115, 116, 117, 118, 119, 120, 121, 122, 123, 124] (by decide +kernel) (by decide +kernel)
set_option maxRecDepth 20000 in
theorem gX5_init_X4_init_n18 : GoodIn wsX5_init (wsX4_init) := ggX5_init_X4_init
set_option maxRecDepth 20000 in
theorem ggX5_init_X0_init : GoodIn wsX5_init wsX0_init := goodIn_r _ [49, 50, 2, 3, 14, 51, 125, 126, 127, 128] (by decide +kernel) (by decide +kernel)
set_option maxRecDepth 20000 in
theorem gX5_init_X0_init_n35 : GoodIn wsX5_init (wsX0_init) := ggX5_init_X0_init
set_option maxRecDepth 20000 in
theorem ggX5_init_X2_init : GoodIn wsX5_init wsX2_init := goodIn_r _ [53, 54, 2, 3, 55, 56, 129, 130, 131, 132, 133, 134] (by decide +kernel) (by decide +kernel)
set_option maxRecDepth 20000 in
theorem gX5_init_X2_init_n42 : GoodIn wsX5_init (wsX2_init) := ggX5_init_X2_init
set_option maxRecDepth 20000 in
theorem ggX5_init_X1_init : GoodIn wsX5_init wsX1_init := goodIn_r _ [59, 60, 2, 3, 61, 62, 5, 6, 32, 33, 34, 35, 14, 36, 37, 135, 136, 98, 99, 100, 101] (by decide +kernel) (by decide +kernel)
set_option maxRecDepth 20000 in
theorem gX5_init_X1_init : GoodIn wsX5_init (wsX1_init) := ggX5_init_X1_init
set_option maxRecDepth 20000 in
theorem ggX5_init_X4_judge : GoodIn wsX5_init wsX4_judge := goodIn_r _ [66, 67, 68, 69, 43, 44, 70, 71, 72, 73, 74, 75, 10, 76, 77, 45, 78, 46, 79, 41, 42, 80, 81, 82, 83, 84, 85, 86, 87, 88, 89, 90, 91, 92, 93, 94, 95, 96, 97, 98, 99, 100, 101, 113, 114, 115, 116, 117, 118, 119, 120, 121, 122, 123, 124] (by decide +kernel) (by decide +kernel)
set_option maxRecDepth 20000 in
theorem gX5_init_X4_judge : GoodIn wsX5_init (wsV RX5 65 RX4 yX4_judge wsX4_judge) := goodIn_app (goodIn_of _ (by decide +kernel)) ggX5_init_X4_judge
theorem dX5_init_0 : decode cX5_init 0 = .ok (.aload_n 0, 1) := by decide +kernel
theorem dX5_init_1 : decode cX5_init 1 = .ok (.invokespecial 1, 3) := by decide +kernel
theorem dX5_init_4 : decode cX5_init 4 = .ok (.aload_n 0, 1) := by decide +kernel
theorem dX5_init_5 : decode cX5_init 5 = .ok (.new 7, 3) := by decide +kernel
theorem dX5_init_8 : decode cX5_init 8 = .ok (.dup, 1) := by decide +kernel
theorem dX5_init_9 : decode cX5_init 9 = .ok (.invokespecial 9, 3) := by decide +kernel
theorem dX5_init_12 : decode cX5_init 12 = .ok (.putfield 10, 3) := by decide +kernel
theorem dX5_init_15 : decode cX5_init 15 = .ok (.aload_n 0, 1) := by decide +kernel
theorem dX5_init_16 : decode cX5_init 16 = .ok (.new 16, 3) := by decide +kernel
theorem dX5_init_19 : decode cX5_init 19 = .ok (.dup, 1) := by decide +kernel
theorem dX5_init_20 : decode cX5_init 20 = .ok (.invokespecial 18, 3) := by decide +kernel
theorem dX5_init_23 : decode cX5_init 23 = .ok (.putfield 19, 3) := by decide +kernel
theorem dX5_init_26 : decode cX5_init 26 = .ok (.aload_n 0, 1) := by decide +kernel
theorem dX5_init_27 : decode cX5_init 27 = .ok (.new 7, 3) := by decide +kernel
theorem dX5_init_30 : decode cX5_init 30 = .ok (.dup, 1) := by decide +kernel
theorem dX5_init_31 : decode cX5_init 31 = .ok (.invokespecial 9, 3) := by decide +kernel
theorem dX5_init_34 : decode cX5_init 34 = .ok (.putfield 23, 3) := by decide +kernel
theorem dX5_init_37 : decode cX5_init 37 = .ok (.aload_n 0, 1) := by decide +kernel
theorem dX5_init_38 : decode cX5_init 38 = .ok (.new 16, 3) := by decide +kernel
theorem dX5_init_41 : decode cX5_init 41 = .ok (.dup, 1) := by decide +kernel
theorem dX5_init_42 : decode cX5_init 42 = .ok (.invokespecial 18, 3) := by decide +kernel
theorem dX5_init_45 : decode cX5_init 45 = .ok (.putfield 26, 3) := by decide +kernel
theorem dX5_init_48 : decode cX5_init 48 = .ok (.aload_n 0, 1) := by decide +kernel
theorem dX5_init_49 : decode cX5_init 49 = .ok (.bipush 20, 2) := by decide +kernel
theorem dX5_init_51 : decode cX5_init 51 = .ok (.newarray .int, 2) := by decide +kernel
theorem dX5_init_53 : decode cX5_init 53 = .ok (.putfield 29, 3) := by decide +kernel
theorem dX5_init_56 : decode cX5_init 56 = .ok (.aload_n 0, 1) := by decide +kernel
theorem dX5_init_57 : decode cX5_init 57 = .ok (.new 33, 3) := by decide +kernel
theorem dX5_init_60 : decode cX5_init 60 = .ok (.dup, 1) := by decide +kernel
theorem dX5_init_61 : decode cX5_init 61 = .ok (.invokespecial 35, 3) := by decide +kernel
theorem dX5_init_64 : decode cX5_init 64 = .ok (.putfield 36, 3) := by decide +kernel
theorem dX5_init_67 : decode cX5_init 67 = .ok (.aload_n 0, 1) := by decide +kernel
theorem dX5_init_68 : decode cX5_init 68 = .ok (.new 40, 3) := by decide +kernel
theorem dX5_init_71 : decode cX5_init 71 = .ok (.dup, 1) := by decide +kernel
theorem dX5_init_72 : decode cX5_init 72 = .ok (.invokespecial 42, 3) := by decide +kernel
theorem dX5_init_75 : decode cX5_init 75 = .ok (.putfield 43, 3) := by decide +kernel
theorem dX5_init_78 : decode cX5_init 78 = .ok (.aload_n 0, 1) := by decide +kernel
theorem dX5_init_79 : decode cX5_init 79 = .ok (.new 7, 3) := by decide +kernel
theorem dX5_init_82 : decode cX5_init 82 = .ok (.dup, 1) := by decide +kernel
theorem dX5_init_83 : decode cX5_init 83 = .ok (.invokespecial 9, 3) := by decide +kernel
theorem dX5_init_86 : decode cX5_init 86 = .ok (.putfield 47, 3) := by decide +kernel
theorem dX5_init_89 : decode cX5_init 89 = .ok (.aload_n 0, 1) := by decide +kernel
theorem dX5_init_90 : decode cX5_init 90 = .ok (.new 50, 3) := by decide +kernel
theorem dX5_init_93 : decode cX5_init 93 = .ok (.dup, 1) := by decide +kernel
theorem dX5_init_94 : decode cX5_init 94 = .ok (.invokespecial 52, 3) := by decide +kernel
theorem dX5_init_97 : decode cX5_init 97 = .ok (.putfield 53, 3) := by decide +kernel
theorem dX5_init_100 : decode cX5_init 100 = .ok (.aload_n 0, 1) := by decide +kernel
theorem dX5_init_101 : decode cX5_init 101 = .ok (.iconst 2, 1) := by decide +kernel
theorem dX5_init_102 : decode cX5_init 102 = .ok (.anewarray 7, 3) := by decide +kernel
theorem dX5_init_105 : decode cX5_init 105 = .ok (.putfield 57, 3) := by decide +kernel
theorem dX5_init_108 : decode cX5_init 108 = .ok (.aload_n 0, 1) := by decide +kernel
theorem dX5_init_109 : decode cX5_init 109 = .ok (.iconst 2, 1) := by decide +kernel
theorem dX5_init_110 : decode cX5_init 110 = .ok (.newarray .boolean, 2) := by decide +kernel
theorem dX5_init_112 : decode cX5_init 112 = .ok (.putfield 61, 3) := by decide +kernel
theorem dX5_init_115 : decode cX5_init 115 = .ok (.iconst 0, 1) := by decide +kernel
theorem dX5_init_116 : decode cX5_init 116 = .ok (.istore_n 1, 1) := by decide +kernel
theorem dX5_init_117 : decode cX5_init 117 = .ok (.iload_n 1, 1) := by decide +kernel
theorem dX5_init_118 : decode cX5_init 118 = .ok (.iconst 2, 1) := by decide +kernel
theorem dX5_init_119 : decode cX5_init 119 = .ok (.if_icmp .ge 22, 3) := by decide +kernel
theorem dX5_init_122 : decode cX5_init 122 = .ok (.aload_n 0, 1) := by decide +kernel
theorem dX5_init_123 : decode cX5_init 123 = .ok (.getfield 57, 3) := by decide +kernel
theorem dX5_init_126 : decode cX5_init 126 = .ok (.iload_n 1, 1) := by decide +kernel
theorem dX5_init_127 : decode cX5_init 127 = .ok (.new 7, 3) := by decide +kernel
theorem dX5_init_130 : decode cX5_init 130 = .ok (.dup, 1) := by decide +kernel
theorem dX5_init_131 : decode cX5_init 131 = .ok (.invokespecial 9, 3) := by decide +kernel
theorem dX5_init_134 : decode cX5_init 134 = .ok (.aastore, 1) := by decide +kernel
theorem dX5_init_135 : decode cX5_init 135 = .ok (.iinc 1 1, 3) := by decide +kernel
theorem dX5_init_138 : decode cX5_init 138 = .ok (.goto (-21), 3) := by decide +kernel
theorem dX5_init_141 : decode cX5_init 141 = .ok (.aload_n 0, 1) := by decide +kernel
theorem dX5_init_142 : decode cX5_init 142 = .ok (.getfield 19, 3) := by decide +kernel
theorem dX5_init_145 : decode cX5_init 145 = .ok (.aload_n 0, 1) := by decide +kernel
theorem dX5_init_146 : decode cX5_init 146 = .ok (.getfield 10, 3) := by decide +kernel
theorem dX5_init_149 : decode cX5_init 149 = .ok (.invokevirtual 65, 3) := by decide +kernel
theorem dX5_init_152 : decode cX5_init 152 = .ok (.return_, 1) := by decide +kernel
set_option maxRecDepth 20000 in
theorem ggX5_choices_X3_setsStayBelow : GoodIn wsX5_choices wsX3_setsStayBelow := goodIn_r _ [9, 10, 11, 86, 87, 88, 89] (by decide +kernel) (by decide +kernel)
set_option maxRecDepth 20000 in
theorem gX5_choices_X3_setsStayBelow : GoodIn wsX5_choices (wsV RX5 69 RX3 yX3_setsStayBelow wsX3_setsStayBelow) := goodIn_app (goodIn_of _ (by decide +kernel)) ggX5_choices_X3_setsStayBelow
set_option maxRecDepth 20000 in
theorem ggX5_choices_X1_remember : GoodIn wsX5_choices wsX1_remember := goodIn_r _ [16, 17, 18, 19, 20, 21, 15, 22, 23, 24, 25, 8, 26, 27, 10, 11, 28, 29, 30, 31, 32, 90, 91, 86, 87, 88, 89] (by decide +kernel) (by decide +kernel)
set_option maxRecDepth 20000 in
theorem gX5_choices_X1_remember : GoodIn wsX5_choices (wsV RX5 77 RX1 yX1_remember wsX1_remember) := goodIn_app (goodIn_of _ (by decide +kernel)) ggX5_choices_X1_remember
set_option maxRecDepth 20000 in
theorem ggX5_choices_X4_judge : GoodIn wsX5_choices wsX4_judge := goodIn_r _ [37, 38, 39, 40, 41, 42, 43, 44, 45, 46, 47, 48, 36, 49, 50, 51, 52, 53, 54, 55, 56, 57, 58, 59, 60, 61, 62, 63, 64, 65, 66, 67, 68, 69, 70, 71, 72, 73, 74, 86, 87, 88, 89, 92, 93, 94, 95, 96, 97, 98, 99, 100, 101, 102, 103] (by decide +kernel) (by decide +kernel)
set_option maxRecDepth 20000 in
theorem gX5_choices_X4_judge : GoodIn wsX5_choices (wsV RX5 65 RX4 yX4_judge wsX4_judge) := goodIn_app (goodIn_of _ (by decide +kernel)) ggX5_choices_X4_judge
theorem dX5_choices_0 : decode cX5_choices 0 = .ok (.iload_n 1, 1) := by decide +kernel
theorem dX5_choices_1 : decode cX5_choices 1 = .ok (.iconst 1, 1) := by decide +kernel
theorem dX5_choices_2 : decode cX5_choices 2 = .ok (.if_icmp .lt 9, 3) := by decide +kernel
theorem dX5_choices_5 : decode cX5_choices 5 = .ok (.iload_n 1, 1) := by decide +kernel
theorem dX5_choices_6 : decode cX5_choices 6 = .ok (.bipush 12, 2) := by decide +kernel
theorem dX5_choices_8 : decode cX5_choices 8 = .ok (.if_icmp .le 6, 3) := by decide +kernel
theorem dX5_choices_11 : decode cX5_choices 11 = .ok (.bipush (-2), 2) := by decide +kernel
theorem dX5_choices_13 : decode cX5_choices 13 = .ok (.ireturn, 1) := by decide +kernel
theorem dX5_choices_14 : decode cX5_choices 14 = .ok (.aload_n 0, 1) := by decide +kernel
theorem dX5_choices_15 : decode cX5_choices 15 = .ok (.getfield 10, 3) := by decide +kernel
theorem dX5_choices_18 : decode cX5_choices 18 = .ok (.iload_n 1, 1) := by decide +kernel
theorem dX5_choices_19 : decode cX5_choices 19 = .ok (.invokevirtual 69, 3) := by decide +kernel
theorem dX5_choices_22 : decode cX5_choices 22 = .ok (.ifCond .ne 6, 3) := by decide +kernel
theorem dX5_choices_25 : decode cX5_choices 25 = .ok (.bipush (-5), 2) := by decide +kernel
theorem dX5_choices_27 : decode cX5_choices 27 = .ok (.ireturn, 1) := by decide +kernel
theorem dX5_choices_28 : decode cX5_choices 28 = .ok (.aload_n 0, 1) := by decide +kernel
theorem dX5_choices_29 : decode cX5_choices 29 = .ok (.getfield 10, 3) := by decide +kernel
theorem dX5_choices_32 : decode cX5_choices 32 = .ok (.getfield 73, 3) := by decide +kernel
theorem dX5_choices_35 : decode cX5_choices 35 = .ok (.istore_n 2, 1) := by decide +kernel
theorem dX5_choices_36 : decode cX5_choices 36 = .ok (.aload_n 0, 1) := by decide +kernel
theorem dX5_choices_37 : decode cX5_choices 37 = .ok (.getfield 53, 3) := by decide +kernel
theorem dX5_choices_40 : decode cX5_choices 40 = .ok (.aload_n 0, 1) := by decide +kernel
theorem dX5_choices_41 : decode cX5_choices 41 = .ok (.getfield 10, 3) := by decide +kernel
theorem dX5_choices_44 : decode cX5_choices 44 = .ok (.invokevirtual 77, 3) := by decide +kernel
theorem dX5_choices_47 : decode cX5_choices 47 = .ok (.aload_n 0, 1) := by decide +kernel
theorem dX5_choices_48 : decode cX5_choices 48 = .ok (.getfield 10, 3) := by decide +kernel
theorem dX5_choices_51 : decode cX5_choices 51 = .ok (.iload_n 1, 1) := by decide +kernel
theorem dX5_choices_52 : decode cX5_choices 52 = .ok (.putfield 73, 3) := by decide +kernel
theorem dX5_choices_55 : decode cX5_choices 55 = .ok (.aload_n 0, 1) := by decide +kernel
theorem dX5_choices_56 : decode cX5_choices 56 = .ok (.getfield 19, 3) := by decide +kernel
theorem dX5_choices_59 : decode cX5_choices 59 = .ok (.aload_n 0, 1) := by decide +kernel
theorem dX5_choices_60 : decode cX5_choices 60 = .ok (.getfield 10, 3) := by decide +kernel
theorem dX5_choices_63 : decode cX5_choices 63 = .ok (.invokevirtual 65, 3) := by decide +kernel
theorem dX5_choices_66 : decode cX5_choices 66 = .ok (.iload_n 2, 1) := by decide +kernel
theorem dX5_choices_67 : decode cX5_choices 67 = .ok (.ireturn, 1) := by decide +kernel
set_option maxRecDepth 20000 in
theorem ggX5_tell_X5_isRule : GoodIn wsX5_tell wsX5_isRule := goodIn_r _ [10, 1, 11, 12, 13, 14, 15, 16, 84, 85, 86, 87, 88, 89, 90, 91, 92, 93, 94, 95, 96, 97, 98] (by decide +kernel) (by decide +kernel)
set_option maxRecDepth 20000 in
theorem gX5_tell_X5_isRule : GoodIn wsX5_tell (wsV RX5 80 RX5 yX5_isRule wsX5_isRule) := goodIn_app (goodIn_of _ (by decide +kernel)) ggX5_tell_X5_isRule
set_option maxRecDepth 20000 in
theorem ggX5_tell_X1_remember : GoodIn wsX5_tell wsX1_remember := goodIn_r _ [21, 22, 23, 24, 25, 26, 20, 27, 28, 29, 30, 14, 31, 16, 32, 33, 34, 35, 36, 37, 38, 111, 112, 95, 96, 97, 98] (by decide +kernel) (by decide +kernel)
set_option maxRecDepth 20000 in
theorem gX5_tell_X1_remember : GoodIn wsX5_tell (wsV RX5 77 RX1 yX1_remember wsX1_remember) := goodIn_app (goodIn_of _ (by decide +kernel)) ggX5_tell_X1_remember
set_option maxRecDepth 20000 in
theorem ggX5_tell_X3_append : GoodIn wsX5_tell wsX3_append := goodIn_r _ [42, 32, 33, 38, 95, 96, 97, 98] (by decide +kernel) (by decide +kernel)
set_option maxRecDepth 20000 in
theorem gX5_tell_X3_append : GoodIn wsX5_tell (wsV RX5 87 RX3 yX3_append wsX3_append) := goodIn_app (goodIn_of _ (by decide +kernel)) ggX5_tell_X3_append
set_option maxRecDepth 20000 in
theorem ggX5_tell_X4_judge : GoodIn wsX5_tell wsX4_judge := goodIn_r _ [47, 48, 49, 50, 51, 52, 53, 54, 55, 56, 57, 58, 46, 59, 60, 61, 62, 63, 64, 65, 66, 67, 68, 69, 70, 71, 72, 73, 74, 75, 9, 76, 77, 78, 79, 80, 81, 82, 83, 95, 96, 97, 98, 99, 100, 101, 102, 103, 104, 105, 106, 107, 108, 109, 110] (by decide +kernel) (by decide +kernel)
set_option maxRecDepth 20000 in
theorem gX5_tell_X4_judge : GoodIn wsX5_tell (wsV RX5 65 RX4 yX4_judge wsX4_judge) := goodIn_app (goodIn_of _ (by decide +kernel)) ggX5_tell_X4_judge
theorem dX5_tell_0 : decode cX5_tell 0 = .ok (.aload_n 0, 1) := by decide +kernel
theorem dX5_tell_1 : decode cX5_tell 1 = .ok (.iload_n 1, 1) := by decide +kernel
theorem dX5_tell_2 : decode cX5_tell 2 = .ok (.iload_n 2, 1) := by decide +kernel
theorem dX5_tell_3 : decode cX5_tell 3 = .ok (.invokevirtual 80, 3) := by decide +kernel
theorem dX5_tell_6 : decode cX5_tell 6 = .ok (.ifCond .ne 6, 3) := by decide +kernel
theorem dX5_tell_9 : decode cX5_tell 9 = .ok (.bipush (-2), 2) := by decide +kernel
theorem dX5_tell_11 : decode cX5_tell 11 = .ok (.ireturn, 1) := by decide +kernel
theorem dX5_tell_12 : decode cX5_tell 12 = .ok (.aload_n 0, 1) := by decide +kernel
theorem dX5_tell_13 : decode cX5_tell 13 = .ok (.getfield 10, 3) := by decide +kernel
theorem dX5_tell_16 : decode cX5_tell 16 = .ok (.getfield 84, 3) := by decide +kernel
theorem dX5_tell_19 : decode cX5_tell 19 = .ok (.bipush 20, 2) := by decide +kernel
theorem dX5_tell_21 : decode cX5_tell 21 = .ok (.if_icmp .lt 6, 3) := by decide +kernel
theorem dX5_tell_24 : decode cX5_tell 24 = .ok (.bipush (-4), 2) := by decide +kernel
theorem dX5_tell_26 : decode cX5_tell 26 = .ok (.ireturn, 1) := by decide +kernel
theorem dX5_tell_27 : decode cX5_tell 27 = .ok (.aload_n 0, 1) := by decide +kernel
theorem dX5_tell_28 : decode cX5_tell 28 = .ok (.getfield 53, 3) := by decide +kernel
theorem dX5_tell_31 : decode cX5_tell 31 = .ok (.aload_n 0, 1) := by decide +kernel
theorem dX5_tell_32 : decode cX5_tell 32 = .ok (.getfield 10, 3) := by decide +kernel
theorem dX5_tell_35 : decode cX5_tell 35 = .ok (.invokevirtual 77, 3) := by decide +kernel
theorem dX5_tell_38 : decode cX5_tell 38 = .ok (.aload_n 0, 1) := by decide +kernel
theorem dX5_tell_39 : decode cX5_tell 39 = .ok (.getfield 10, 3) := by decide +kernel
theorem dX5_tell_42 : decode cX5_tell 42 = .ok (.iload_n 1, 1) := by decide +kernel
theorem dX5_tell_43 : decode cX5_tell 43 = .ok (.iload_n 2, 1) := by decide +kernel
theorem dX5_tell_44 : decode cX5_tell 44 = .ok (.invokevirtual 87, 3) := by decide +kernel
theorem dX5_tell_47 : decode cX5_tell 47 = .ok (.aload_n 0, 1) := by decide +kernel
theorem dX5_tell_48 : decode cX5_tell 48 = .ok (.getfield 19, 3) := by decide +kernel
theorem dX5_tell_51 : decode cX5_tell 51 = .ok (.aload_n 0, 1) := by decide +kernel
theorem dX5_tell_52 : decode cX5_tell 52 = .ok (.getfield 10, 3) := by decide +kernel
theorem dX5_tell_55 : decode cX5_tell 55 = .ok (.invokevirtual 65, 3) := by decide +kernel
theorem dX5_tell_58 : decode cX5_tell 58 = .ok (.aload_n 0, 1) := by decide +kernel
theorem dX5_tell_59 : decode cX5_tell 59 = .ok (.getfield 19, 3) := by decide +kernel
theorem dX5_tell_62 : decode cX5_tell 62 = .ok (.getfield 91, 3) := by decide +kernel
theorem dX5_tell_65 : decode cX5_tell 65 = .ok (.aload_n 0, 1) := by decide +kernel
theorem dX5_tell_66 : decode cX5_tell 66 = .ok (.getfield 10, 3) := by decide +kernel
theorem dX5_tell_69 : decode cX5_tell 69 = .ok (.getfield 84, 3) := by decide +kernel
theorem dX5_tell_72 : decode cX5_tell 72 = .ok (.iconst 1, 1) := by decide +kernel
theorem dX5_tell_73 : decode cX5_tell 73 = .ok (.isub, 1) := by decide +kernel
theorem dX5_tell_74 : decode cX5_tell 74 = .ok (.iaload, 1) := by decide +kernel
theorem dX5_tell_75 : decode cX5_tell 75 = .ok (.ireturn, 1) := by decide +kernel
set_option maxRecDepth 20000 in
theorem ggX5_drop_X3_hasPlace : GoodIn wsX5_drop wsX3_hasPlace := goodIn_r _ [9, 10, 96, 97, 98, 99] (by decide +kernel) (by decide +kernel)
set_option maxRecDepth 20000 in
theorem gX5_drop_X3_hasPlace : GoodIn wsX5_drop (wsV RX5 94 RX3 yX3_hasPlace wsX3_hasPlace) := goodIn_app (goodIn_of _ (by decide +kernel)) ggX5_drop_X3_hasPlace
set_option maxRecDepth 20000 in
theorem ggX5_drop_X1_remember : GoodIn wsX5_drop wsX1_remember := goodIn_r _ [15, 16, 17, 18, 19, 20, 14, 21, 22, 23, 24, 8, 25, 26, 10, 27, 28, 29, 30, 31, 32, 100, 101, 96, 97, 98, 99] (by decide +kernel) (by decide +kernel)
set_option maxRecDepth 20000 in
theorem gX5_drop_X1_remember : GoodIn wsX5_drop (wsV RX5 77 RX1 yX1_remember wsX1_remember) := goodIn_app (goodIn_of _ (by decide +kernel)) ggX5_drop_X1_remember
set_option maxRecDepth 20000 in
theorem ggX5_drop_X3_takeOut : GoodIn wsX5_drop wsX3_takeOut := goodIn_r _ [36, 10, 37, 38, 39, 8, 40, 27, 32, 41, 42, 43, 96, 97, 98, 99] (by decide +kernel) (by decide +kernel)
set_option maxRecDepth 20000 in
theorem gX5_drop_X3_takeOut : GoodIn wsX5_drop (wsV RX5 97 RX3 yX3_takeOut wsX3_takeOut) := goodIn_app (goodIn_of _ (by decide +kernel)) ggX5_drop_X3_takeOut
set_option maxRecDepth 20000 in
theorem ggX5_drop_X4_judge : GoodIn wsX5_drop wsX4_judge := goodIn_r _ [48, 49, 50, 51, 52, 53, 54, 55, 56, 57, 58, 59, 47, 60, 61, 62, 63, 64, 65, 66, 67, 68, 69, 70, 71, 72, 73, 74, 75, 76, 42, 77, 78, 79, 80, 81, 82, 83, 84, 96, 97, 98, 99, 102, 103, 104, 105, 106, 107, 108, 109, 110, 111, 112, 113] (by decide +kernel) (by decide +kernel)
set_option maxRecDepth 20000 in
theorem gX5_drop_X4_judge : GoodIn wsX5_drop (wsV RX5 65 RX4 yX4_judge wsX4_judge) := goodIn_app (goodIn_of _ (by decide +kernel)) ggX5_drop_X4_judge
theorem dX5_drop_0 : decode cX5_drop 0 = .ok (.aload_n 0, 1) := by decide +kernel
theorem dX5_drop_1 : decode cX5_drop 1 = .ok (.getfield 10, 3) := by decide +kernel
theorem dX5_drop_4 : decode cX5_drop 4 = .ok (.iload_n 1, 1) := by decide +kernel
theorem dX5_drop_5 : decode cX5_drop 5 = .ok (.invokevirtual 94, 3) := by decide +kernel
theorem dX5_drop_8 : decode cX5_drop 8 = .ok (.ifCond .ne 5, 3) := by decide +kernel
theorem dX5_drop_11 : decode cX5_drop 11 = .ok (.iconst (-1), 1) := by decide +kernel
theorem dX5_drop_12 : decode cX5_drop 12 = .ok (.ireturn, 1) := by decide +kernel
theorem dX5_drop_13 : decode cX5_drop 13 = .ok (.aload_n 0, 1) := by decide +kernel
theorem dX5_drop_14 : decode cX5_drop 14 = .ok (.getfield 53, 3) := by decide +kernel
theorem dX5_drop_17 : decode cX5_drop 17 = .ok (.aload_n 0, 1) := by decide +kernel
theorem dX5_drop_18 : decode cX5_drop 18 = .ok (.getfield 10, 3) := by decide +kernel
theorem dX5_drop_21 : decode cX5_drop 21 = .ok (.invokevirtual 77, 3) := by decide +kernel
theorem dX5_drop_24 : decode cX5_drop 24 = .ok (.aload_n 0, 1) := by decide +kernel
theorem dX5_drop_25 : decode cX5_drop 25 = .ok (.getfield 10, 3) := by decide +kernel
theorem dX5_drop_28 : decode cX5_drop 28 = .ok (.iload_n 1, 1) := by decide +kernel
theorem dX5_drop_29 : decode cX5_drop 29 = .ok (.invokevirtual 97, 3) := by decide +kernel
theorem dX5_drop_32 : decode cX5_drop 32 = .ok (.aload_n 0, 1) := by decide +kernel
theorem dX5_drop_33 : decode cX5_drop 33 = .ok (.getfield 19, 3) := by decide +kernel
theorem dX5_drop_36 : decode cX5_drop 36 = .ok (.aload_n 0, 1) := by decide +kernel
theorem dX5_drop_37 : decode cX5_drop 37 = .ok (.getfield 10, 3) := by decide +kernel
theorem dX5_drop_40 : decode cX5_drop 40 = .ok (.invokevirtual 65, 3) := by decide +kernel
theorem dX5_drop_43 : decode cX5_drop 43 = .ok (.aload_n 0, 1) := by decide +kernel
theorem dX5_drop_44 : decode cX5_drop 44 = .ok (.getfield 10, 3) := by decide +kernel
theorem dX5_drop_47 : decode cX5_drop 47 = .ok (.getfield 84, 3) := by decide +kernel
theorem dX5_drop_50 : decode cX5_drop 50 = .ok (.ireturn, 1) := by decide +kernel
set_option maxRecDepth 20000 in
theorem ggX5_move_X3_hasPlace : GoodIn wsX5_move wsX3_hasPlace := goodIn_r _ [15, 16, 108, 109, 110, 111] (by decide +kernel) (by decide +kernel)
set_option maxRecDepth 20000 in
theorem gX5_move_X3_hasPlace : GoodIn wsX5_move (wsV RX5 94 RX3 yX3_hasPlace wsX3_hasPlace) := goodIn_app (goodIn_of _ (by decide +kernel)) ggX5_move_X3_hasPlace
set_option maxRecDepth 20000 in
theorem ggX5_move_X1_remember : GoodIn wsX5_move wsX1_remember := goodIn_r _ [21, 22, 23, 24, 25, 26, 20, 27, 28, 29, 30, 14, 31, 32, 16, 33, 34, 7, 8, 9, 35, 112, 113, 108, 109, 110, 111] (by decide +kernel) (by decide +kernel)
set_option maxRecDepth 20000 in
theorem gX5_move_X1_remember : GoodIn wsX5_move (wsV RX5 77 RX1 yX1_remember wsX1_remember) := goodIn_app (goodIn_of _ (by decide +kernel)) ggX5_move_X1_remember
set_option maxRecDepth 20000 in
theorem ggX5_move_X5_carry : GoodIn wsX5_move wsX5_carry := goodIn_r _ [39] (by decide +kernel) (by decide +kernel)
set_option maxRecDepth 20000 in
theorem gX5_move_X5_carry : GoodIn wsX5_move (va_wsS RX5 107 yX5_carry wsX5_carry) := goodIn_app (goodIn_of _ (by decide +kernel)) ggX5_move_X5_carry
set_option maxRecDepth 20000 in
theorem ggX5_move_X3_carryRule : GoodIn wsX5_move wsX3_carryRule := goodIn_r _ [43, 33, 35, 37, 38, 39, 108, 109, 110, 111] (by decide +kernel) (by decide +kernel)
set_option maxRecDepth 20000 in
theorem gX5_move_X3_carryRule : GoodIn wsX5_move (wsV RX5 111 RX3 yX3_carryRule wsX3_carryRule) := goodIn_app (goodIn_of _ (by decide +kernel)) ggX5_move_X3_carryRule
set_option maxRecDepth 20000 in
theorem ggX5_move_X4_judge : GoodIn wsX5_move wsX4_judge := goodIn_r _ [48, 49, 50, 51, 52, 53, 54, 55, 56, 57, 58, 59, 47, 60, 61, 62, 63, 64, 65, 66, 67, 68, 69, 70, 71, 72, 73, 74, 75, 76, 38, 77, 78, 79, 80, 81, 82, 83, 84, 108, 109, 110, 111, 96, 97, 98, 99, 100, 101, 102, 103, 104, 105, 106, 107] (by decide +kernel) (by decide +kernel)
set_option maxRecDepth 20000 in
theorem gX5_move_X4_judge : GoodIn wsX5_move (wsV RX5 65 RX4 yX4_judge wsX4_judge) := goodIn_app (goodIn_of _ (by decide +kernel)) ggX5_move_X4_judge
theorem dX5_move_0 : decode cX5_move 0 = .ok (.aload_n 0, 1) := by decide +kernel
theorem dX5_move_1 : decode cX5_move 1 = .ok (.getfield 10, 3) := by decide +kernel
theorem dX5_move_4 : decode cX5_move 4 = .ok (.iload_n 1, 1) := by decide +kernel
theorem dX5_move_5 : decode cX5_move 5 = .ok (.invokevirtual 94, 3) := by decide +kernel
theorem dX5_move_8 : decode cX5_move 8 = .ok (.ifCond .eq 14, 3) := by decide +kernel
theorem dX5_move_11 : decode cX5_move 11 = .ok (.aload_n 0, 1) := by decide +kernel
theorem dX5_move_12 : decode cX5_move 12 = .ok (.getfield 10, 3) := by decide +kernel
theorem dX5_move_15 : decode cX5_move 15 = .ok (.iload_n 2, 1) := by decide +kernel
theorem dX5_move_16 : decode cX5_move 16 = .ok (.invokevirtual 94, 3) := by decide +kernel
theorem dX5_move_19 : decode cX5_move 19 = .ok (.ifCond .ne 5, 3) := by decide +kernel
theorem dX5_move_22 : decode cX5_move 22 = .ok (.iconst (-1), 1) := by decide +kernel
theorem dX5_move_23 : decode cX5_move 23 = .ok (.ireturn, 1) := by decide +kernel
theorem dX5_move_24 : decode cX5_move 24 = .ok (.aload_n 0, 1) := by decide +kernel
theorem dX5_move_25 : decode cX5_move 25 = .ok (.getfield 53, 3) := by decide +kernel
theorem dX5_move_28 : decode cX5_move 28 = .ok (.aload_n 0, 1) := by decide +kernel
theorem dX5_move_29 : decode cX5_move 29 = .ok (.getfield 10, 3) := by decide +kernel
theorem dX5_move_32 : decode cX5_move 32 = .ok (.invokevirtual 77, 3) := by decide +kernel
theorem dX5_move_35 : decode cX5_move 35 = .ok (.aload_n 0, 1) := by decide +kernel
theorem dX5_move_36 : decode cX5_move 36 = .ok (.getfield 19, 3) := by decide +kernel
theorem dX5_move_39 : decode cX5_move 39 = .ok (.getfield 91, 3) := by decide +kernel
theorem dX5_move_42 : decode cX5_move 42 = .ok (.iconst 0, 1) := by decide +kernel
theorem dX5_move_43 : decode cX5_move 43 = .ok (.aload_n 0, 1) := by decide +kernel
theorem dX5_move_44 : decode cX5_move 44 = .ok (.getfield 29, 3) := by decide +kernel
theorem dX5_move_47 : decode cX5_move 47 = .ok (.iconst 0, 1) := by decide +kernel
theorem dX5_move_48 : decode cX5_move 48 = .ok (.bipush 20, 2) := by decide +kernel
theorem dX5_move_50 : decode cX5_move 50 = .ok (.invokestatic 101, 3) := by decide +kernel
theorem dX5_move_53 : decode cX5_move 53 = .ok (.aload_n 0, 1) := by decide +kernel
theorem dX5_move_54 : decode cX5_move 54 = .ok (.getfield 29, 3) := by decide +kernel
theorem dX5_move_57 : decode cX5_move 57 = .ok (.iload_n 1, 1) := by decide +kernel
theorem dX5_move_58 : decode cX5_move 58 = .ok (.iload_n 2, 1) := by decide +kernel
theorem dX5_move_59 : decode cX5_move 59 = .ok (.invokestatic 107, 3) := by decide +kernel
theorem dX5_move_62 : decode cX5_move 62 = .ok (.aload_n 0, 1) := by decide +kernel
theorem dX5_move_63 : decode cX5_move 63 = .ok (.getfield 10, 3) := by decide +kernel
theorem dX5_move_66 : decode cX5_move 66 = .ok (.iload_n 1, 1) := by decide +kernel
theorem dX5_move_67 : decode cX5_move 67 = .ok (.iload_n 2, 1) := by decide +kernel
theorem dX5_move_68 : decode cX5_move 68 = .ok (.invokevirtual 111, 3) := by decide +kernel
theorem dX5_move_71 : decode cX5_move 71 = .ok (.aload_n 0, 1) := by decide +kernel
theorem dX5_move_72 : decode cX5_move 72 = .ok (.getfield 19, 3) := by decide +kernel
theorem dX5_move_75 : decode cX5_move 75 = .ok (.aload_n 0, 1) := by decide +kernel
theorem dX5_move_76 : decode cX5_move 76 = .ok (.getfield 10, 3) := by decide +kernel
theorem dX5_move_79 : decode cX5_move 79 = .ok (.invokevirtual 65, 3) := by decide +kernel
theorem dX5_move_82 : decode cX5_move 82 = .ok (.iconst 0, 1) := by decide +kernel
theorem dX5_move_83 : decode cX5_move 83 = .ok (.istore_n 3, 1) := by decide +kernel
theorem dX5_move_84 : decode cX5_move 84 = .ok (.iconst 0, 1) := by decide +kernel
theorem dX5_move_85 : decode cX5_move 85 = .ok (.istore 4, 2) := by decide +kernel
theorem dX5_move_87 : decode cX5_move 87 = .ok (.iload 4, 2) := by decide +kernel
theorem dX5_move_89 : decode cX5_move 89 = .ok (.aload_n 0, 1) := by decide +kernel
theorem dX5_move_90 : decode cX5_move 90 = .ok (.getfield 10, 3) := by decide +kernel
theorem dX5_move_93 : decode cX5_move 93 = .ok (.getfield 84, 3) := by decide +kernel
theorem dX5_move_96 : decode cX5_move 96 = .ok (.if_icmp .ge 32, 3) := by decide +kernel
theorem dX5_move_99 : decode cX5_move 99 = .ok (.aload_n 0, 1) := by decide +kernel
theorem dX5_move_100 : decode cX5_move 100 = .ok (.getfield 19, 3) := by decide +kernel
theorem dX5_move_103 : decode cX5_move 103 = .ok (.getfield 91, 3) := by decide +kernel
theorem dX5_move_106 : decode cX5_move 106 = .ok (.iload 4, 2) := by decide +kernel
theorem dX5_move_108 : decode cX5_move 108 = .ok (.iaload, 1) := by decide +kernel
theorem dX5_move_109 : decode cX5_move 109 = .ok (.aload_n 0, 1) := by decide +kernel
theorem dX5_move_110 : decode cX5_move 110 = .ok (.getfield 29, 3) := by decide +kernel
theorem dX5_move_113 : decode cX5_move 113 = .ok (.iload 4, 2) := by decide +kernel
theorem dX5_move_115 : decode cX5_move 115 = .ok (.iaload, 1) := by decide +kernel
theorem dX5_move_116 : decode cX5_move 116 = .ok (.if_icmp .eq 6, 3) := by decide +kernel
theorem dX5_move_119 : decode cX5_move 119 = .ok (.iinc 3 1, 3) := by decide +kernel
theorem dX5_move_122 : decode cX5_move 122 = .ok (.iinc 4 1, 3) := by decide +kernel
theorem dX5_move_125 : decode cX5_move 125 = .ok (.goto (-38), 3) := by decide +kernel
theorem dX5_move_128 : decode cX5_move 128 = .ok (.iload_n 3, 1) := by decide +kernel
theorem dX5_move_129 : decode cX5_move 129 = .ok (.ireturn, 1) := by decide +kernel
set_option maxRecDepth 20000 in
theorem ggX5_turn_X3_hasPlace : GoodIn wsX5_turn wsX3_hasPlace := goodIn_r _ [10, 11, 87, 88, 89, 90] (by decide +kernel) (by decide +kernel)
set_option maxRecDepth 20000 in
theorem gX5_turn_X3_hasPlace : GoodIn wsX5_turn (wsV RX5 94 RX3 yX3_hasPlace wsX3_hasPlace) := goodIn_app (goodIn_of _ (by decide +kernel)) ggX5_turn_X3_hasPlace
set_option maxRecDepth 20000 in
theorem ggX5_turn_X1_remember : GoodIn wsX5_turn wsX1_remember := goodIn_r _ [16, 17, 18, 19, 20, 21, 15, 22, 23, 24, 25, 9, 26, 27, 11, 28, 29, 30, 31, 32, 33, 103, 104, 87, 88, 89, 90] (by decide +kernel) (by decide +kernel)
set_option maxRecDepth 20000 in
theorem gX5_turn_X1_remember : GoodIn wsX5_turn (wsV RX5 77 RX1 yX1_remember wsX1_remember) := goodIn_app (goodIn_of _ (by decide +kernel)) ggX5_turn_X1_remember
set_option maxRecDepth 20000 in
theorem ggX5_turn_X4_judge : GoodIn wsX5_turn wsX4_judge := goodIn_r _ [38, 39, 40, 41, 42, 43, 44, 45, 46, 47, 48, 49, 37, 50, 51, 52, 53, 54, 55, 56, 57, 58, 59, 60, 61, 62, 63, 64, 65, 66, 67, 68, 69, 70, 71, 72, 73, 74, 75, 87, 88, 89, 90, 91, 92, 93, 94, 95, 96, 97, 98, 99, 100, 101, 102] (by decide +kernel) (by decide +kernel)
set_option maxRecDepth 20000 in
theorem gX5_turn_X4_judge : GoodIn wsX5_turn (wsV RX5 65 RX4 yX4_judge wsX4_judge) := goodIn_app (goodIn_of _ (by decide +kernel)) ggX5_turn_X4_judge
theorem dX5_turn_0 : decode cX5_turn 0 = .ok (.aload_n 0, 1) := by decide +kernel
theorem dX5_turn_1 : decode cX5_turn 1 = .ok (.getfield 10, 3) := by decide +kernel
theorem dX5_turn_4 : decode cX5_turn 4 = .ok (.iload_n 1, 1) := by decide +kernel
theorem dX5_turn_5 : decode cX5_turn 5 = .ok (.invokevirtual 94, 3) := by decide +kernel
theorem dX5_turn_8 : decode cX5_turn 8 = .ok (.ifCond .ne 5, 3) := by decide +kernel
theorem dX5_turn_11 : decode cX5_turn 11 = .ok (.iconst (-1), 1) := by decide +kernel
theorem dX5_turn_12 : decode cX5_turn 12 = .ok (.ireturn, 1) := by decide +kernel
theorem dX5_turn_13 : decode cX5_turn 13 = .ok (.aload_n 0, 1) := by decide +kernel
theorem dX5_turn_14 : decode cX5_turn 14 = .ok (.getfield 53, 3) := by decide +kernel
theorem dX5_turn_17 : decode cX5_turn 17 = .ok (.aload_n 0, 1) := by decide +kernel
theorem dX5_turn_18 : decode cX5_turn 18 = .ok (.getfield 10, 3) := by decide +kernel
theorem dX5_turn_21 : decode cX5_turn 21 = .ok (.invokevirtual 77, 3) := by decide +kernel
theorem dX5_turn_24 : decode cX5_turn 24 = .ok (.aload_n 0, 1) := by decide +kernel
theorem dX5_turn_25 : decode cX5_turn 25 = .ok (.getfield 10, 3) := by decide +kernel
theorem dX5_turn_28 : decode cX5_turn 28 = .ok (.getfield 114, 3) := by decide +kernel
theorem dX5_turn_31 : decode cX5_turn 31 = .ok (.iload_n 1, 1) := by decide +kernel
theorem dX5_turn_32 : decode cX5_turn 32 = .ok (.iconst 1, 1) := by decide +kernel
theorem dX5_turn_33 : decode cX5_turn 33 = .ok (.aload_n 0, 1) := by decide +kernel
theorem dX5_turn_34 : decode cX5_turn 34 = .ok (.getfield 10, 3) := by decide +kernel
theorem dX5_turn_37 : decode cX5_turn 37 = .ok (.getfield 114, 3) := by decide +kernel
theorem dX5_turn_40 : decode cX5_turn 40 = .ok (.iload_n 1, 1) := by decide +kernel
theorem dX5_turn_41 : decode cX5_turn 41 = .ok (.iaload, 1) := by decide +kernel
theorem dX5_turn_42 : decode cX5_turn 42 = .ok (.isub, 1) := by decide +kernel
theorem dX5_turn_43 : decode cX5_turn 43 = .ok (.iastore, 1) := by decide +kernel
theorem dX5_turn_44 : decode cX5_turn 44 = .ok (.aload_n 0, 1) := by decide +kernel
theorem dX5_turn_45 : decode cX5_turn 45 = .ok (.getfield 19, 3) := by decide +kernel
theorem dX5_turn_48 : decode cX5_turn 48 = .ok (.aload_n 0, 1) := by decide +kernel
theorem dX5_turn_49 : decode cX5_turn 49 = .ok (.getfield 10, 3) := by decide +kernel
theorem dX5_turn_52 : decode cX5_turn 52 = .ok (.invokevirtual 65, 3) := by decide +kernel
theorem dX5_turn_55 : decode cX5_turn 55 = .ok (.aload_n 0, 1) := by decide +kernel
theorem dX5_turn_56 : decode cX5_turn 56 = .ok (.getfield 19, 3) := by decide +kernel
theorem dX5_turn_59 : decode cX5_turn 59 = .ok (.getfield 91, 3) := by decide +kernel
theorem dX5_turn_62 : decode cX5_turn 62 = .ok (.iload_n 1, 1) := by decide +kernel
theorem dX5_turn_63 : decode cX5_turn 63 = .ok (.iaload, 1) := by decide +kernel
theorem dX5_turn_64 : decode cX5_turn 64 = .ok (.ireturn, 1) := by decide +kernel
set_option maxRecDepth 20000 in
theorem ggX5_read_X2_readInto : GoodIn wsX5_read wsX2_readInto := goodIn_r _ [15, 16, 17, 18, 19, 20, 21, 22, 14, 23, 24, 25, 26, 27, 28, 29, 30, 31, 32, 33, 34, 35, 36, 37, 38, 39, 40, 41, 42, 43, 44, 45, 46, 47, 48, 49, 50, 129, 130, 131, 132, 133, 134, 135, 136, 137, 138] (by decide +kernel) (by decide +kernel)
set_option maxRecDepth 20000 in
theorem gX5_read_X2_readInto : GoodIn wsX5_read (wsV RX5 117 RX2 yX2_readInto wsX2_readInto) := goodIn_app (goodIn_of _ (by decide +kernel)) ggX5_read_X2_readInto
set_option maxRecDepth 20000 in
theorem ggX5_read_X3_setsStayBelow : GoodIn wsX5_read wsX3_setsStayBelow := goodIn_r _ [54, 48, 49, 129, 130, 131, 132] (by decide +kernel) (by decide +kernel)
set_option maxRecDepth 20000 in
theorem gX5_read_X3_setsStayBelow : GoodIn wsX5_read (wsV RX5 69 RX3 yX3_setsStayBelow wsX3_setsStayBelow) := goodIn_app (goodIn_of _ (by decide +kernel)) ggX5_read_X3_setsStayBelow
set_option maxRecDepth 20000 in
theorem ggX5_read_X1_remember : GoodIn wsX5_read wsX1_remember := goodIn_r _ [59, 60, 61, 62, 63, 64, 58, 65, 66, 67, 68, 46, 69, 70, 48, 49, 71, 72, 73, 74, 50, 139, 140, 129, 130, 131, 132] (by decide +kernel) (by decide +kernel)
set_option maxRecDepth 20000 in
theorem gX5_read_X1_remember : GoodIn wsX5_read (wsV RX5 77 RX1 yX1_remember wsX1_remember) := goodIn_app (goodIn_of _ (by decide +kernel)) ggX5_read_X1_remember
set_option maxRecDepth 20000 in
theorem ggX5_read_X3_append : GoodIn wsX5_read wsX3_append := goodIn_r _ [47, 48, 49, 50, 129, 130, 131, 132] (by decide +kernel) (by decide +kernel)
set_option maxRecDepth 20000 in
theorem gX5_read_X3_append : GoodIn wsX5_read (wsV RX5 87 RX3 yX3_append wsX3_append) := goodIn_app (goodIn_of _ (by decide +kernel)) ggX5_read_X3_append
set_option maxRecDepth 20000 in
theorem ggX5_read_X4_judge : GoodIn wsX5_read wsX4_judge := goodIn_r _ [80, 81, 82, 83, 84, 85, 86, 87, 88, 89, 90, 91, 79, 92, 93, 94, 95, 96, 97, 98, 99, 100, 101, 102, 103, 104, 105, 106, 107, 108, 109, 110, 111, 112, 113, 114, 115, 116, 117, 129, 130, 131, 132, 141, 142, 143, 144, 145, 146, 147, 148, 149, 150, 151, 152] (by decide +kernel) (by decide +kernel)
set_option maxRecDepth 20000 in
theorem gX5_read_X4_judge : GoodIn wsX5_read (wsV RX5 65 RX4 yX4_judge wsX4_judge) := goodIn_app (goodIn_of _ (by decide +kernel)) ggX5_read_X4_judge
theorem dX5_read_0 : decode cX5_read 0 = .ok (.aload_n 0, 1) := by decide +kernel
theorem dX5_read_1 : decode cX5_read 1 = .ok (.getfield 43, 3) := by decide +kernel
theorem dX5_read_4 : decode cX5_read 4 = .ok (.aload_n 0, 1) := by decide +kernel
theorem dX5_read_5 : decode cX5_read 5 = .ok (.getfield 47, 3) := by decide +kernel
theorem dX5_read_8 : decode cX5_read 8 = .ok (.invokevirtual 117, 3) := by decide +kernel
theorem dX5_read_11 : decode cX5_read 11 = .ok (.bipush (-6), 2) := by decide +kernel
theorem dX5_read_13 : decode cX5_read 13 = .ok (.if_icmp .eq 6, 3) := by decide +kernel
theorem dX5_read_16 : decode cX5_read 16 = .ok (.bipush (-3), 2) := by decide +kernel
theorem dX5_read_18 : decode cX5_read 18 = .ok (.ireturn, 1) := by decide +kernel
theorem dX5_read_19 : decode cX5_read 19 = .ok (.aload_n 0, 1) := by decide +kernel
theorem dX5_read_20 : decode cX5_read 20 = .ok (.getfield 47, 3) := by decide +kernel
theorem dX5_read_23 : decode cX5_read 23 = .ok (.aload_n 0, 1) := by decide +kernel
theorem dX5_read_24 : decode cX5_read 24 = .ok (.getfield 10, 3) := by decide +kernel
theorem dX5_read_27 : decode cX5_read 27 = .ok (.getfield 73, 3) := by decide +kernel
theorem dX5_read_30 : decode cX5_read 30 = .ok (.invokevirtual 69, 3) := by decide +kernel
theorem dX5_read_33 : decode cX5_read 33 = .ok (.ifCond .ne 6, 3) := by decide +kernel
theorem dX5_read_36 : decode cX5_read 36 = .ok (.bipush (-2), 2) := by decide +kernel
theorem dX5_read_38 : decode cX5_read 38 = .ok (.ireturn, 1) := by decide +kernel
theorem dX5_read_39 : decode cX5_read 39 = .ok (.aload_n 0, 1) := by decide +kernel
theorem dX5_read_40 : decode cX5_read 40 = .ok (.getfield 10, 3) := by decide +kernel
theorem dX5_read_43 : decode cX5_read 43 = .ok (.getfield 84, 3) := by decide +kernel
theorem dX5_read_46 : decode cX5_read 46 = .ok (.aload_n 0, 1) := by decide +kernel
theorem dX5_read_47 : decode cX5_read 47 = .ok (.getfield 47, 3) := by decide +kernel
theorem dX5_read_50 : decode cX5_read 50 = .ok (.getfield 84, 3) := by decide +kernel
theorem dX5_read_53 : decode cX5_read 53 = .ok (.iadd, 1) := by decide +kernel
theorem dX5_read_54 : decode cX5_read 54 = .ok (.bipush 20, 2) := by decide +kernel
theorem dX5_read_56 : decode cX5_read 56 = .ok (.if_icmp .le 6, 3) := by decide +kernel
theorem dX5_read_59 : decode cX5_read 59 = .ok (.bipush (-4), 2) := by decide +kernel
theorem dX5_read_61 : decode cX5_read 61 = .ok (.ireturn, 1) := by decide +kernel
theorem dX5_read_62 : decode cX5_read 62 = .ok (.aload_n 0, 1) := by decide +kernel
theorem dX5_read_63 : decode cX5_read 63 = .ok (.getfield 53, 3) := by decide +kernel
theorem dX5_read_66 : decode cX5_read 66 = .ok (.aload_n 0, 1) := by decide +kernel
theorem dX5_read_67 : decode cX5_read 67 = .ok (.getfield 10, 3) := by decide +kernel
theorem dX5_read_70 : decode cX5_read 70 = .ok (.invokevirtual 77, 3) := by decide +kernel
theorem dX5_read_73 : decode cX5_read 73 = .ok (.iconst 0, 1) := by decide +kernel
theorem dX5_read_74 : decode cX5_read 74 = .ok (.istore_n 1, 1) := by decide +kernel
theorem dX5_read_75 : decode cX5_read 75 = .ok (.iload_n 1, 1) := by decide +kernel
theorem dX5_read_76 : decode cX5_read 76 = .ok (.aload_n 0, 1) := by decide +kernel
theorem dX5_read_77 : decode cX5_read 77 = .ok (.getfield 47, 3) := by decide +kernel
theorem dX5_read_80 : decode cX5_read 80 = .ok (.getfield 84, 3) := by decide +kernel
theorem dX5_read_83 : decode cX5_read 83 = .ok (.if_icmp .ge 34, 3) := by decide +kernel
theorem dX5_read_86 : decode cX5_read 86 = .ok (.aload_n 0, 1) := by decide +kernel
theorem dX5_read_87 : decode cX5_read 87 = .ok (.getfield 10, 3) := by decide +kernel
theorem dX5_read_90 : decode cX5_read 90 = .ok (.aload_n 0, 1) := by decide +kernel
theorem dX5_read_91 : decode cX5_read 91 = .ok (.getfield 47, 3) := by decide +kernel
theorem dX5_read_94 : decode cX5_read 94 = .ok (.getfield 121, 3) := by decide +kernel
theorem dX5_read_97 : decode cX5_read 97 = .ok (.iload_n 1, 1) := by decide +kernel
theorem dX5_read_98 : decode cX5_read 98 = .ok (.iaload, 1) := by decide +kernel
theorem dX5_read_99 : decode cX5_read 99 = .ok (.aload_n 0, 1) := by decide +kernel
theorem dX5_read_100 : decode cX5_read 100 = .ok (.getfield 47, 3) := by decide +kernel
theorem dX5_read_103 : decode cX5_read 103 = .ok (.getfield 114, 3) := by decide +kernel
theorem dX5_read_106 : decode cX5_read 106 = .ok (.iload_n 1, 1) := by decide +kernel
theorem dX5_read_107 : decode cX5_read 107 = .ok (.iaload, 1) := by decide +kernel
theorem dX5_read_108 : decode cX5_read 108 = .ok (.invokevirtual 87, 3) := by decide +kernel
theorem dX5_read_111 : decode cX5_read 111 = .ok (.iinc 1 1, 3) := by decide +kernel
theorem dX5_read_114 : decode cX5_read 114 = .ok (.goto (-39), 3) := by decide +kernel
theorem dX5_read_117 : decode cX5_read 117 = .ok (.aload_n 0, 1) := by decide +kernel
theorem dX5_read_118 : decode cX5_read 118 = .ok (.getfield 43, 3) := by decide +kernel
theorem dX5_read_121 : decode cX5_read 121 = .ok (.iconst 0, 1) := by decide +kernel
theorem dX5_read_122 : decode cX5_read 122 = .ok (.putfield 124, 3) := by decide +kernel
theorem dX5_read_125 : decode cX5_read 125 = .ok (.aload_n 0, 1) := by decide +kernel
theorem dX5_read_126 : decode cX5_read 126 = .ok (.getfield 19, 3) := by decide +kernel
theorem dX5_read_129 : decode cX5_read 129 = .ok (.aload_n 0, 1) := by decide +kernel
theorem dX5_read_130 : decode cX5_read 130 = .ok (.getfield 10, 3) := by decide +kernel
theorem dX5_read_133 : decode cX5_read 133 = .ok (.invokevirtual 65, 3) := by decide +kernel
theorem dX5_read_136 : decode cX5_read 136 = .ok (.aload_n 0, 1) := by decide +kernel
theorem dX5_read_137 : decode cX5_read 137 = .ok (.getfield 10, 3) := by decide +kernel
theorem dX5_read_140 : decode cX5_read 140 = .ok (.getfield 84, 3) := by decide +kernel
theorem dX5_read_143 : decode cX5_read 143 = .ok (.ireturn, 1) := by decide +kernel
set_option maxRecDepth 20000 in
theorem ggX5_rule_X3_hasPlace : GoodIn wsX5_rule wsX3_hasPlace := goodIn_r _ [11, 12, 49, 50, 51, 52] (by decide +kernel) (by decide +kernel)
set_option maxRecDepth 20000 in
theorem gX5_rule_X3_hasPlace : GoodIn wsX5_rule (wsV RX5 94 RX3 yX3_hasPlace wsX3_hasPlace) := goodIn_app (goodIn_of _ (by decide +kernel)) ggX5_rule_X3_hasPlace
set_option maxRecDepth 20000 in
theorem ggX5_rule_X4_reasonsWith : GoodIn wsX5_rule wsX4_reasonsWith := goodIn_r _ [17, 18, 19, 37, 38, 39, 40, 41, 42, 43, 44, 45, 46, 47, 48] (by decide +kernel) (by decide +kernel)
set_option maxRecDepth 20000 in
theorem gX5_rule_X4_reasonsWith : GoodIn wsX5_rule (wsV RX5 130 RX4 yX4_reasonsWith wsX4_reasonsWith) := goodIn_app (goodIn_of _ (by decide +kernel)) ggX5_rule_X4_reasonsWith
set_option maxRecDepth 20000 in
theorem ggX5_rule_X4_answers : GoodIn wsX5_rule wsX4_answers := goodIn_r _ [23, 24, 25, 37, 38, 39, 40, 41, 42, 43, 44, 45, 46, 47, 48] (by decide +kernel) (by decide +kernel)
set_option maxRecDepth 20000 in
theorem gX5_rule_X4_answers : GoodIn wsX5_rule (wsV RX5 134 RX4 yX4_answers wsX4_answers) := goodIn_app (goodIn_of _ (by decide +kernel)) ggX5_rule_X4_answers
theorem dX5_rule_0 : decode cX5_rule 0 = .ok (.aload_n 0, 1) := by decide +kernel
theorem dX5_rule_1 : decode cX5_rule 1 = .ok (.getfield 10, 3) := by decide +kernel
theorem dX5_rule_4 : decode cX5_rule 4 = .ok (.iload_n 1, 1) := by decide +kernel
theorem dX5_rule_5 : decode cX5_rule 5 = .ok (.invokevirtual 94, 3) := by decide +kernel
theorem dX5_rule_8 : decode cX5_rule 8 = .ok (.ifCond .ne 5, 3) := by decide +kernel
theorem dX5_rule_11 : decode cX5_rule 11 = .ok (.iconst (-1), 1) := by decide +kernel
theorem dX5_rule_12 : decode cX5_rule 12 = .ok (.ireturn, 1) := by decide +kernel
theorem dX5_rule_13 : decode cX5_rule 13 = .ok (.aload_n 0, 1) := by decide +kernel
theorem dX5_rule_14 : decode cX5_rule 14 = .ok (.getfield 19, 3) := by decide +kernel
theorem dX5_rule_17 : decode cX5_rule 17 = .ok (.getfield 91, 3) := by decide +kernel
theorem dX5_rule_20 : decode cX5_rule 20 = .ok (.iload_n 1, 1) := by decide +kernel
theorem dX5_rule_21 : decode cX5_rule 21 = .ok (.iaload, 1) := by decide +kernel
theorem dX5_rule_22 : decode cX5_rule 22 = .ok (.istore_n 3, 1) := by decide +kernel
theorem dX5_rule_23 : decode cX5_rule 23 = .ok (.iload_n 2, 1) := by decide +kernel
theorem dX5_rule_24 : decode cX5_rule 24 = .ok (.tableswitch 107 0 5 #[40, 50, 60, 62, 81, 90], 40) := by decide +kernel
theorem dX5_rule_64 : decode cX5_rule 64 = .ok (.aload_n 0, 1) := by decide +kernel
theorem dX5_rule_65 : decode cX5_rule 65 = .ok (.getfield 10, 3) := by decide +kernel
theorem dX5_rule_68 : decode cX5_rule 68 = .ok (.getfield 121, 3) := by decide +kernel
theorem dX5_rule_71 : decode cX5_rule 71 = .ok (.iload_n 1, 1) := by decide +kernel
theorem dX5_rule_72 : decode cX5_rule 72 = .ok (.iaload, 1) := by decide +kernel
theorem dX5_rule_73 : decode cX5_rule 73 = .ok (.ireturn, 1) := by decide +kernel
theorem dX5_rule_74 : decode cX5_rule 74 = .ok (.aload_n 0, 1) := by decide +kernel
theorem dX5_rule_75 : decode cX5_rule 75 = .ok (.getfield 10, 3) := by decide +kernel
theorem dX5_rule_78 : decode cX5_rule 78 = .ok (.getfield 114, 3) := by decide +kernel
theorem dX5_rule_81 : decode cX5_rule 81 = .ok (.iload_n 1, 1) := by decide +kernel
theorem dX5_rule_82 : decode cX5_rule 82 = .ok (.iaload, 1) := by decide +kernel
theorem dX5_rule_83 : decode cX5_rule 83 = .ok (.ireturn, 1) := by decide +kernel
theorem dX5_rule_84 : decode cX5_rule 84 = .ok (.iload_n 3, 1) := by decide +kernel
theorem dX5_rule_85 : decode cX5_rule 85 = .ok (.ireturn, 1) := by decide +kernel
theorem dX5_rule_86 : decode cX5_rule 86 = .ok (.iload_n 3, 1) := by decide +kernel
theorem dX5_rule_87 : decode cX5_rule 87 = .ok (.ifCond .ne 8, 3) := by decide +kernel
theorem dX5_rule_90 : decode cX5_rule 90 = .ok (.bipush (-6), 2) := by decide +kernel
theorem dX5_rule_92 : decode cX5_rule 92 = .ok (.goto 12, 3) := by decide +kernel
theorem dX5_rule_95 : decode cX5_rule 95 = .ok (.aload_n 0, 1) := by decide +kernel
theorem dX5_rule_96 : decode cX5_rule 96 = .ok (.getfield 19, 3) := by decide +kernel
theorem dX5_rule_99 : decode cX5_rule 99 = .ok (.getfield 127, 3) := by decide +kernel
theorem dX5_rule_102 : decode cX5_rule 102 = .ok (.iload_n 1, 1) := by decide +kernel
theorem dX5_rule_103 : decode cX5_rule 103 = .ok (.iaload, 1) := by decide +kernel
theorem dX5_rule_104 : decode cX5_rule 104 = .ok (.ireturn, 1) := by decide +kernel
theorem dX5_rule_105 : decode cX5_rule 105 = .ok (.aload_n 0, 1) := by decide +kernel
theorem dX5_rule_106 : decode cX5_rule 106 = .ok (.getfield 19, 3) := by decide +kernel
theorem dX5_rule_109 : decode cX5_rule 109 = .ok (.iload_n 1, 1) := by decide +kernel
theorem dX5_rule_110 : decode cX5_rule 110 = .ok (.invokevirtual 130, 3) := by decide +kernel
theorem dX5_rule_113 : decode cX5_rule 113 = .ok (.ireturn, 1) := by decide +kernel
theorem dX5_rule_114 : decode cX5_rule 114 = .ok (.iload_n 3, 1) := by decide +kernel
theorem dX5_rule_115 : decode cX5_rule 115 = .ok (.iconst 2, 1) := by decide +kernel
theorem dX5_rule_116 : decode cX5_rule 116 = .ok (.if_icmp .ne 7, 3) := by decide +kernel
theorem dX5_rule_119 : decode cX5_rule 119 = .ok (.iconst 0, 1) := by decide +kernel
theorem dX5_rule_120 : decode cX5_rule 120 = .ok (.goto 10, 3) := by decide +kernel
theorem dX5_rule_123 : decode cX5_rule 123 = .ok (.aload_n 0, 1) := by decide +kernel
theorem dX5_rule_124 : decode cX5_rule 124 = .ok (.getfield 19, 3) := by decide +kernel
theorem dX5_rule_127 : decode cX5_rule 127 = .ok (.invokevirtual 134, 3) := by decide +kernel
theorem dX5_rule_130 : decode cX5_rule 130 = .ok (.ireturn, 1) := by decide +kernel
theorem dX5_rule_131 : decode cX5_rule 131 = .ok (.bipush (-2), 2) := by decide +kernel
theorem dX5_rule_133 : decode cX5_rule 133 = .ok (.ireturn, 1) := by decide +kernel
set_option maxRecDepth 20000 in
theorem ggX5_choice_X4_sumOf : GoodIn wsX5_choice wsX4_sumOf := goodIn_r _ [8, 9, 10, 11, 12, 13, 7, 14, 15, 16, 17, 18, 47, 48, 49, 50, 51, 52, 53, 54, 55, 56, 57, 58] (by decide +kernel) (by decide +kernel)
set_option maxRecDepth 20000 in
theorem gX5_choice_X4_sumOf : GoodIn wsX5_choice (wsV RX5 138 RX4 yX4_sumOf wsX4_sumOf) := goodIn_app (goodIn_of _ (by decide +kernel)) ggX5_choice_X4_sumOf
set_option maxRecDepth 20000 in
theorem ggX5_choice_X3_rulesWith : GoodIn wsX5_choice wsX3_rulesWith := goodIn_r _ [23, 24, 25, 43, 44, 45, 46] (by decide +kernel) (by decide +kernel)
set_option maxRecDepth 20000 in
theorem gX5_choice_X3_rulesWith : GoodIn wsX5_choice (wsV RX5 141 RX3 yX3_rulesWith wsX3_rulesWith) := goodIn_app (goodIn_of _ (by decide +kernel)) ggX5_choice_X3_rulesWith
set_option maxRecDepth 20000 in
theorem ggX5_choice_X4_boundTo : GoodIn wsX5_choice wsX4_boundTo := goodIn_r _ [29, 30, 31, 5, 6, 7, 8, 9, 10, 11, 12, 13, 14, 15, 16, 17, 18, 47, 48, 49, 50, 51, 52, 53, 54, 55, 56, 57, 58] (by decide +kernel) (by decide +kernel)
set_option maxRecDepth 20000 in
theorem gX5_choice_X4_boundTo : GoodIn wsX5_choice (wsV RX5 144 RX4 yX4_boundTo wsX4_boundTo) := goodIn_app (goodIn_of _ (by decide +kernel)) ggX5_choice_X4_boundTo
theorem dX5_choice_0 : decode cX5_choice 0 = .ok (.iload_n 1, 1) := by decide +kernel
theorem dX5_choice_1 : decode cX5_choice 1 = .ok (.ifCond .lt 14, 3) := by decide +kernel
theorem dX5_choice_4 : decode cX5_choice 4 = .ok (.iload_n 1, 1) := by decide +kernel
theorem dX5_choice_5 : decode cX5_choice 5 = .ok (.aload_n 0, 1) := by decide +kernel
theorem dX5_choice_6 : decode cX5_choice 6 = .ok (.getfield 10, 3) := by decide +kernel
theorem dX5_choice_9 : decode cX5_choice 9 = .ok (.getfield 73, 3) := by decide +kernel
theorem dX5_choice_12 : decode cX5_choice 12 = .ok (.if_icmp .lt 5, 3) := by decide +kernel
theorem dX5_choice_15 : decode cX5_choice 15 = .ok (.iconst (-1), 1) := by decide +kernel
theorem dX5_choice_16 : decode cX5_choice 16 = .ok (.ireturn, 1) := by decide +kernel
theorem dX5_choice_17 : decode cX5_choice 17 = .ok (.iload_n 2, 1) := by decide +kernel
theorem dX5_choice_18 : decode cX5_choice 18 = .ok (.tableswitch 55 0 2 #[26, 37, 46], 26) := by decide +kernel
theorem dX5_choice_44 : decode cX5_choice 44 = .ok (.aload_n 0, 1) := by decide +kernel
theorem dX5_choice_45 : decode cX5_choice 45 = .ok (.getfield 19, 3) := by decide +kernel
theorem dX5_choice_48 : decode cX5_choice 48 = .ok (.iconst 1, 1) := by decide +kernel
theorem dX5_choice_49 : decode cX5_choice 49 = .ok (.iload_n 1, 1) := by decide +kernel
theorem dX5_choice_50 : decode cX5_choice 50 = .ok (.ishl, 1) := by decide +kernel
theorem dX5_choice_51 : decode cX5_choice 51 = .ok (.invokevirtual 138, 3) := by decide +kernel
theorem dX5_choice_54 : decode cX5_choice 54 = .ok (.ireturn, 1) := by decide +kernel
theorem dX5_choice_55 : decode cX5_choice 55 = .ok (.aload_n 0, 1) := by decide +kernel
theorem dX5_choice_56 : decode cX5_choice 56 = .ok (.getfield 10, 3) := by decide +kernel
theorem dX5_choice_59 : decode cX5_choice 59 = .ok (.iload_n 1, 1) := by decide +kernel
theorem dX5_choice_60 : decode cX5_choice 60 = .ok (.invokevirtual 141, 3) := by decide +kernel
theorem dX5_choice_63 : decode cX5_choice 63 = .ok (.ireturn, 1) := by decide +kernel
theorem dX5_choice_64 : decode cX5_choice 64 = .ok (.aload_n 0, 1) := by decide +kernel
theorem dX5_choice_65 : decode cX5_choice 65 = .ok (.getfield 19, 3) := by decide +kernel
theorem dX5_choice_68 : decode cX5_choice 68 = .ok (.iload_n 1, 1) := by decide +kernel
theorem dX5_choice_69 : decode cX5_choice 69 = .ok (.invokevirtual 144, 3) := by decide +kernel
theorem dX5_choice_72 : decode cX5_choice 72 = .ok (.ireturn, 1) := by decide +kernel
theorem dX5_choice_73 : decode cX5_choice 73 = .ok (.bipush (-2), 2) := by decide +kernel
theorem dX5_choice_75 : decode cX5_choice 75 = .ok (.ireturn, 1) := by decide +kernel
set_option maxRecDepth 20000 in
theorem ggX5_count_X4_answers : GoodIn wsX5_count wsX4_answers := goodIn_r _ [14, 15, 16, 50, 51, 52, 53, 54, 55, 56, 57, 58, 59, 60, 61] (by decide +kernel) (by decide +kernel)
set_option maxRecDepth 20000 in
theorem gX5_count_X4_answers : GoodIn wsX5_count (wsV RX5 134 RX4 yX4_answers wsX4_answers) := goodIn_app (goodIn_of _ (by decide +kernel)) ggX5_count_X4_answers
set_option maxRecDepth 20000 in
theorem ggX5_count_X4_settled : GoodIn wsX5_count wsX4_settled := goodIn_r _ [20, 15, 21, 22, 23, 13, 24, 25, 26, 27, 28, 29, 30, 31, 32, 33, 34, 50, 51, 52, 53, 54, 55, 56, 57, 58, 59, 60, 61] (by decide +kernel) (by decide +kernel)
set_option maxRecDepth 20000 in
theorem gX5_count_X4_settled : GoodIn wsX5_count (wsV RX5 150 RX4 yX4_settled wsX4_settled) := goodIn_app (goodIn_of _ (by decide +kernel)) ggX5_count_X4_settled
theorem dX5_count_0 : decode cX5_count 0 = .ok (.iload_n 1, 1) := by decide +kernel
theorem dX5_count_1 : decode cX5_count 1 = .ok (.tableswitch 129 0 8 #[51, 59, 69, 79, 89, 97, 105, 113, 121], 51) := by decide +kernel
theorem dX5_count_52 : decode cX5_count 52 = .ok (.aload_n 0, 1) := by decide +kernel
theorem dX5_count_53 : decode cX5_count 53 = .ok (.getfield 10, 3) := by decide +kernel
theorem dX5_count_56 : decode cX5_count 56 = .ok (.getfield 84, 3) := by decide +kernel
theorem dX5_count_59 : decode cX5_count 59 = .ok (.ireturn, 1) := by decide +kernel
theorem dX5_count_60 : decode cX5_count 60 = .ok (.aload_n 0, 1) := by decide +kernel
theorem dX5_count_61 : decode cX5_count 61 = .ok (.getfield 19, 3) := by decide +kernel
theorem dX5_count_64 : decode cX5_count 64 = .ok (.getfield 147, 3) := by decide +kernel
theorem dX5_count_67 : decode cX5_count 67 = .ok (.iconst 0, 1) := by decide +kernel
theorem dX5_count_68 : decode cX5_count 68 = .ok (.iaload, 1) := by decide +kernel
theorem dX5_count_69 : decode cX5_count 69 = .ok (.ireturn, 1) := by decide +kernel
theorem dX5_count_70 : decode cX5_count 70 = .ok (.aload_n 0, 1) := by decide +kernel
theorem dX5_count_71 : decode cX5_count 71 = .ok (.getfield 19, 3) := by decide +kernel
theorem dX5_count_74 : decode cX5_count 74 = .ok (.getfield 147, 3) := by decide +kernel
theorem dX5_count_77 : decode cX5_count 77 = .ok (.iconst 1, 1) := by decide +kernel
theorem dX5_count_78 : decode cX5_count 78 = .ok (.iaload, 1) := by decide +kernel
theorem dX5_count_79 : decode cX5_count 79 = .ok (.ireturn, 1) := by decide +kernel
theorem dX5_count_80 : decode cX5_count 80 = .ok (.aload_n 0, 1) := by decide +kernel
theorem dX5_count_81 : decode cX5_count 81 = .ok (.getfield 19, 3) := by decide +kernel
theorem dX5_count_84 : decode cX5_count 84 = .ok (.getfield 147, 3) := by decide +kernel
theorem dX5_count_87 : decode cX5_count 87 = .ok (.iconst 2, 1) := by decide +kernel
theorem dX5_count_88 : decode cX5_count 88 = .ok (.iaload, 1) := by decide +kernel
theorem dX5_count_89 : decode cX5_count 89 = .ok (.ireturn, 1) := by decide +kernel
theorem dX5_count_90 : decode cX5_count 90 = .ok (.aload_n 0, 1) := by decide +kernel
theorem dX5_count_91 : decode cX5_count 91 = .ok (.getfield 19, 3) := by decide +kernel
theorem dX5_count_94 : decode cX5_count 94 = .ok (.invokevirtual 134, 3) := by decide +kernel
theorem dX5_count_97 : decode cX5_count 97 = .ok (.ireturn, 1) := by decide +kernel
theorem dX5_count_98 : decode cX5_count 98 = .ok (.aload_n 0, 1) := by decide +kernel
theorem dX5_count_99 : decode cX5_count 99 = .ok (.getfield 19, 3) := by decide +kernel
theorem dX5_count_102 : decode cX5_count 102 = .ok (.invokevirtual 150, 3) := by decide +kernel
theorem dX5_count_105 : decode cX5_count 105 = .ok (.ireturn, 1) := by decide +kernel
theorem dX5_count_106 : decode cX5_count 106 = .ok (.aload_n 0, 1) := by decide +kernel
theorem dX5_count_107 : decode cX5_count 107 = .ok (.getfield 10, 3) := by decide +kernel
theorem dX5_count_110 : decode cX5_count 110 = .ok (.getfield 73, 3) := by decide +kernel
theorem dX5_count_113 : decode cX5_count 113 = .ok (.ireturn, 1) := by decide +kernel
theorem dX5_count_114 : decode cX5_count 114 = .ok (.aload_n 0, 1) := by decide +kernel
theorem dX5_count_115 : decode cX5_count 115 = .ok (.getfield 43, 3) := by decide +kernel
theorem dX5_count_118 : decode cX5_count 118 = .ok (.getfield 124, 3) := by decide +kernel
theorem dX5_count_121 : decode cX5_count 121 = .ok (.ireturn, 1) := by decide +kernel
theorem dX5_count_122 : decode cX5_count 122 = .ok (.aload_n 0, 1) := by decide +kernel
theorem dX5_count_123 : decode cX5_count 123 = .ok (.getfield 53, 3) := by decide +kernel
theorem dX5_count_126 : decode cX5_count 126 = .ok (.getfield 153, 3) := by decide +kernel
theorem dX5_count_129 : decode cX5_count 129 = .ok (.ireturn, 1) := by decide +kernel
theorem dX5_count_130 : decode cX5_count 130 = .ok (.bipush (-2), 2) := by decide +kernel
theorem dX5_count_132 : decode cX5_count 132 = .ok (.ireturn, 1) := by decide +kernel
set_option maxRecDepth 20000 in
theorem ggX5_answer_X4_answers : GoodIn wsX5_answer wsX4_answers := goodIn_r _ [6, 7, 8, 36, 37, 38, 39, 40, 41, 42, 43, 44, 45, 46, 47] (by decide +kernel) (by decide +kernel)
set_option maxRecDepth 20000 in
theorem gX5_answer_X4_answers : GoodIn wsX5_answer (wsV RX5 134 RX4 yX4_answers wsX4_answers) := goodIn_app (goodIn_of _ (by decide +kernel)) ggX5_answer_X4_answers
set_option maxRecDepth 20000 in
theorem ggX5_answer_X4_answerAt : GoodIn wsX5_answer wsX4_answerAt := goodIn_r _ [12, 7, 8, 13, 14, 15, 16, 17, 18, 19, 20, 21, 22, 23, 24, 36, 37, 38, 39, 40, 41, 42, 43, 44, 45, 46, 47] (by decide +kernel) (by decide +kernel)
set_option maxRecDepth 20000 in
theorem gX5_answer_X4_answerAt : GoodIn wsX5_answer (wsV RX5 154 RX4 yX4_answerAt wsX4_answerAt) := goodIn_app (goodIn_of _ (by decide +kernel)) ggX5_answer_X4_answerAt
theorem dX5_answer_0 : decode cX5_answer 0 = .ok (.iload_n 1, 1) := by decide +kernel
theorem dX5_answer_1 : decode cX5_answer 1 = .ok (.ifCond .lt 14, 3) := by decide +kernel
theorem dX5_answer_4 : decode cX5_answer 4 = .ok (.iload_n 1, 1) := by decide +kernel
theorem dX5_answer_5 : decode cX5_answer 5 = .ok (.aload_n 0, 1) := by decide +kernel
theorem dX5_answer_6 : decode cX5_answer 6 = .ok (.getfield 19, 3) := by decide +kernel
theorem dX5_answer_9 : decode cX5_answer 9 = .ok (.invokevirtual 134, 3) := by decide +kernel
theorem dX5_answer_12 : decode cX5_answer 12 = .ok (.if_icmp .lt 5, 3) := by decide +kernel
theorem dX5_answer_15 : decode cX5_answer 15 = .ok (.iconst (-1), 1) := by decide +kernel
theorem dX5_answer_16 : decode cX5_answer 16 = .ok (.ireturn, 1) := by decide +kernel
theorem dX5_answer_17 : decode cX5_answer 17 = .ok (.aload_n 0, 1) := by decide +kernel
theorem dX5_answer_18 : decode cX5_answer 18 = .ok (.getfield 19, 3) := by decide +kernel
theorem dX5_answer_21 : decode cX5_answer 21 = .ok (.iload_n 1, 1) := by decide +kernel
theorem dX5_answer_22 : decode cX5_answer 22 = .ok (.invokevirtual 154, 3) := by decide +kernel
theorem dX5_answer_25 : decode cX5_answer 25 = .ok (.ireturn, 1) := by decide +kernel
set_option maxRecDepth 20000 in
theorem ggX5_known_X3_hasSet : GoodIn wsX5_known wsX3_hasSet := goodIn_r _ [7, 8, 35, 36, 37, 38] (by decide +kernel) (by decide +kernel)
set_option maxRecDepth 20000 in
theorem gX5_known_X3_hasSet : GoodIn wsX5_known (wsV RX5 157 RX3 yX3_hasSet wsX3_hasSet) := goodIn_app (goodIn_of _ (by decide +kernel)) ggX5_known_X3_hasSet
set_option maxRecDepth 20000 in
theorem ggX5_known_X4_sumOf : GoodIn wsX5_known wsX4_sumOf := goodIn_r _ [13, 14, 15, 16, 17, 18, 12, 19, 20, 21, 22, 23, 39, 40, 41, 42, 43, 44, 45, 46, 47, 48, 49, 50] (by decide +kernel) (by decide +kernel)
set_option maxRecDepth 20000 in
theorem gX5_known_X4_sumOf : GoodIn wsX5_known (wsV RX5 138 RX4 yX4_sumOf wsX4_sumOf) := goodIn_app (goodIn_of _ (by decide +kernel)) ggX5_known_X4_sumOf
theorem dX5_known_0 : decode cX5_known 0 = .ok (.aload_n 0, 1) := by decide +kernel
theorem dX5_known_1 : decode cX5_known 1 = .ok (.getfield 10, 3) := by decide +kernel
theorem dX5_known_4 : decode cX5_known 4 = .ok (.iload_n 1, 1) := by decide +kernel
theorem dX5_known_5 : decode cX5_known 5 = .ok (.invokevirtual 157, 3) := by decide +kernel
theorem dX5_known_8 : decode cX5_known 8 = .ok (.ifCond .eq 14, 3) := by decide +kernel
theorem dX5_known_11 : decode cX5_known 11 = .ok (.aload_n 0, 1) := by decide +kernel
theorem dX5_known_12 : decode cX5_known 12 = .ok (.getfield 19, 3) := by decide +kernel
theorem dX5_known_15 : decode cX5_known 15 = .ok (.iload_n 1, 1) := by decide +kernel
theorem dX5_known_16 : decode cX5_known 16 = .ok (.invokevirtual 138, 3) := by decide +kernel
theorem dX5_known_19 : decode cX5_known 19 = .ok (.goto 5, 3) := by decide +kernel
theorem dX5_known_22 : decode cX5_known 22 = .ok (.bipush (-2), 2) := by decide +kernel
theorem dX5_known_24 : decode cX5_known 24 = .ok (.ireturn, 1) := by decide +kernel
set_option maxRecDepth 20000 in
theorem ggX5_nearest_X3_hasSet : GoodIn wsX5_nearest wsX3_hasSet := goodIn_r _ [7, 8, 55, 56, 57, 58] (by decide +kernel) (by decide +kernel)
set_option maxRecDepth 20000 in
theorem gX5_nearest_X3_hasSet : GoodIn wsX5_nearest (wsV RX5 157 RX3 yX3_hasSet wsX3_hasSet) := goodIn_app (goodIn_of _ (by decide +kernel)) ggX5_nearest_X3_hasSet
set_option maxRecDepth 20000 in
theorem ggX5_nearest_X4_nearestTo : GoodIn wsX5_nearest wsX4_nearestTo := goodIn_r _ [13, 14, 15, 16, 17, 12, 18, 19, 20, 21, 22, 23, 24, 25, 26, 27, 28, 29, 30, 31, 32, 33, 34, 35, 36, 37, 38, 39, 40, 41, 42, 43, 59, 60, 61, 62, 63, 64, 65, 66, 67, 68, 69, 70] (by decide +kernel) (by decide +kernel)
set_option maxRecDepth 20000 in
theorem gX5_nearest_X4_nearestTo : GoodIn wsX5_nearest (wsV RX5 160 RX4 yX4_nearestTo wsX4_nearestTo) := goodIn_app (goodIn_of _ (by decide +kernel)) ggX5_nearest_X4_nearestTo
set_option maxRecDepth 20000 in
theorem ggX5_nearest_J6_bitCount_0f7a4 : GoodIn wsX5_nearest wsJ6_bitCount_0f7a4 := goodIn_r _ [33, 34, 35, 36] (by decide +kernel) (by decide +kernel)
set_option maxRecDepth 20000 in
theorem gX5_nearest_J6_bitCount_0f7a4 : GoodIn wsX5_nearest (va_wsS RX5 163 yJ6_bitCount_0f7a4 wsJ6_bitCount_0f7a4) := goodIn_app (goodIn_of _ (by decide +kernel)) ggX5_nearest_J6_bitCount_0f7a4
theorem dX5_nearest_0 : decode cX5_nearest 0 = .ok (.aload_n 0, 1) := by decide +kernel
theorem dX5_nearest_1 : decode cX5_nearest 1 = .ok (.getfield 10, 3) := by decide +kernel
theorem dX5_nearest_4 : decode cX5_nearest 4 = .ok (.iload_n 1, 1) := by decide +kernel
theorem dX5_nearest_5 : decode cX5_nearest 5 = .ok (.invokevirtual 157, 3) := by decide +kernel
theorem dX5_nearest_8 : decode cX5_nearest 8 = .ok (.ifCond .eq 12, 3) := by decide +kernel
theorem dX5_nearest_11 : decode cX5_nearest 11 = .ok (.iload_n 2, 1) := by decide +kernel
theorem dX5_nearest_12 : decode cX5_nearest 12 = .ok (.ifCond .lt 8, 3) := by decide +kernel
theorem dX5_nearest_15 : decode cX5_nearest 15 = .ok (.iload_n 2, 1) := by decide +kernel
theorem dX5_nearest_16 : decode cX5_nearest 16 = .ok (.iconst 1, 1) := by decide +kernel
theorem dX5_nearest_17 : decode cX5_nearest 17 = .ok (.if_icmp .le 6, 3) := by decide +kernel
theorem dX5_nearest_20 : decode cX5_nearest 20 = .ok (.bipush (-2), 2) := by decide +kernel
theorem dX5_nearest_22 : decode cX5_nearest 22 = .ok (.ireturn, 1) := by decide +kernel
theorem dX5_nearest_23 : decode cX5_nearest 23 = .ok (.aload_n 0, 1) := by decide +kernel
theorem dX5_nearest_24 : decode cX5_nearest 24 = .ok (.getfield 19, 3) := by decide +kernel
theorem dX5_nearest_27 : decode cX5_nearest 27 = .ok (.iload_n 1, 1) := by decide +kernel
theorem dX5_nearest_28 : decode cX5_nearest 28 = .ok (.invokevirtual 160, 3) := by decide +kernel
theorem dX5_nearest_31 : decode cX5_nearest 31 = .ok (.istore_n 3, 1) := by decide +kernel
theorem dX5_nearest_32 : decode cX5_nearest 32 = .ok (.iload_n 2, 1) := by decide +kernel
theorem dX5_nearest_33 : decode cX5_nearest 33 = .ok (.ifCond .ne 7, 3) := by decide +kernel
theorem dX5_nearest_36 : decode cX5_nearest 36 = .ok (.iload_n 3, 1) := by decide +kernel
theorem dX5_nearest_37 : decode cX5_nearest 37 = .ok (.goto 9, 3) := by decide +kernel
theorem dX5_nearest_40 : decode cX5_nearest 40 = .ok (.iload_n 3, 1) := by decide +kernel
theorem dX5_nearest_41 : decode cX5_nearest 41 = .ok (.iload_n 1, 1) := by decide +kernel
theorem dX5_nearest_42 : decode cX5_nearest 42 = .ok (.ixor, 1) := by decide +kernel
theorem dX5_nearest_43 : decode cX5_nearest 43 = .ok (.invokestatic 163, 3) := by decide +kernel
theorem dX5_nearest_46 : decode cX5_nearest 46 = .ok (.ireturn, 1) := by decide +kernel
set_option maxRecDepth 20000 in
theorem ggX5_best_X0_find : GoodIn wsX5_best wsX0_find := goodIn_r _ [10, 11, 12, 13, 14, 15, 16, 17, 18, 9, 19, 20, 21, 22, 23, 24, 25, 26, 27, 28, 29, 30, 31, 32, 33, 34, 35, 36, 37, 38, 50, 51, 52, 53, 54, 55, 56, 57] (by decide +kernel) (by decide +kernel)
set_option maxRecDepth 20000 in
theorem gX5_best_X0_find : GoodIn wsX5_best (wsV RX5 168 RX0 yX0_find wsX0_find) := goodIn_app (goodIn_of _ (by decide +kernel)) ggX5_best_X0_find
theorem dX5_best_0 : decode cX5_best 0 = .ok (.iload_n 1, 1) := by decide +kernel
theorem dX5_best_1 : decode cX5_best 1 = .ok (.ifCond .lt 8, 3) := by decide +kernel
theorem dX5_best_4 : decode cX5_best 4 = .ok (.iload_n 1, 1) := by decide +kernel
theorem dX5_best_5 : decode cX5_best 5 = .ok (.iconst 2, 1) := by decide +kernel
theorem dX5_best_6 : decode cX5_best 6 = .ok (.if_icmp .le 6, 3) := by decide +kernel
theorem dX5_best_9 : decode cX5_best 9 = .ok (.bipush (-2), 2) := by decide +kernel
theorem dX5_best_11 : decode cX5_best 11 = .ok (.ireturn, 1) := by decide +kernel
theorem dX5_best_12 : decode cX5_best 12 = .ok (.aload_n 0, 1) := by decide +kernel
theorem dX5_best_13 : decode cX5_best 13 = .ok (.getfield 36, 3) := by decide +kernel
theorem dX5_best_16 : decode cX5_best 16 = .ok (.aload_n 0, 1) := by decide +kernel
theorem dX5_best_17 : decode cX5_best 17 = .ok (.getfield 10, 3) := by decide +kernel
theorem dX5_best_20 : decode cX5_best 20 = .ok (.invokevirtual 168, 3) := by decide +kernel
theorem dX5_best_23 : decode cX5_best 23 = .ok (.iload_n 1, 1) := by decide +kernel
theorem dX5_best_24 : decode cX5_best 24 = .ok (.ifCond .ne 11, 3) := by decide +kernel
theorem dX5_best_27 : decode cX5_best 27 = .ok (.aload_n 0, 1) := by decide +kernel
theorem dX5_best_28 : decode cX5_best 28 = .ok (.getfield 36, 3) := by decide +kernel
theorem dX5_best_31 : decode cX5_best 31 = .ok (.getfield 171, 3) := by decide +kernel
theorem dX5_best_34 : decode cX5_best 34 = .ok (.ireturn, 1) := by decide +kernel
theorem dX5_best_35 : decode cX5_best 35 = .ok (.iload_n 1, 1) := by decide +kernel
theorem dX5_best_36 : decode cX5_best 36 = .ok (.iconst 1, 1) := by decide +kernel
theorem dX5_best_37 : decode cX5_best 37 = .ok (.if_icmp .ne 13, 3) := by decide +kernel
theorem dX5_best_40 : decode cX5_best 40 = .ok (.aload_n 0, 1) := by decide +kernel
theorem dX5_best_41 : decode cX5_best 41 = .ok (.getfield 36, 3) := by decide +kernel
theorem dX5_best_44 : decode cX5_best 44 = .ok (.getfield 174, 3) := by decide +kernel
theorem dX5_best_47 : decode cX5_best 47 = .ok (.goto 10, 3) := by decide +kernel
theorem dX5_best_50 : decode cX5_best 50 = .ok (.aload_n 0, 1) := by decide +kernel
theorem dX5_best_51 : decode cX5_best 51 = .ok (.getfield 36, 3) := by decide +kernel
theorem dX5_best_54 : decode cX5_best 54 = .ok (.getfield 177, 3) := by decide +kernel
theorem dX5_best_57 : decode cX5_best 57 = .ok (.ireturn, 1) := by decide +kernel
set_option maxRecDepth 20000 in
theorem ggX5_ifTold_X5_isRule : GoodIn wsX5_ifTold wsX5_isRule := goodIn_r _ [6, 7, 8, 9, 10, 11, 12, 13, 29, 30, 31, 32, 33, 34, 35, 36, 37, 38, 39, 40, 41, 42, 43] (by decide +kernel) (by decide +kernel)
set_option maxRecDepth 20000 in
theorem gX5_ifTold_X5_isRule : GoodIn wsX5_ifTold (wsV RX5 80 RX5 yX5_isRule wsX5_isRule) := goodIn_app (goodIn_of _ (by decide +kernel)) ggX5_ifTold_X5_isRule
set_option maxRecDepth 20000 in
theorem ggX5_ifTold_X4_stateOf : GoodIn wsX5_ifTold wsX4_stateOf := goodIn_r _ [18, 19, 20, 21, 22, 23, 17, 24, 25, 26, 27, 28, 44, 45, 46, 47, 48, 49, 50, 51, 52, 53, 54, 55] (by decide +kernel) (by decide +kernel)
set_option maxRecDepth 20000 in
theorem gX5_ifTold_X4_stateOf : GoodIn wsX5_ifTold (wsV RX5 180 RX4 yX4_stateOf wsX4_stateOf) := goodIn_app (goodIn_of _ (by decide +kernel)) ggX5_ifTold_X4_stateOf
theorem dX5_ifTold_0 : decode cX5_ifTold 0 = .ok (.aload_n 0, 1) := by decide +kernel
theorem dX5_ifTold_1 : decode cX5_ifTold 1 = .ok (.iload_n 1, 1) := by decide +kernel
theorem dX5_ifTold_2 : decode cX5_ifTold 2 = .ok (.iload_n 2, 1) := by decide +kernel
theorem dX5_ifTold_3 : decode cX5_ifTold 3 = .ok (.invokevirtual 80, 3) := by decide +kernel
theorem dX5_ifTold_6 : decode cX5_ifTold 6 = .ok (.ifCond .eq 15, 3) := by decide +kernel
theorem dX5_ifTold_9 : decode cX5_ifTold 9 = .ok (.aload_n 0, 1) := by decide +kernel
theorem dX5_ifTold_10 : decode cX5_ifTold 10 = .ok (.getfield 19, 3) := by decide +kernel
theorem dX5_ifTold_13 : decode cX5_ifTold 13 = .ok (.iload_n 1, 1) := by decide +kernel
theorem dX5_ifTold_14 : decode cX5_ifTold 14 = .ok (.iload_n 2, 1) := by decide +kernel
theorem dX5_ifTold_15 : decode cX5_ifTold 15 = .ok (.invokevirtual 180, 3) := by decide +kernel
theorem dX5_ifTold_18 : decode cX5_ifTold 18 = .ok (.goto 5, 3) := by decide +kernel
theorem dX5_ifTold_21 : decode cX5_ifTold 21 = .ok (.bipush (-2), 2) := by decide +kernel
theorem dX5_ifTold_23 : decode cX5_ifTold 23 = .ok (.ireturn, 1) := by decide +kernel
set_option maxRecDepth 20000 in
theorem ggX5_ifDropped_X3_hasPlace : GoodIn wsX5_ifDropped wsX3_hasPlace := goodIn_r _ [8, 9, 88, 89, 90, 91] (by decide +kernel) (by decide +kernel)
set_option maxRecDepth 20000 in
theorem gX5_ifDropped_X3_hasPlace : GoodIn wsX5_ifDropped (wsV RX5 94 RX3 yX3_hasPlace wsX3_hasPlace) := goodIn_app (goodIn_of _ (by decide +kernel)) ggX5_ifDropped_X3_hasPlace
set_option maxRecDepth 20000 in
theorem ggX5_ifDropped_X3_become : GoodIn wsX5_ifDropped wsX3_become := goodIn_r _ [13, 14, 9, 15, 16, 17, 18, 19, 20, 88, 89, 90, 91] (by decide +kernel) (by decide +kernel)
set_option maxRecDepth 20000 in
theorem gX5_ifDropped_X3_become : GoodIn wsX5_ifDropped (wsV RX5 184 RX3 yX3_become wsX3_become) := goodIn_app (goodIn_of _ (by decide +kernel)) ggX5_ifDropped_X3_become
set_option maxRecDepth 20000 in
theorem ggX5_ifDropped_X3_takeOut : GoodIn wsX5_ifDropped wsX3_takeOut := goodIn_r _ [24, 9, 25, 26, 27, 7, 28, 15, 20, 29, 30, 31, 88, 89, 90, 91] (by decide +kernel) (by decide +kernel)
set_option maxRecDepth 20000 in
theorem gX5_ifDropped_X3_takeOut : GoodIn wsX5_ifDropped (wsV RX5 97 RX3 yX3_takeOut wsX3_takeOut) := goodIn_app (goodIn_of _ (by decide +kernel)) ggX5_ifDropped_X3_takeOut
set_option maxRecDepth 20000 in
theorem ggX5_ifDropped_X4_judge : GoodIn wsX5_ifDropped wsX4_judge := goodIn_r _ [36, 37, 38, 39, 40, 41, 42, 43, 44, 45, 46, 47, 35, 48, 49, 50, 51, 52, 53, 54, 55, 56, 57, 58, 59, 60, 61, 62, 63, 64, 30, 65, 66, 67, 68, 69, 70, 71, 72, 88, 89, 90, 91, 92, 93, 94, 95, 96, 97, 98, 99, 100, 101, 102, 103] (by decide +kernel) (by decide +kernel)
set_option maxRecDepth 20000 in
theorem gX5_ifDropped_X4_judge : GoodIn wsX5_ifDropped (wsV RX5 65 RX4 yX4_judge wsX4_judge) := goodIn_app (goodIn_of _ (by decide +kernel)) ggX5_ifDropped_X4_judge
set_option maxRecDepth 20000 in
theorem ggX5_ifDropped_X4_answers : GoodIn wsX5_ifDropped wsX4_answers := goodIn_r _ [76, 38, 40, 92, 93, 94, 95, 96, 97, 98, 99, 100, 101, 102, 103] (by decide +kernel) (by decide +kernel)
set_option maxRecDepth 20000 in
theorem gX5_ifDropped_X4_answers : GoodIn wsX5_ifDropped (wsV RX5 134 RX4 yX4_answers wsX4_answers) := goodIn_app (goodIn_of _ (by decide +kernel)) ggX5_ifDropped_X4_answers
theorem dX5_ifDropped_0 : decode cX5_ifDropped 0 = .ok (.aload_n 0, 1) := by decide +kernel
theorem dX5_ifDropped_1 : decode cX5_ifDropped 1 = .ok (.getfield 10, 3) := by decide +kernel
theorem dX5_ifDropped_4 : decode cX5_ifDropped 4 = .ok (.iload_n 1, 1) := by decide +kernel
theorem dX5_ifDropped_5 : decode cX5_ifDropped 5 = .ok (.invokevirtual 94, 3) := by decide +kernel
theorem dX5_ifDropped_8 : decode cX5_ifDropped 8 = .ok (.ifCond .ne 5, 3) := by decide +kernel
theorem dX5_ifDropped_11 : decode cX5_ifDropped 11 = .ok (.iconst (-1), 1) := by decide +kernel
theorem dX5_ifDropped_12 : decode cX5_ifDropped 12 = .ok (.ireturn, 1) := by decide +kernel
theorem dX5_ifDropped_13 : decode cX5_ifDropped 13 = .ok (.aload_n 0, 1) := by decide +kernel
theorem dX5_ifDropped_14 : decode cX5_ifDropped 14 = .ok (.getfield 23, 3) := by decide +kernel
theorem dX5_ifDropped_17 : decode cX5_ifDropped 17 = .ok (.aload_n 0, 1) := by decide +kernel
theorem dX5_ifDropped_18 : decode cX5_ifDropped 18 = .ok (.getfield 10, 3) := by decide +kernel
theorem dX5_ifDropped_21 : decode cX5_ifDropped 21 = .ok (.invokevirtual 184, 3) := by decide +kernel
theorem dX5_ifDropped_24 : decode cX5_ifDropped 24 = .ok (.aload_n 0, 1) := by decide +kernel
theorem dX5_ifDropped_25 : decode cX5_ifDropped 25 = .ok (.getfield 23, 3) := by decide +kernel
theorem dX5_ifDropped_28 : decode cX5_ifDropped 28 = .ok (.iload_n 1, 1) := by decide +kernel
theorem dX5_ifDropped_29 : decode cX5_ifDropped 29 = .ok (.invokevirtual 97, 3) := by decide +kernel
theorem dX5_ifDropped_32 : decode cX5_ifDropped 32 = .ok (.aload_n 0, 1) := by decide +kernel
theorem dX5_ifDropped_33 : decode cX5_ifDropped 33 = .ok (.getfield 26, 3) := by decide +kernel
theorem dX5_ifDropped_36 : decode cX5_ifDropped 36 = .ok (.aload_n 0, 1) := by decide +kernel
theorem dX5_ifDropped_37 : decode cX5_ifDropped 37 = .ok (.getfield 23, 3) := by decide +kernel
theorem dX5_ifDropped_40 : decode cX5_ifDropped 40 = .ok (.invokevirtual 65, 3) := by decide +kernel
theorem dX5_ifDropped_43 : decode cX5_ifDropped 43 = .ok (.aload_n 0, 1) := by decide +kernel
theorem dX5_ifDropped_44 : decode cX5_ifDropped 44 = .ok (.getfield 26, 3) := by decide +kernel
theorem dX5_ifDropped_47 : decode cX5_ifDropped 47 = .ok (.invokevirtual 134, 3) := by decide +kernel
theorem dX5_ifDropped_50 : decode cX5_ifDropped 50 = .ok (.ireturn, 1) := by decide +kernel
set_option maxRecDepth 20000 in
theorem ggX5_ifMoved_X3_hasPlace : GoodIn wsX5_ifMoved wsX3_hasPlace := goodIn_r _ [9, 10, 93, 94, 95, 96] (by decide +kernel) (by decide +kernel)
set_option maxRecDepth 20000 in
theorem gX5_ifMoved_X3_hasPlace : GoodIn wsX5_ifMoved (wsV RX5 94 RX3 yX3_hasPlace wsX3_hasPlace) := goodIn_app (goodIn_of _ (by decide +kernel)) ggX5_ifMoved_X3_hasPlace
set_option maxRecDepth 20000 in
theorem ggX5_ifMoved_X3_become : GoodIn wsX5_ifMoved wsX3_become := goodIn_r _ [14, 15, 10, 16, 17, 18, 19, 20, 21, 93, 94, 95, 96] (by decide +kernel) (by decide +kernel)
set_option maxRecDepth 20000 in
theorem gX5_ifMoved_X3_become : GoodIn wsX5_ifMoved (wsV RX5 184 RX3 yX3_become wsX3_become) := goodIn_app (goodIn_of _ (by decide +kernel)) ggX5_ifMoved_X3_become
set_option maxRecDepth 20000 in
theorem ggX5_ifMoved_X3_carryRule : GoodIn wsX5_ifMoved wsX3_carryRule := goodIn_r _ [25, 16, 21, 26, 27, 28, 93, 94, 95, 96] (by decide +kernel) (by decide +kernel)
set_option maxRecDepth 20000 in
theorem gX5_ifMoved_X3_carryRule : GoodIn wsX5_ifMoved (wsV RX5 111 RX3 yX3_carryRule wsX3_carryRule) := goodIn_app (goodIn_of _ (by decide +kernel)) ggX5_ifMoved_X3_carryRule
set_option maxRecDepth 20000 in
theorem ggX5_ifMoved_X4_judge : GoodIn wsX5_ifMoved wsX4_judge := goodIn_r _ [33, 34, 35, 36, 37, 38, 39, 40, 41, 42, 43, 44, 32, 45, 46, 47, 48, 49, 50, 51, 52, 53, 54, 55, 56, 57, 58, 59, 60, 61, 27, 62, 63, 64, 65, 66, 67, 68, 69, 93, 94, 95, 96, 81, 82, 83, 84, 85, 86, 87, 88, 89, 90, 91, 92] (by decide +kernel) (by decide +kernel)
set_option maxRecDepth 20000 in
theorem gX5_ifMoved_X4_judge : GoodIn wsX5_ifMoved (wsV RX5 65 RX4 yX4_judge wsX4_judge) := goodIn_app (goodIn_of _ (by decide +kernel)) ggX5_ifMoved_X4_judge
theorem dX5_ifMoved_0 : decode cX5_ifMoved 0 = .ok (.aload_n 0, 1) := by decide +kernel
theorem dX5_ifMoved_1 : decode cX5_ifMoved 1 = .ok (.getfield 10, 3) := by decide +kernel
theorem dX5_ifMoved_4 : decode cX5_ifMoved 4 = .ok (.iload_n 1, 1) := by decide +kernel
theorem dX5_ifMoved_5 : decode cX5_ifMoved 5 = .ok (.invokevirtual 94, 3) := by decide +kernel
theorem dX5_ifMoved_8 : decode cX5_ifMoved 8 = .ok (.ifCond .eq 14, 3) := by decide +kernel
theorem dX5_ifMoved_11 : decode cX5_ifMoved 11 = .ok (.aload_n 0, 1) := by decide +kernel
theorem dX5_ifMoved_12 : decode cX5_ifMoved 12 = .ok (.getfield 10, 3) := by decide +kernel
theorem dX5_ifMoved_15 : decode cX5_ifMoved 15 = .ok (.iload_n 2, 1) := by decide +kernel
theorem dX5_ifMoved_16 : decode cX5_ifMoved 16 = .ok (.invokevirtual 94, 3) := by decide +kernel
theorem dX5_ifMoved_19 : decode cX5_ifMoved 19 = .ok (.ifCond .ne 5, 3) := by decide +kernel
theorem dX5_ifMoved_22 : decode cX5_ifMoved 22 = .ok (.iconst (-1), 1) := by decide +kernel
theorem dX5_ifMoved_23 : decode cX5_ifMoved 23 = .ok (.ireturn, 1) := by decide +kernel
theorem dX5_ifMoved_24 : decode cX5_ifMoved 24 = .ok (.aload_n 0, 1) := by decide +kernel
theorem dX5_ifMoved_25 : decode cX5_ifMoved 25 = .ok (.getfield 23, 3) := by decide +kernel
theorem dX5_ifMoved_28 : decode cX5_ifMoved 28 = .ok (.aload_n 0, 1) := by decide +kernel
theorem dX5_ifMoved_29 : decode cX5_ifMoved 29 = .ok (.getfield 10, 3) := by decide +kernel
theorem dX5_ifMoved_32 : decode cX5_ifMoved 32 = .ok (.invokevirtual 184, 3) := by decide +kernel
theorem dX5_ifMoved_35 : decode cX5_ifMoved 35 = .ok (.aload_n 0, 1) := by decide +kernel
theorem dX5_ifMoved_36 : decode cX5_ifMoved 36 = .ok (.getfield 23, 3) := by decide +kernel
theorem dX5_ifMoved_39 : decode cX5_ifMoved 39 = .ok (.iload_n 1, 1) := by decide +kernel
theorem dX5_ifMoved_40 : decode cX5_ifMoved 40 = .ok (.iload_n 2, 1) := by decide +kernel
theorem dX5_ifMoved_41 : decode cX5_ifMoved 41 = .ok (.invokevirtual 111, 3) := by decide +kernel
theorem dX5_ifMoved_44 : decode cX5_ifMoved 44 = .ok (.aload_n 0, 1) := by decide +kernel
theorem dX5_ifMoved_45 : decode cX5_ifMoved 45 = .ok (.getfield 26, 3) := by decide +kernel
theorem dX5_ifMoved_48 : decode cX5_ifMoved 48 = .ok (.aload_n 0, 1) := by decide +kernel
theorem dX5_ifMoved_49 : decode cX5_ifMoved 49 = .ok (.getfield 23, 3) := by decide +kernel
theorem dX5_ifMoved_52 : decode cX5_ifMoved 52 = .ok (.invokevirtual 65, 3) := by decide +kernel
theorem dX5_ifMoved_55 : decode cX5_ifMoved 55 = .ok (.aload_n 0, 1) := by decide +kernel
theorem dX5_ifMoved_56 : decode cX5_ifMoved 56 = .ok (.getfield 26, 3) := by decide +kernel
theorem dX5_ifMoved_59 : decode cX5_ifMoved 59 = .ok (.getfield 147, 3) := by decide +kernel
theorem dX5_ifMoved_62 : decode cX5_ifMoved 62 = .ok (.iconst 2, 1) := by decide +kernel
theorem dX5_ifMoved_63 : decode cX5_ifMoved 63 = .ok (.iaload, 1) := by decide +kernel
theorem dX5_ifMoved_64 : decode cX5_ifMoved 64 = .ok (.ireturn, 1) := by decide +kernel
set_option maxRecDepth 20000 in
theorem ggX5_put_X5_charactersIn : GoodIn wsX5_put wsX5_charactersIn := goodIn_r _ [7, 3, 8, 9] (by decide +kernel) (by decide +kernel)
set_option maxRecDepth 20000 in
theorem gX5_put_X5_charactersIn : GoodIn wsX5_put (va_wsS RX5 187 yX5_charactersIn wsX5_charactersIn) := goodIn_app (goodIn_of _ (by decide +kernel)) ggX5_put_X5_charactersIn
set_option maxRecDepth 20000 in
theorem ggX5_put_X2_append : GoodIn wsX5_put wsX2_append := goodIn_r _ [14, 15, 16, 28, 29, 30, 31, 32, 33] (by decide +kernel) (by decide +kernel)
set_option maxRecDepth 20000 in
theorem gX5_put_X2_append : GoodIn wsX5_put (wsV RX5 193 RX2 yX2_append wsX2_append) := goodIn_app (goodIn_of _ (by decide +kernel)) ggX5_put_X2_append
theorem dX5_put_0 : decode cX5_put 0 = .ok (.lload_n 1, 1) := by decide +kernel
theorem dX5_put_1 : decode cX5_put 1 = .ok (.invokestatic 187, 3) := by decide +kernel
theorem dX5_put_4 : decode cX5_put 4 = .ok (.istore_n 3, 1) := by decide +kernel
theorem dX5_put_5 : decode cX5_put 5 = .ok (.iload_n 3, 1) := by decide +kernel
theorem dX5_put_6 : decode cX5_put 6 = .ok (.ifCond .ne 6, 3) := by decide +kernel
theorem dX5_put_9 : decode cX5_put 9 = .ok (.bipush (-2), 2) := by decide +kernel
theorem dX5_put_11 : decode cX5_put 11 = .ok (.ireturn, 1) := by decide +kernel
theorem dX5_put_12 : decode cX5_put 12 = .ok (.aload_n 0, 1) := by decide +kernel
theorem dX5_put_13 : decode cX5_put 13 = .ok (.getfield 43, 3) := by decide +kernel
theorem dX5_put_16 : decode cX5_put 16 = .ok (.getfield 124, 3) := by decide +kernel
theorem dX5_put_19 : decode cX5_put 19 = .ok (.iload_n 3, 1) := by decide +kernel
theorem dX5_put_20 : decode cX5_put 20 = .ok (.iadd, 1) := by decide +kernel
theorem dX5_put_21 : decode cX5_put 21 = .ok (.bipush 80, 2) := by decide +kernel
theorem dX5_put_23 : decode cX5_put 23 = .ok (.if_icmp .le 6, 3) := by decide +kernel
theorem dX5_put_26 : decode cX5_put 26 = .ok (.bipush (-4), 2) := by decide +kernel
theorem dX5_put_28 : decode cX5_put 28 = .ok (.ireturn, 1) := by decide +kernel
theorem dX5_put_29 : decode cX5_put 29 = .ok (.iload_n 3, 1) := by decide +kernel
theorem dX5_put_30 : decode cX5_put 30 = .ok (.iconst 1, 1) := by decide +kernel
theorem dX5_put_31 : decode cX5_put 31 = .ok (.isub, 1) := by decide +kernel
theorem dX5_put_32 : decode cX5_put 32 = .ok (.istore 4, 2) := by decide +kernel
theorem dX5_put_34 : decode cX5_put 34 = .ok (.iload 4, 2) := by decide +kernel
theorem dX5_put_36 : decode cX5_put 36 = .ok (.ifCond .lt 29, 3) := by decide +kernel
theorem dX5_put_39 : decode cX5_put 39 = .ok (.aload_n 0, 1) := by decide +kernel
theorem dX5_put_40 : decode cX5_put 40 = .ok (.getfield 43, 3) := by decide +kernel
theorem dX5_put_43 : decode cX5_put 43 = .ok (.lload_n 1, 1) := by decide +kernel
theorem dX5_put_44 : decode cX5_put 44 = .ok (.bipush 8, 2) := by decide +kernel
theorem dX5_put_46 : decode cX5_put 46 = .ok (.iload 4, 2) := by decide +kernel
theorem dX5_put_48 : decode cX5_put 48 = .ok (.imul, 1) := by decide +kernel
theorem dX5_put_49 : decode cX5_put 49 = .ok (.lushr, 1) := by decide +kernel
theorem dX5_put_50 : decode cX5_put 50 = .ok (.ldc2_w 191, 3) := by decide +kernel
theorem dX5_put_53 : decode cX5_put 53 = .ok (.land, 1) := by decide +kernel
theorem dX5_put_54 : decode cX5_put 54 = .ok (.l2i, 1) := by decide +kernel
theorem dX5_put_55 : decode cX5_put 55 = .ok (.i2c, 1) := by decide +kernel
theorem dX5_put_56 : decode cX5_put 56 = .ok (.invokevirtual 193, 3) := by decide +kernel
theorem dX5_put_59 : decode cX5_put 59 = .ok (.iinc 4 (-1), 3) := by decide +kernel
theorem dX5_put_62 : decode cX5_put 62 = .ok (.goto (-28), 3) := by decide +kernel
theorem dX5_put_65 : decode cX5_put 65 = .ok (.aload_n 0, 1) := by decide +kernel
theorem dX5_put_66 : decode cX5_put 66 = .ok (.getfield 43, 3) := by decide +kernel
theorem dX5_put_69 : decode cX5_put 69 = .ok (.getfield 124, 3) := by decide +kernel
theorem dX5_put_72 : decode cX5_put 72 = .ok (.ireturn, 1) := by decide +kernel
theorem dX5_wipe_0 : decode cX5_wipe 0 = .ok (.aload_n 0, 1) := by decide +kernel
theorem dX5_wipe_1 : decode cX5_wipe 1 = .ok (.getfield 43, 3) := by decide +kernel
theorem dX5_wipe_4 : decode cX5_wipe 4 = .ok (.getfield 124, 3) := by decide +kernel
theorem dX5_wipe_7 : decode cX5_wipe 7 = .ok (.istore_n 1, 1) := by decide +kernel
theorem dX5_wipe_8 : decode cX5_wipe 8 = .ok (.aload_n 0, 1) := by decide +kernel
theorem dX5_wipe_9 : decode cX5_wipe 9 = .ok (.getfield 43, 3) := by decide +kernel
theorem dX5_wipe_12 : decode cX5_wipe 12 = .ok (.iconst 0, 1) := by decide +kernel
theorem dX5_wipe_13 : decode cX5_wipe 13 = .ok (.putfield 124, 3) := by decide +kernel
theorem dX5_wipe_16 : decode cX5_wipe 16 = .ok (.iload_n 1, 1) := by decide +kernel
theorem dX5_wipe_17 : decode cX5_wipe 17 = .ok (.ireturn, 1) := by decide +kernel
set_option maxRecDepth 20000 in
theorem ggX5_fault_X2_readInto : GoodIn wsX5_fault wsX2_readInto := goodIn_r _ [7, 8, 9, 10, 11, 12, 13, 14, 6, 15, 16, 17, 18, 19, 20, 21, 22, 23, 24, 25, 26, 27, 28, 29, 30, 31, 32, 33, 34, 35, 36, 37, 38, 39, 40, 41, 42, 54, 55, 56, 57, 58, 59, 60, 61, 62, 63] (by decide +kernel) (by decide +kernel)
set_option maxRecDepth 20000 in
theorem gX5_fault_X2_readInto : GoodIn wsX5_fault (wsV RX5 117 RX2 yX2_readInto wsX2_readInto) := goodIn_app (goodIn_of _ (by decide +kernel)) ggX5_fault_X2_readInto
theorem dX5_fault_0 : decode cX5_fault 0 = .ok (.aload_n 0, 1) := by decide +kernel
theorem dX5_fault_1 : decode cX5_fault 1 = .ok (.getfield 43, 3) := by decide +kernel
theorem dX5_fault_4 : decode cX5_fault 4 = .ok (.aload_n 0, 1) := by decide +kernel
theorem dX5_fault_5 : decode cX5_fault 5 = .ok (.getfield 47, 3) := by decide +kernel
theorem dX5_fault_8 : decode cX5_fault 8 = .ok (.invokevirtual 117, 3) := by decide +kernel
theorem dX5_fault_11 : decode cX5_fault 11 = .ok (.ireturn, 1) := by decide +kernel
set_option maxRecDepth 20000 in
theorem ggX5_undo_X1_giveBack : GoodIn wsX5_undo wsX1_giveBack := goodIn_r _ [9, 10, 11, 12, 13, 14, 15, 16, 17, 18, 19, 20, 21, 22, 23, 24, 78, 79, 80, 81, 82, 83] (by decide +kernel) (by decide +kernel)
set_option maxRecDepth 20000 in
theorem gX5_undo_X1_giveBack : GoodIn wsX5_undo (wsV RX5 196 RX1 yX1_giveBack wsX1_giveBack) := goodIn_app (goodIn_of _ (by decide +kernel)) ggX5_undo_X1_giveBack
set_option maxRecDepth 20000 in
theorem ggX5_undo_X4_judge : GoodIn wsX5_undo wsX4_judge := goodIn_r _ [29, 30, 31, 32, 33, 34, 35, 36, 37, 38, 39, 40, 28, 41, 42, 43, 44, 45, 46, 47, 48, 49, 50, 51, 52, 53, 54, 55, 56, 57, 58, 59, 60, 61, 62, 63, 64, 65, 66, 80, 81, 82, 83, 84, 85, 86, 87, 88, 89, 90, 91, 92, 93, 94, 95] (by decide +kernel) (by decide +kernel)
set_option maxRecDepth 20000 in
theorem gX5_undo_X4_judge : GoodIn wsX5_undo (wsV RX5 65 RX4 yX4_judge wsX4_judge) := goodIn_app (goodIn_of _ (by decide +kernel)) ggX5_undo_X4_judge
theorem dX5_undo_0 : decode cX5_undo 0 = .ok (.aload_n 0, 1) := by decide +kernel
theorem dX5_undo_1 : decode cX5_undo 1 = .ok (.getfield 53, 3) := by decide +kernel
theorem dX5_undo_4 : decode cX5_undo 4 = .ok (.getfield 153, 3) := by decide +kernel
theorem dX5_undo_7 : decode cX5_undo 7 = .ok (.ifCond .ne 6, 3) := by decide +kernel
theorem dX5_undo_10 : decode cX5_undo 10 = .ok (.bipush (-5), 2) := by decide +kernel
theorem dX5_undo_12 : decode cX5_undo 12 = .ok (.ireturn, 1) := by decide +kernel
theorem dX5_undo_13 : decode cX5_undo 13 = .ok (.aload_n 0, 1) := by decide +kernel
theorem dX5_undo_14 : decode cX5_undo 14 = .ok (.getfield 53, 3) := by decide +kernel
theorem dX5_undo_17 : decode cX5_undo 17 = .ok (.aload_n 0, 1) := by decide +kernel
theorem dX5_undo_18 : decode cX5_undo 18 = .ok (.getfield 10, 3) := by decide +kernel
theorem dX5_undo_21 : decode cX5_undo 21 = .ok (.invokevirtual 196, 3) := by decide +kernel
theorem dX5_undo_24 : decode cX5_undo 24 = .ok (.aload_n 0, 1) := by decide +kernel
theorem dX5_undo_25 : decode cX5_undo 25 = .ok (.getfield 19, 3) := by decide +kernel
theorem dX5_undo_28 : decode cX5_undo 28 = .ok (.aload_n 0, 1) := by decide +kernel
theorem dX5_undo_29 : decode cX5_undo 29 = .ok (.getfield 10, 3) := by decide +kernel
theorem dX5_undo_32 : decode cX5_undo 32 = .ok (.invokevirtual 65, 3) := by decide +kernel
theorem dX5_undo_35 : decode cX5_undo 35 = .ok (.aload_n 0, 1) := by decide +kernel
theorem dX5_undo_36 : decode cX5_undo 36 = .ok (.getfield 53, 3) := by decide +kernel
theorem dX5_undo_39 : decode cX5_undo 39 = .ok (.getfield 153, 3) := by decide +kernel
theorem dX5_undo_42 : decode cX5_undo 42 = .ok (.ireturn, 1) := by decide +kernel
set_option maxRecDepth 20000 in
theorem ggX5_save_X3_become : GoodIn wsX5_save wsX3_become := goodIn_r _ [9, 10, 11, 12, 13, 14, 15, 16, 17, 29, 30, 31, 32] (by decide +kernel) (by decide +kernel)
set_option maxRecDepth 20000 in
theorem gX5_save_X3_become : GoodIn wsX5_save (wsV RX5 184 RX3 yX3_become wsX3_become) := goodIn_app (goodIn_of _ (by decide +kernel)) ggX5_save_X3_become
theorem dX5_save_0 : decode cX5_save 0 = .ok (.iload_n 1, 1) := by decide +kernel
theorem dX5_save_1 : decode cX5_save 1 = .ok (.ifCond .lt 8, 3) := by decide +kernel
theorem dX5_save_4 : decode cX5_save 4 = .ok (.iload_n 1, 1) := by decide +kernel
theorem dX5_save_5 : decode cX5_save 5 = .ok (.iconst 2, 1) := by decide +kernel
theorem dX5_save_6 : decode cX5_save 6 = .ok (.if_icmp .lt 6, 3) := by decide +kernel
theorem dX5_save_9 : decode cX5_save 9 = .ok (.bipush (-2), 2) := by decide +kernel
theorem dX5_save_11 : decode cX5_save 11 = .ok (.ireturn, 1) := by decide +kernel
theorem dX5_save_12 : decode cX5_save 12 = .ok (.aload_n 0, 1) := by decide +kernel
theorem dX5_save_13 : decode cX5_save 13 = .ok (.getfield 57, 3) := by decide +kernel
theorem dX5_save_16 : decode cX5_save 16 = .ok (.iload_n 1, 1) := by decide +kernel
theorem dX5_save_17 : decode cX5_save 17 = .ok (.aaload, 1) := by decide +kernel
theorem dX5_save_18 : decode cX5_save 18 = .ok (.aload_n 0, 1) := by decide +kernel
theorem dX5_save_19 : decode cX5_save 19 = .ok (.getfield 10, 3) := by decide +kernel
theorem dX5_save_22 : decode cX5_save 22 = .ok (.invokevirtual 184, 3) := by decide +kernel
theorem dX5_save_25 : decode cX5_save 25 = .ok (.aload_n 0, 1) := by decide +kernel
theorem dX5_save_26 : decode cX5_save 26 = .ok (.getfield 61, 3) := by decide +kernel
theorem dX5_save_29 : decode cX5_save 29 = .ok (.iload_n 1, 1) := by decide +kernel
theorem dX5_save_30 : decode cX5_save 30 = .ok (.iconst 1, 1) := by decide +kernel
theorem dX5_save_31 : decode cX5_save 31 = .ok (.bastore, 1) := by decide +kernel
theorem dX5_save_32 : decode cX5_save 32 = .ok (.aload_n 0, 1) := by decide +kernel
theorem dX5_save_33 : decode cX5_save 33 = .ok (.getfield 10, 3) := by decide +kernel
theorem dX5_save_36 : decode cX5_save 36 = .ok (.getfield 84, 3) := by decide +kernel
theorem dX5_save_39 : decode cX5_save 39 = .ok (.ireturn, 1) := by decide +kernel
set_option maxRecDepth 20000 in
theorem ggX5_restore_X1_remember : GoodIn wsX5_restore wsX1_remember := goodIn_r _ [11, 12, 13, 14, 15, 16, 10, 17, 18, 19, 20, 21, 22, 23, 24, 25, 26, 27, 28, 29, 30, 89, 90, 85, 86, 87, 88] (by decide +kernel) (by decide +kernel)
set_option maxRecDepth 20000 in
theorem gX5_restore_X1_remember : GoodIn wsX5_restore (wsV RX5 77 RX1 yX1_remember wsX1_remember) := goodIn_app (goodIn_of _ (by decide +kernel)) ggX5_restore_X1_remember
set_option maxRecDepth 20000 in
theorem ggX5_restore_X3_become : GoodIn wsX5_restore wsX3_become := goodIn_r _ [22, 23, 24, 25, 26, 27, 28, 29, 30, 85, 86, 87, 88] (by decide +kernel) (by decide +kernel)
set_option maxRecDepth 20000 in
theorem gX5_restore_X3_become : GoodIn wsX5_restore (wsV RX5 184 RX3 yX3_become wsX3_become) := goodIn_app (goodIn_of _ (by decide +kernel)) ggX5_restore_X3_become
set_option maxRecDepth 20000 in
theorem ggX5_restore_X4_judge : GoodIn wsX5_restore wsX4_judge := goodIn_r _ [36, 37, 38, 39, 40, 41, 42, 43, 44, 45, 46, 47, 35, 48, 49, 50, 51, 52, 53, 54, 55, 56, 57, 58, 59, 60, 61, 62, 63, 64, 65, 66, 67, 68, 69, 70, 71, 72, 73, 85, 86, 87, 88, 91, 92, 93, 94, 95, 96, 97, 98, 99, 100, 101, 102] (by decide +kernel) (by decide +kernel)
set_option maxRecDepth 20000 in
theorem gX5_restore_X4_judge : GoodIn wsX5_restore (wsV RX5 65 RX4 yX4_judge wsX4_judge) := goodIn_app (goodIn_of _ (by decide +kernel)) ggX5_restore_X4_judge
theorem dX5_restore_0 : decode cX5_restore 0 = .ok (.iload_n 1, 1) := by decide +kernel
theorem dX5_restore_1 : decode cX5_restore 1 = .ok (.ifCond .lt 8, 3) := by decide +kernel
theorem dX5_restore_4 : decode cX5_restore 4 = .ok (.iload_n 1, 1) := by decide +kernel
theorem dX5_restore_5 : decode cX5_restore 5 = .ok (.iconst 2, 1) := by decide +kernel
theorem dX5_restore_6 : decode cX5_restore 6 = .ok (.if_icmp .lt 6, 3) := by decide +kernel
theorem dX5_restore_9 : decode cX5_restore 9 = .ok (.bipush (-2), 2) := by decide +kernel
theorem dX5_restore_11 : decode cX5_restore 11 = .ok (.ireturn, 1) := by decide +kernel
theorem dX5_restore_12 : decode cX5_restore 12 = .ok (.aload_n 0, 1) := by decide +kernel
theorem dX5_restore_13 : decode cX5_restore 13 = .ok (.getfield 61, 3) := by decide +kernel
theorem dX5_restore_16 : decode cX5_restore 16 = .ok (.iload_n 1, 1) := by decide +kernel
theorem dX5_restore_17 : decode cX5_restore 17 = .ok (.baload, 1) := by decide +kernel
theorem dX5_restore_18 : decode cX5_restore 18 = .ok (.ifCond .ne 6, 3) := by decide +kernel
theorem dX5_restore_21 : decode cX5_restore 21 = .ok (.bipush (-5), 2) := by decide +kernel
theorem dX5_restore_23 : decode cX5_restore 23 = .ok (.ireturn, 1) := by decide +kernel
theorem dX5_restore_24 : decode cX5_restore 24 = .ok (.aload_n 0, 1) := by decide +kernel
theorem dX5_restore_25 : decode cX5_restore 25 = .ok (.getfield 53, 3) := by decide +kernel
theorem dX5_restore_28 : decode cX5_restore 28 = .ok (.aload_n 0, 1) := by decide +kernel
theorem dX5_restore_29 : decode cX5_restore 29 = .ok (.getfield 10, 3) := by decide +kernel
theorem dX5_restore_32 : decode cX5_restore 32 = .ok (.invokevirtual 77, 3) := by decide +kernel
theorem dX5_restore_35 : decode cX5_restore 35 = .ok (.aload_n 0, 1) := by decide +kernel
theorem dX5_restore_36 : decode cX5_restore 36 = .ok (.getfield 10, 3) := by decide +kernel
theorem dX5_restore_39 : decode cX5_restore 39 = .ok (.aload_n 0, 1) := by decide +kernel
theorem dX5_restore_40 : decode cX5_restore 40 = .ok (.getfield 57, 3) := by decide +kernel
theorem dX5_restore_43 : decode cX5_restore 43 = .ok (.iload_n 1, 1) := by decide +kernel
theorem dX5_restore_44 : decode cX5_restore 44 = .ok (.aaload, 1) := by decide +kernel
theorem dX5_restore_45 : decode cX5_restore 45 = .ok (.invokevirtual 184, 3) := by decide +kernel
theorem dX5_restore_48 : decode cX5_restore 48 = .ok (.aload_n 0, 1) := by decide +kernel
theorem dX5_restore_49 : decode cX5_restore 49 = .ok (.getfield 19, 3) := by decide +kernel
theorem dX5_restore_52 : decode cX5_restore 52 = .ok (.aload_n 0, 1) := by decide +kernel
theorem dX5_restore_53 : decode cX5_restore 53 = .ok (.getfield 10, 3) := by decide +kernel
theorem dX5_restore_56 : decode cX5_restore 56 = .ok (.invokevirtual 65, 3) := by decide +kernel
theorem dX5_restore_59 : decode cX5_restore 59 = .ok (.aload_n 0, 1) := by decide +kernel
theorem dX5_restore_60 : decode cX5_restore 60 = .ok (.getfield 10, 3) := by decide +kernel
theorem dX5_restore_63 : decode cX5_restore 63 = .ok (.getfield 84, 3) := by decide +kernel
theorem dX5_restore_66 : decode cX5_restore 66 = .ok (.ireturn, 1) := by decide +kernel
set_option maxRecDepth 20000 in
theorem ggX5_isRule_X3_hasSet : GoodIn wsX5_isRule wsX3_hasSet := goodIn_r _ [6, 7, 19, 20, 21, 22] (by decide +kernel) (by decide +kernel)
set_option maxRecDepth 20000 in
theorem gX5_isRule_X3_hasSet : GoodIn wsX5_isRule (wsV RX5 157 RX3 yX3_hasSet wsX3_hasSet) := goodIn_app (goodIn_of _ (by decide +kernel)) ggX5_isRule_X3_hasSet
theorem dX5_isRule_0 : decode cX5_isRule 0 = .ok (.iload_n 1, 1) := by decide +kernel
theorem dX5_isRule_1 : decode cX5_isRule 1 = .ok (.ifCond .eq 27, 3) := by decide +kernel
theorem dX5_isRule_4 : decode cX5_isRule 4 = .ok (.aload_n 0, 1) := by decide +kernel
theorem dX5_isRule_5 : decode cX5_isRule 5 = .ok (.getfield 10, 3) := by decide +kernel
theorem dX5_isRule_8 : decode cX5_isRule 8 = .ok (.iload_n 1, 1) := by decide +kernel
theorem dX5_isRule_9 : decode cX5_isRule 9 = .ok (.invokevirtual 157, 3) := by decide +kernel
theorem dX5_isRule_12 : decode cX5_isRule 12 = .ok (.ifCond .eq 16, 3) := by decide +kernel
theorem dX5_isRule_15 : decode cX5_isRule 15 = .ok (.iload_n 2, 1) := by decide +kernel
theorem dX5_isRule_16 : decode cX5_isRule 16 = .ok (.ifCond .eq 8, 3) := by decide +kernel
theorem dX5_isRule_19 : decode cX5_isRule 19 = .ok (.iload_n 2, 1) := by decide +kernel
theorem dX5_isRule_20 : decode cX5_isRule 20 = .ok (.iconst 1, 1) := by decide +kernel
theorem dX5_isRule_21 : decode cX5_isRule 21 = .ok (.if_icmp .ne 7, 3) := by decide +kernel
theorem dX5_isRule_24 : decode cX5_isRule 24 = .ok (.iconst 1, 1) := by decide +kernel
theorem dX5_isRule_25 : decode cX5_isRule 25 = .ok (.goto 4, 3) := by decide +kernel
theorem dX5_isRule_28 : decode cX5_isRule 28 = .ok (.iconst 0, 1) := by decide +kernel
theorem dX5_isRule_29 : decode cX5_isRule 29 = .ok (.ireturn, 1) := by decide +kernel
theorem dX5_charactersIn_0 : decode cX5_charactersIn 0 = .ok (.lload_n 0, 1) := by decide +kernel
theorem dX5_charactersIn_1 : decode cX5_charactersIn 1 = .ok (.lstore_n 2, 1) := by decide +kernel
theorem dX5_charactersIn_2 : decode cX5_charactersIn 2 = .ok (.iconst 0, 1) := by decide +kernel
theorem dX5_charactersIn_3 : decode cX5_charactersIn 3 = .ok (.istore 4, 2) := by decide +kernel
theorem dX5_charactersIn_5 : decode cX5_charactersIn 5 = .ok (.iload 4, 2) := by decide +kernel
theorem dX5_charactersIn_7 : decode cX5_charactersIn 7 = .ok (.bipush 8, 2) := by decide +kernel
theorem dX5_charactersIn_9 : decode cX5_charactersIn 9 = .ok (.if_icmp .ge 51, 3) := by decide +kernel
theorem dX5_charactersIn_12 : decode cX5_charactersIn 12 = .ok (.lload_n 2, 1) := by decide +kernel
theorem dX5_charactersIn_13 : decode cX5_charactersIn 13 = .ok (.ldc2_w 191, 3) := by decide +kernel
theorem dX5_charactersIn_16 : decode cX5_charactersIn 16 = .ok (.land, 1) := by decide +kernel
theorem dX5_charactersIn_17 : decode cX5_charactersIn 17 = .ok (.lconst 0, 1) := by decide +kernel
theorem dX5_charactersIn_18 : decode cX5_charactersIn 18 = .ok (.lcmp, 1) := by decide +kernel
theorem dX5_charactersIn_19 : decode cX5_charactersIn 19 = .ok (.ifCond .eq 41, 3) := by decide +kernel
theorem dX5_charactersIn_22 : decode cX5_charactersIn 22 = .ok (.lload_n 2, 1) := by decide +kernel
theorem dX5_charactersIn_23 : decode cX5_charactersIn 23 = .ok (.ldc2_w 191, 3) := by decide +kernel
theorem dX5_charactersIn_26 : decode cX5_charactersIn 26 = .ok (.land, 1) := by decide +kernel
theorem dX5_charactersIn_27 : decode cX5_charactersIn 27 = .ok (.lstore 5, 2) := by decide +kernel
theorem dX5_charactersIn_29 : decode cX5_charactersIn 29 = .ok (.lload 5, 2) := by decide +kernel
theorem dX5_charactersIn_31 : decode cX5_charactersIn 31 = .ok (.ldc2_w 199, 3) := by decide +kernel
theorem dX5_charactersIn_34 : decode cX5_charactersIn 34 = .ok (.lcmp, 1) := by decide +kernel
theorem dX5_charactersIn_35 : decode cX5_charactersIn 35 = .ok (.ifCond .lt 12, 3) := by decide +kernel
theorem dX5_charactersIn_38 : decode cX5_charactersIn 38 = .ok (.lload 5, 2) := by decide +kernel
theorem dX5_charactersIn_40 : decode cX5_charactersIn 40 = .ok (.ldc2_w 201, 3) := by decide +kernel
theorem dX5_charactersIn_43 : decode cX5_charactersIn 43 = .ok (.lcmp, 1) := by decide +kernel
theorem dX5_charactersIn_44 : decode cX5_charactersIn 44 = .ok (.ifCond .le 5, 3) := by decide +kernel
theorem dX5_charactersIn_47 : decode cX5_charactersIn 47 = .ok (.iconst 0, 1) := by decide +kernel
theorem dX5_charactersIn_48 : decode cX5_charactersIn 48 = .ok (.ireturn, 1) := by decide +kernel
theorem dX5_charactersIn_49 : decode cX5_charactersIn 49 = .ok (.lload_n 2, 1) := by decide +kernel
theorem dX5_charactersIn_50 : decode cX5_charactersIn 50 = .ok (.bipush 8, 2) := by decide +kernel
theorem dX5_charactersIn_52 : decode cX5_charactersIn 52 = .ok (.lushr, 1) := by decide +kernel
theorem dX5_charactersIn_53 : decode cX5_charactersIn 53 = .ok (.lstore_n 2, 1) := by decide +kernel
theorem dX5_charactersIn_54 : decode cX5_charactersIn 54 = .ok (.iinc 4 1, 3) := by decide +kernel
theorem dX5_charactersIn_57 : decode cX5_charactersIn 57 = .ok (.goto (-52), 3) := by decide +kernel
theorem dX5_charactersIn_60 : decode cX5_charactersIn 60 = .ok (.lload_n 2, 1) := by decide +kernel
theorem dX5_charactersIn_61 : decode cX5_charactersIn 61 = .ok (.lconst 0, 1) := by decide +kernel
theorem dX5_charactersIn_62 : decode cX5_charactersIn 62 = .ok (.lcmp, 1) := by decide +kernel
theorem dX5_charactersIn_63 : decode cX5_charactersIn 63 = .ok (.ifCond .ne 8, 3) := by decide +kernel
theorem dX5_charactersIn_66 : decode cX5_charactersIn 66 = .ok (.iload 4, 2) := by decide +kernel
theorem dX5_charactersIn_68 : decode cX5_charactersIn 68 = .ok (.goto 4, 3) := by decide +kernel
theorem dX5_charactersIn_71 : decode cX5_charactersIn 71 = .ok (.iconst 0, 1) := by decide +kernel
theorem dX5_charactersIn_72 : decode cX5_charactersIn 72 = .ok (.ireturn, 1) := by decide +kernel
set_option maxRecDepth 20000 in
theorem ggX5_parity_J6_bitCount_0f7a4 : GoodIn wsX5_parity wsJ6_bitCount_0f7a4 := goodIn_r _ [4, 5, 6, 7] (by decide +kernel) (by decide +kernel)
set_option maxRecDepth 20000 in
theorem gX5_parity_J6_bitCount_0f7a4 : GoodIn wsX5_parity (va_wsS RX5 163 yJ6_bitCount_0f7a4 wsJ6_bitCount_0f7a4) := goodIn_app (goodIn_of _ (by decide +kernel)) ggX5_parity_J6_bitCount_0f7a4
theorem dX5_parity_0 : decode cX5_parity 0 = .ok (.iload_n 0, 1) := by decide +kernel
theorem dX5_parity_1 : decode cX5_parity 1 = .ok (.invokestatic 163, 3) := by decide +kernel
theorem dX5_parity_4 : decode cX5_parity 4 = .ok (.iconst 1, 1) := by decide +kernel
theorem dX5_parity_5 : decode cX5_parity 5 = .ok (.iand, 1) := by decide +kernel
theorem dX5_parity_6 : decode cX5_parity 6 = .ok (.ireturn, 1) := by decide +kernel
set_option maxRecDepth 20000 in
theorem ggX5_lowestBit_J6_bitCount_0f7a4 : GoodIn wsX5_lowestBit wsJ6_bitCount_0f7a4 := goodIn_r _ [4, 5, 6, 7] (by decide +kernel) (by decide +kernel)
set_option maxRecDepth 20000 in
theorem gX5_lowestBit_J6_bitCount_0f7a4 : GoodIn wsX5_lowestBit (va_wsS RX5 163 yJ6_bitCount_0f7a4 wsJ6_bitCount_0f7a4) := goodIn_app (goodIn_of _ (by decide +kernel)) ggX5_lowestBit_J6_bitCount_0f7a4
theorem dX5_lowestBit_0 : decode cX5_lowestBit 0 = .ok (.iload_n 0, 1) := by decide +kernel
theorem dX5_lowestBit_1 : decode cX5_lowestBit 1 = .ok (.iconst (-1), 1) := by decide +kernel
theorem dX5_lowestBit_2 : decode cX5_lowestBit 2 = .ok (.ixor, 1) := by decide +kernel
theorem dX5_lowestBit_3 : decode cX5_lowestBit 3 = .ok (.iload_n 0, 1) := by decide +kernel
theorem dX5_lowestBit_4 : decode cX5_lowestBit 4 = .ok (.iconst 1, 1) := by decide +kernel
theorem dX5_lowestBit_5 : decode cX5_lowestBit 5 = .ok (.isub, 1) := by decide +kernel
theorem dX5_lowestBit_6 : decode cX5_lowestBit 6 = .ok (.iand, 1) := by decide +kernel
theorem dX5_lowestBit_7 : decode cX5_lowestBit 7 = .ok (.invokestatic 163, 3) := by decide +kernel
theorem dX5_lowestBit_10 : decode cX5_lowestBit 10 = .ok (.ireturn, 1) := by decide +kernel
theorem dX5_carry_0 : decode cX5_carry 0 = .ok (.aload_n 0, 1) := by decide +kernel
theorem dX5_carry_1 : decode cX5_carry 1 = .ok (.iload_n 1, 1) := by decide +kernel
theorem dX5_carry_2 : decode cX5_carry 2 = .ok (.iaload, 1) := by decide +kernel
theorem dX5_carry_3 : decode cX5_carry 3 = .ok (.istore_n 3, 1) := by decide +kernel
theorem dX5_carry_4 : decode cX5_carry 4 = .ok (.iload_n 1, 1) := by decide +kernel
theorem dX5_carry_5 : decode cX5_carry 5 = .ok (.istore 4, 2) := by decide +kernel
theorem dX5_carry_7 : decode cX5_carry 7 = .ok (.iload 4, 2) := by decide +kernel
theorem dX5_carry_9 : decode cX5_carry 9 = .ok (.iload_n 2, 1) := by decide +kernel
theorem dX5_carry_10 : decode cX5_carry 10 = .ok (.if_icmp .ge 19, 3) := by decide +kernel
theorem dX5_carry_13 : decode cX5_carry 13 = .ok (.aload_n 0, 1) := by decide +kernel
theorem dX5_carry_14 : decode cX5_carry 14 = .ok (.iload 4, 2) := by decide +kernel
theorem dX5_carry_16 : decode cX5_carry 16 = .ok (.aload_n 0, 1) := by decide +kernel
theorem dX5_carry_17 : decode cX5_carry 17 = .ok (.iload 4, 2) := by decide +kernel
theorem dX5_carry_19 : decode cX5_carry 19 = .ok (.iconst 1, 1) := by decide +kernel
theorem dX5_carry_20 : decode cX5_carry 20 = .ok (.iadd, 1) := by decide +kernel
theorem dX5_carry_21 : decode cX5_carry 21 = .ok (.iaload, 1) := by decide +kernel
theorem dX5_carry_22 : decode cX5_carry 22 = .ok (.iastore, 1) := by decide +kernel
theorem dX5_carry_23 : decode cX5_carry 23 = .ok (.iinc 4 1, 3) := by decide +kernel
theorem dX5_carry_26 : decode cX5_carry 26 = .ok (.goto (-19), 3) := by decide +kernel
theorem dX5_carry_29 : decode cX5_carry 29 = .ok (.iload_n 1, 1) := by decide +kernel
theorem dX5_carry_30 : decode cX5_carry 30 = .ok (.istore 4, 2) := by decide +kernel
theorem dX5_carry_32 : decode cX5_carry 32 = .ok (.iload 4, 2) := by decide +kernel
theorem dX5_carry_34 : decode cX5_carry 34 = .ok (.iload_n 2, 1) := by decide +kernel
theorem dX5_carry_35 : decode cX5_carry 35 = .ok (.if_icmp .le 19, 3) := by decide +kernel
theorem dX5_carry_38 : decode cX5_carry 38 = .ok (.aload_n 0, 1) := by decide +kernel
theorem dX5_carry_39 : decode cX5_carry 39 = .ok (.iload 4, 2) := by decide +kernel
theorem dX5_carry_41 : decode cX5_carry 41 = .ok (.aload_n 0, 1) := by decide +kernel
theorem dX5_carry_42 : decode cX5_carry 42 = .ok (.iload 4, 2) := by decide +kernel
theorem dX5_carry_44 : decode cX5_carry 44 = .ok (.iconst 1, 1) := by decide +kernel
theorem dX5_carry_45 : decode cX5_carry 45 = .ok (.isub, 1) := by decide +kernel
theorem dX5_carry_46 : decode cX5_carry 46 = .ok (.iaload, 1) := by decide +kernel
theorem dX5_carry_47 : decode cX5_carry 47 = .ok (.iastore, 1) := by decide +kernel
theorem dX5_carry_48 : decode cX5_carry 48 = .ok (.iinc 4 (-1), 3) := by decide +kernel
theorem dX5_carry_51 : decode cX5_carry 51 = .ok (.goto (-19), 3) := by decide +kernel
theorem dX5_carry_54 : decode cX5_carry 54 = .ok (.aload_n 0, 1) := by decide +kernel
theorem dX5_carry_55 : decode cX5_carry 55 = .ok (.iload_n 2, 1) := by decide +kernel
theorem dX5_carry_56 : decode cX5_carry 56 = .ok (.iload_n 3, 1) := by decide +kernel
theorem dX5_carry_57 : decode cX5_carry 57 = .ok (.iastore, 1) := by decide +kernel
theorem dX5_carry_58 : decode cX5_carry 58 = .ok (.return_, 1) := by decide +kernel
theorem dX6_init_0 : decode cX6_init 0 = .ok (.aload_n 0, 1) := by decide +kernel
theorem dX6_init_1 : decode cX6_init 1 = .ok (.invokespecial 1, 3) := by decide +kernel
theorem dX6_init_4 : decode cX6_init 4 = .ok (.aload_n 0, 1) := by decide +kernel
theorem dX6_init_5 : decode cX6_init 5 = .ok (.bipush 42, 2) := by decide +kernel
theorem dX6_init_7 : decode cX6_init 7 = .ok (.newarray .int, 2) := by decide +kernel
theorem dX6_init_9 : decode cX6_init 9 = .ok (.putfield 7, 3) := by decide +kernel
theorem dX6_init_12 : decode cX6_init 12 = .ok (.aload_n 0, 1) := by decide +kernel
theorem dX6_init_13 : decode cX6_init 13 = .ok (.bipush 42, 2) := by decide +kernel
theorem dX6_init_15 : decode cX6_init 15 = .ok (.newarray .int, 2) := by decide +kernel
theorem dX6_init_17 : decode cX6_init 17 = .ok (.putfield 13, 3) := by decide +kernel
theorem dX6_init_20 : decode cX6_init 20 = .ok (.aload_n 0, 1) := by decide +kernel
theorem dX6_init_21 : decode cX6_init 21 = .ok (.sipush 252, 3) := by decide +kernel
theorem dX6_init_24 : decode cX6_init 24 = .ok (.newarray .int, 2) := by decide +kernel
theorem dX6_init_26 : decode cX6_init 26 = .ok (.putfield 16, 3) := by decide +kernel
theorem dX6_init_29 : decode cX6_init 29 = .ok (.aload_n 0, 1) := by decide +kernel
theorem dX6_init_30 : decode cX6_init 30 = .ok (.bipush 84, 2) := by decide +kernel
theorem dX6_init_32 : decode cX6_init 32 = .ok (.newarray .int, 2) := by decide +kernel
theorem dX6_init_34 : decode cX6_init 34 = .ok (.putfield 19, 3) := by decide +kernel
theorem dX6_init_37 : decode cX6_init 37 = .ok (.aload_n 0, 1) := by decide +kernel
theorem dX6_init_38 : decode cX6_init 38 = .ok (.iconst 2, 1) := by decide +kernel
theorem dX6_init_39 : decode cX6_init 39 = .ok (.newarray .int, 2) := by decide +kernel
theorem dX6_init_41 : decode cX6_init 41 = .ok (.putfield 22, 3) := by decide +kernel
theorem dX6_init_44 : decode cX6_init 44 = .ok (.aload_n 0, 1) := by decide +kernel
theorem dX6_init_45 : decode cX6_init 45 = .ok (.bipush 12, 2) := by decide +kernel
theorem dX6_init_47 : decode cX6_init 47 = .ok (.newarray .int, 2) := by decide +kernel
theorem dX6_init_49 : decode cX6_init 49 = .ok (.putfield 25, 3) := by decide +kernel
theorem dX6_init_52 : decode cX6_init 52 = .ok (.aload_n 0, 1) := by decide +kernel
theorem dX6_init_53 : decode cX6_init 53 = .ok (.bipush 12, 2) := by decide +kernel
theorem dX6_init_55 : decode cX6_init 55 = .ok (.newarray .int, 2) := by decide +kernel
theorem dX6_init_57 : decode cX6_init 57 = .ok (.putfield 28, 3) := by decide +kernel
theorem dX6_init_60 : decode cX6_init 60 = .ok (.aload_n 0, 1) := by decide +kernel
theorem dX6_init_61 : decode cX6_init 61 = .ok (.bipush 20, 2) := by decide +kernel
theorem dX6_init_63 : decode cX6_init 63 = .ok (.newarray .int, 2) := by decide +kernel
theorem dX6_init_65 : decode cX6_init 65 = .ok (.putfield 31, 3) := by decide +kernel
theorem dX6_init_68 : decode cX6_init 68 = .ok (.aload_n 0, 1) := by decide +kernel
theorem dX6_init_69 : decode cX6_init 69 = .ok (.bipush 20, 2) := by decide +kernel
theorem dX6_init_71 : decode cX6_init 71 = .ok (.newarray .int, 2) := by decide +kernel
theorem dX6_init_73 : decode cX6_init 73 = .ok (.putfield 34, 3) := by decide +kernel
theorem dX6_init_76 : decode cX6_init 76 = .ok (.aload_n 0, 1) := by decide +kernel
theorem dX6_init_77 : decode cX6_init 77 = .ok (.bipush 20, 2) := by decide +kernel
theorem dX6_init_79 : decode cX6_init 79 = .ok (.newarray .int, 2) := by decide +kernel
theorem dX6_init_81 : decode cX6_init 81 = .ok (.putfield 37, 3) := by decide +kernel
theorem dX6_init_84 : decode cX6_init 84 = .ok (.aload_n 0, 1) := by decide +kernel
theorem dX6_init_85 : decode cX6_init 85 = .ok (.bipush 80, 2) := by decide +kernel
theorem dX6_init_87 : decode cX6_init 87 = .ok (.newarray .int, 2) := by decide +kernel
theorem dX6_init_89 : decode cX6_init 89 = .ok (.putfield 40, 3) := by decide +kernel
theorem dX6_init_92 : decode cX6_init 92 = .ok (.aload_n 0, 1) := by decide +kernel
theorem dX6_init_93 : decode cX6_init 93 = .ok (.bipush 40, 2) := by decide +kernel
theorem dX6_init_95 : decode cX6_init 95 = .ok (.newarray .int, 2) := by decide +kernel
theorem dX6_init_97 : decode cX6_init 97 = .ok (.putfield 43, 3) := by decide +kernel
theorem dX6_init_100 : decode cX6_init 100 = .ok (.aload_n 0, 1) := by decide +kernel
theorem dX6_init_101 : decode cX6_init 101 = .ok (.bipush 40, 2) := by decide +kernel
theorem dX6_init_103 : decode cX6_init 103 = .ok (.newarray .int, 2) := by decide +kernel
theorem dX6_init_105 : decode cX6_init 105 = .ok (.putfield 46, 3) := by decide +kernel
theorem dX6_init_108 : decode cX6_init 108 = .ok (.aload_n 0, 1) := by decide +kernel
theorem dX6_init_109 : decode cX6_init 109 = .ok (.getfield 7, 3) := by decide +kernel
theorem dX6_init_112 : decode cX6_init 112 = .ok (.iconst 0, 1) := by decide +kernel
theorem dX6_init_113 : decode cX6_init 113 = .ok (.bipush 6, 2) := by decide +kernel
theorem dX6_init_115 : decode cX6_init 115 = .ok (.iastore, 1) := by decide +kernel
theorem dX6_init_116 : decode cX6_init 116 = .ok (.return_, 1) := by decide +kernel
theorem dX6_in_0 : decode cX6_in 0 = .ok (.lload_n 0, 1) := by decide +kernel
theorem dX6_in_1 : decode cX6_in 1 = .ok (.lload_n 2, 1) := by decide +kernel
theorem dX6_in_2 : decode cX6_in 2 = .ok (.lcmp, 1) := by decide +kernel
theorem dX6_in_3 : decode cX6_in 3 = .ok (.ifCond .lt 14, 3) := by decide +kernel
theorem dX6_in_6 : decode cX6_in 6 = .ok (.lload_n 0, 1) := by decide +kernel
theorem dX6_in_7 : decode cX6_in 7 = .ok (.lload 4, 2) := by decide +kernel
theorem dX6_in_9 : decode cX6_in 9 = .ok (.lcmp, 1) := by decide +kernel
theorem dX6_in_10 : decode cX6_in 10 = .ok (.ifCond .gt 7, 3) := by decide +kernel
theorem dX6_in_13 : decode cX6_in 13 = .ok (.iconst 1, 1) := by decide +kernel
theorem dX6_in_14 : decode cX6_in 14 = .ok (.goto 4, 3) := by decide +kernel
theorem dX6_in_17 : decode cX6_in 17 = .ok (.iconst 0, 1) := by decide +kernel
theorem dX6_in_18 : decode cX6_in 18 = .ok (.ireturn, 1) := by decide +kernel
theorem dX6_keep_0 : decode cX6_keep 0 = .ok (.iconst 0, 1) := by decide +kernel
theorem dX6_keep_1 : decode cX6_keep 1 = .ok (.istore_n 1, 1) := by decide +kernel
theorem dX6_keep_2 : decode cX6_keep 2 = .ok (.iload_n 1, 1) := by decide +kernel
theorem dX6_keep_3 : decode cX6_keep 3 = .ok (.bipush 42, 2) := by decide +kernel
theorem dX6_keep_5 : decode cX6_keep 5 = .ok (.if_icmp .ge 21, 3) := by decide +kernel
theorem dX6_keep_8 : decode cX6_keep 8 = .ok (.aload_n 0, 1) := by decide +kernel
theorem dX6_keep_9 : decode cX6_keep 9 = .ok (.getfield 13, 3) := by decide +kernel
theorem dX6_keep_12 : decode cX6_keep 12 = .ok (.iload_n 1, 1) := by decide +kernel
theorem dX6_keep_13 : decode cX6_keep 13 = .ok (.aload_n 0, 1) := by decide +kernel
theorem dX6_keep_14 : decode cX6_keep 14 = .ok (.getfield 7, 3) := by decide +kernel
theorem dX6_keep_17 : decode cX6_keep 17 = .ok (.iload_n 1, 1) := by decide +kernel
theorem dX6_keep_18 : decode cX6_keep 18 = .ok (.iaload, 1) := by decide +kernel
theorem dX6_keep_19 : decode cX6_keep 19 = .ok (.iastore, 1) := by decide +kernel
theorem dX6_keep_20 : decode cX6_keep 20 = .ok (.iinc 1 1, 3) := by decide +kernel
theorem dX6_keep_23 : decode cX6_keep 23 = .ok (.goto (-21), 3) := by decide +kernel
theorem dX6_keep_26 : decode cX6_keep 26 = .ok (.return_, 1) := by decide +kernel
theorem dX6_giveBack_0 : decode cX6_giveBack 0 = .ok (.iconst 0, 1) := by decide +kernel
theorem dX6_giveBack_1 : decode cX6_giveBack 1 = .ok (.istore_n 1, 1) := by decide +kernel
theorem dX6_giveBack_2 : decode cX6_giveBack 2 = .ok (.iload_n 1, 1) := by decide +kernel
theorem dX6_giveBack_3 : decode cX6_giveBack 3 = .ok (.bipush 42, 2) := by decide +kernel
theorem dX6_giveBack_5 : decode cX6_giveBack 5 = .ok (.if_icmp .ge 21, 3) := by decide +kernel
theorem dX6_giveBack_8 : decode cX6_giveBack 8 = .ok (.aload_n 0, 1) := by decide +kernel
theorem dX6_giveBack_9 : decode cX6_giveBack 9 = .ok (.getfield 7, 3) := by decide +kernel
theorem dX6_giveBack_12 : decode cX6_giveBack 12 = .ok (.iload_n 1, 1) := by decide +kernel
theorem dX6_giveBack_13 : decode cX6_giveBack 13 = .ok (.aload_n 0, 1) := by decide +kernel
theorem dX6_giveBack_14 : decode cX6_giveBack 14 = .ok (.getfield 13, 3) := by decide +kernel
theorem dX6_giveBack_17 : decode cX6_giveBack 17 = .ok (.iload_n 1, 1) := by decide +kernel
theorem dX6_giveBack_18 : decode cX6_giveBack 18 = .ok (.iaload, 1) := by decide +kernel
theorem dX6_giveBack_19 : decode cX6_giveBack 19 = .ok (.iastore, 1) := by decide +kernel
theorem dX6_giveBack_20 : decode cX6_giveBack 20 = .ok (.iinc 1 1, 3) := by decide +kernel
theorem dX6_giveBack_23 : decode cX6_giveBack 23 = .ok (.goto (-21), 3) := by decide +kernel
theorem dX6_giveBack_26 : decode cX6_giveBack 26 = .ok (.return_, 1) := by decide +kernel
theorem dX6_changed_0 : decode cX6_changed 0 = .ok (.aload_n 0, 1) := by decide +kernel
theorem dX6_changed_1 : decode cX6_changed 1 = .ok (.getfield 49, 3) := by decide +kernel
theorem dX6_changed_4 : decode cX6_changed 4 = .ok (.bipush 6, 2) := by decide +kernel
theorem dX6_changed_6 : decode cX6_changed 6 = .ok (.if_icmp .ne 43, 3) := by decide +kernel
theorem dX6_changed_9 : decode cX6_changed 9 = .ok (.iconst 0, 1) := by decide +kernel
theorem dX6_changed_10 : decode cX6_changed 10 = .ok (.istore_n 2, 1) := by decide +kernel
theorem dX6_changed_11 : decode cX6_changed 11 = .ok (.iload_n 2, 1) := by decide +kernel
theorem dX6_changed_12 : decode cX6_changed 12 = .ok (.sipush 210, 3) := by decide +kernel
theorem dX6_changed_15 : decode cX6_changed 15 = .ok (.if_icmp .ge 24, 3) := by decide +kernel
theorem dX6_changed_18 : decode cX6_changed 18 = .ok (.aload_n 0, 1) := by decide +kernel
theorem dX6_changed_19 : decode cX6_changed 19 = .ok (.getfield 16, 3) := by decide +kernel
theorem dX6_changed_22 : decode cX6_changed 22 = .ok (.iload_n 2, 1) := by decide +kernel
theorem dX6_changed_23 : decode cX6_changed 23 = .ok (.aload_n 0, 1) := by decide +kernel
theorem dX6_changed_24 : decode cX6_changed 24 = .ok (.getfield 16, 3) := by decide +kernel
theorem dX6_changed_27 : decode cX6_changed 27 = .ok (.iload_n 2, 1) := by decide +kernel
theorem dX6_changed_28 : decode cX6_changed 28 = .ok (.bipush 42, 2) := by decide +kernel
theorem dX6_changed_30 : decode cX6_changed 30 = .ok (.iadd, 1) := by decide +kernel
theorem dX6_changed_31 : decode cX6_changed 31 = .ok (.iaload, 1) := by decide +kernel
theorem dX6_changed_32 : decode cX6_changed 32 = .ok (.iastore, 1) := by decide +kernel
theorem dX6_changed_33 : decode cX6_changed 33 = .ok (.iinc 2 1, 3) := by decide +kernel
theorem dX6_changed_36 : decode cX6_changed 36 = .ok (.goto (-25), 3) := by decide +kernel
theorem dX6_changed_39 : decode cX6_changed 39 = .ok (.aload_n 0, 1) := by decide +kernel
theorem dX6_changed_40 : decode cX6_changed 40 = .ok (.dup, 1) := by decide +kernel
theorem dX6_changed_41 : decode cX6_changed 41 = .ok (.getfield 49, 3) := by decide +kernel
theorem dX6_changed_44 : decode cX6_changed 44 = .ok (.iconst 1, 1) := by decide +kernel
theorem dX6_changed_45 : decode cX6_changed 45 = .ok (.isub, 1) := by decide +kernel
theorem dX6_changed_46 : decode cX6_changed 46 = .ok (.putfield 49, 3) := by decide +kernel
theorem dX6_changed_49 : decode cX6_changed 49 = .ok (.iconst 0, 1) := by decide +kernel
theorem dX6_changed_50 : decode cX6_changed 50 = .ok (.istore_n 2, 1) := by decide +kernel
theorem dX6_changed_51 : decode cX6_changed 51 = .ok (.iload_n 2, 1) := by decide +kernel
theorem dX6_changed_52 : decode cX6_changed 52 = .ok (.bipush 42, 2) := by decide +kernel
theorem dX6_changed_54 : decode cX6_changed 54 = .ok (.if_icmp .ge 29, 3) := by decide +kernel
theorem dX6_changed_57 : decode cX6_changed 57 = .ok (.aload_n 0, 1) := by decide +kernel
theorem dX6_changed_58 : decode cX6_changed 58 = .ok (.getfield 16, 3) := by decide +kernel
theorem dX6_changed_61 : decode cX6_changed 61 = .ok (.bipush 42, 2) := by decide +kernel
theorem dX6_changed_63 : decode cX6_changed 63 = .ok (.aload_n 0, 1) := by decide +kernel
theorem dX6_changed_64 : decode cX6_changed 64 = .ok (.getfield 49, 3) := by decide +kernel
theorem dX6_changed_67 : decode cX6_changed 67 = .ok (.imul, 1) := by decide +kernel
theorem dX6_changed_68 : decode cX6_changed 68 = .ok (.iload_n 2, 1) := by decide +kernel
theorem dX6_changed_69 : decode cX6_changed 69 = .ok (.iadd, 1) := by decide +kernel
theorem dX6_changed_70 : decode cX6_changed 70 = .ok (.aload_n 0, 1) := by decide +kernel
theorem dX6_changed_71 : decode cX6_changed 71 = .ok (.getfield 13, 3) := by decide +kernel
theorem dX6_changed_74 : decode cX6_changed 74 = .ok (.iload_n 2, 1) := by decide +kernel
theorem dX6_changed_75 : decode cX6_changed 75 = .ok (.iaload, 1) := by decide +kernel
theorem dX6_changed_76 : decode cX6_changed 76 = .ok (.iastore, 1) := by decide +kernel
theorem dX6_changed_77 : decode cX6_changed 77 = .ok (.iinc 2 1, 3) := by decide +kernel
theorem dX6_changed_80 : decode cX6_changed 80 = .ok (.goto (-29), 3) := by decide +kernel
theorem dX6_changed_83 : decode cX6_changed 83 = .ok (.aload_n 0, 1) := by decide +kernel
theorem dX6_changed_84 : decode cX6_changed 84 = .ok (.dup, 1) := by decide +kernel
theorem dX6_changed_85 : decode cX6_changed 85 = .ok (.getfield 49, 3) := by decide +kernel
theorem dX6_changed_88 : decode cX6_changed 88 = .ok (.iconst 1, 1) := by decide +kernel
theorem dX6_changed_89 : decode cX6_changed 89 = .ok (.iadd, 1) := by decide +kernel
theorem dX6_changed_90 : decode cX6_changed 90 = .ok (.putfield 49, 3) := by decide +kernel
theorem dX6_changed_93 : decode cX6_changed 93 = .ok (.iload_n 1, 1) := by decide +kernel
theorem dX6_changed_94 : decode cX6_changed 94 = .ok (.ireturn, 1) := by decide +kernel
theorem dX6_bits_0 : decode cX6_bits 0 = .ok (.iconst 0, 1) := by decide +kernel
theorem dX6_bits_1 : decode cX6_bits 1 = .ok (.istore_n 1, 1) := by decide +kernel
theorem dX6_bits_2 : decode cX6_bits 2 = .ok (.iload_n 0, 1) := by decide +kernel
theorem dX6_bits_3 : decode cX6_bits 3 = .ok (.istore_n 2, 1) := by decide +kernel
theorem dX6_bits_4 : decode cX6_bits 4 = .ok (.iload_n 2, 1) := by decide +kernel
theorem dX6_bits_5 : decode cX6_bits 5 = .ok (.ifCond .eq 15, 3) := by decide +kernel
theorem dX6_bits_8 : decode cX6_bits 8 = .ok (.iinc 1 1, 3) := by decide +kernel
theorem dX6_bits_11 : decode cX6_bits 11 = .ok (.iload_n 2, 1) := by decide +kernel
theorem dX6_bits_12 : decode cX6_bits 12 = .ok (.iload_n 2, 1) := by decide +kernel
theorem dX6_bits_13 : decode cX6_bits 13 = .ok (.iconst 1, 1) := by decide +kernel
theorem dX6_bits_14 : decode cX6_bits 14 = .ok (.isub, 1) := by decide +kernel
theorem dX6_bits_15 : decode cX6_bits 15 = .ok (.iand, 1) := by decide +kernel
theorem dX6_bits_16 : decode cX6_bits 16 = .ok (.istore_n 2, 1) := by decide +kernel
theorem dX6_bits_17 : decode cX6_bits 17 = .ok (.goto (-13), 3) := by decide +kernel
theorem dX6_bits_20 : decode cX6_bits 20 = .ok (.iload_n 1, 1) := by decide +kernel
theorem dX6_bits_21 : decode cX6_bits 21 = .ok (.ireturn, 1) := by decide +kernel
set_option maxRecDepth 20000 in
theorem ggX6_odd_X6_bits : GoodIn wsX6_odd wsX6_bits := goodIn_r _ [4] (by decide +kernel) (by decide +kernel)
set_option maxRecDepth 20000 in
theorem gX6_odd_X6_bits : GoodIn wsX6_odd (va_wsS RX6 53 yX6_bits wsX6_bits) := goodIn_app (goodIn_of _ (by decide +kernel)) ggX6_odd_X6_bits
theorem dX6_odd_0 : decode cX6_odd 0 = .ok (.iload_n 0, 1) := by decide +kernel
theorem dX6_odd_1 : decode cX6_odd 1 = .ok (.invokestatic 53, 3) := by decide +kernel
theorem dX6_odd_4 : decode cX6_odd 4 = .ok (.iconst 2, 1) := by decide +kernel
theorem dX6_odd_5 : decode cX6_odd 5 = .ok (.irem, 1) := by decide +kernel
theorem dX6_odd_6 : decode cX6_odd 6 = .ok (.ireturn, 1) := by decide +kernel
theorem dX6_masks_0 : decode cX6_masks 0 = .ok (.iconst 1, 1) := by decide +kernel
theorem dX6_masks_1 : decode cX6_masks 1 = .ok (.aload_n 0, 1) := by decide +kernel
theorem dX6_masks_2 : decode cX6_masks 2 = .ok (.getfield 7, 3) := by decide +kernel
theorem dX6_masks_5 : decode cX6_masks 5 = .ok (.iconst 0, 1) := by decide +kernel
theorem dX6_masks_6 : decode cX6_masks 6 = .ok (.iaload, 1) := by decide +kernel
theorem dX6_masks_7 : decode cX6_masks 7 = .ok (.ishl, 1) := by decide +kernel
theorem dX6_masks_8 : decode cX6_masks 8 = .ok (.ireturn, 1) := by decide +kernel
set_option maxRecDepth 20000 in
theorem ggX6_isSet_X6_masks : GoodIn wsX6_isSet wsX6_masks := goodIn_r _ [5, 6, 10, 11, 12, 13, 14, 15, 16, 17, 18, 19, 20, 21, 22, 23, 24, 25, 26, 27, 28, 29] (by decide +kernel) (by decide +kernel)
set_option maxRecDepth 20000 in
theorem gX6_isSet_X6_masks : GoodIn wsX6_isSet (wsV RX6 57 RX6 yX6_masks wsX6_masks) := goodIn_app (goodIn_of _ (by decide +kernel)) ggX6_isSet_X6_masks
set_option maxRecDepth 20000 in
theorem ggX6_isSet_X6_in : GoodIn wsX6_isSet wsX6_in := goodIn_r _ [9] (by decide +kernel) (by decide +kernel)
set_option maxRecDepth 20000 in
theorem gX6_isSet_X6_in : GoodIn wsX6_isSet (va_wsS RX6 61 yX6_in wsX6_in) := goodIn_app (goodIn_of _ (by decide +kernel)) ggX6_isSet_X6_in
theorem dX6_isSet_0 : decode cX6_isSet 0 = .ok (.iload_n 1, 1) := by decide +kernel
theorem dX6_isSet_1 : decode cX6_isSet 1 = .ok (.i2l, 1) := by decide +kernel
theorem dX6_isSet_2 : decode cX6_isSet 2 = .ok (.lconst 1, 1) := by decide +kernel
theorem dX6_isSet_3 : decode cX6_isSet 3 = .ok (.aload_n 0, 1) := by decide +kernel
theorem dX6_isSet_4 : decode cX6_isSet 4 = .ok (.invokevirtual 57, 3) := by decide +kernel
theorem dX6_isSet_7 : decode cX6_isSet 7 = .ok (.i2l, 1) := by decide +kernel
theorem dX6_isSet_8 : decode cX6_isSet 8 = .ok (.lconst 1, 1) := by decide +kernel
theorem dX6_isSet_9 : decode cX6_isSet 9 = .ok (.lsub, 1) := by decide +kernel
theorem dX6_isSet_10 : decode cX6_isSet 10 = .ok (.invokestatic 61, 3) := by decide +kernel
theorem dX6_isSet_13 : decode cX6_isSet 13 = .ok (.ireturn, 1) := by decide +kernel
set_option maxRecDepth 20000 in
theorem ggX6_isRule_X6_in : GoodIn wsX6_isRule wsX6_in := goodIn_r _ [5] (by decide +kernel) (by decide +kernel)
set_option maxRecDepth 20000 in
theorem gX6_isRule_X6_in : GoodIn wsX6_isRule (va_wsS RX6 61 yX6_in wsX6_in) := goodIn_app (goodIn_of _ (by decide +kernel)) ggX6_isRule_X6_in
theorem dX6_isRule_0 : decode cX6_isRule 0 = .ok (.iload_n 1, 1) := by decide +kernel
theorem dX6_isRule_1 : decode cX6_isRule 1 = .ok (.i2l, 1) := by decide +kernel
theorem dX6_isRule_2 : decode cX6_isRule 2 = .ok (.lconst 0, 1) := by decide +kernel
theorem dX6_isRule_3 : decode cX6_isRule 3 = .ok (.aload_n 0, 1) := by decide +kernel
theorem dX6_isRule_4 : decode cX6_isRule 4 = .ok (.getfield 7, 3) := by decide +kernel
theorem dX6_isRule_7 : decode cX6_isRule 7 = .ok (.iconst 1, 1) := by decide +kernel
theorem dX6_isRule_8 : decode cX6_isRule 8 = .ok (.iaload, 1) := by decide +kernel
theorem dX6_isRule_9 : decode cX6_isRule 9 = .ok (.i2l, 1) := by decide +kernel
theorem dX6_isRule_10 : decode cX6_isRule 10 = .ok (.lconst 1, 1) := by decide +kernel
theorem dX6_isRule_11 : decode cX6_isRule 11 = .ok (.lsub, 1) := by decide +kernel
theorem dX6_isRule_12 : decode cX6_isRule 12 = .ok (.invokestatic 61, 3) := by decide +kernel
theorem dX6_isRule_15 : decode cX6_isRule 15 = .ok (.ireturn, 1) := by decide +kernel
set_option maxRecDepth 20000 in
theorem ggX6_fits_X6_odd : GoodIn wsX6_fits wsX6_odd := goodIn_r _ [5, 6, 7, 4, 8] (by decide +kernel) (by decide +kernel)
set_option maxRecDepth 20000 in
theorem gX6_fits_X6_odd : GoodIn wsX6_fits (va_wsS RX6 65 yX6_odd wsX6_odd) := goodIn_app (goodIn_of _ (by decide +kernel)) ggX6_fits_X6_odd
theorem dX6_fits_0 : decode cX6_fits 0 = .ok (.iload_n 1, 1) := by decide +kernel
theorem dX6_fits_1 : decode cX6_fits 1 = .ok (.aload_n 0, 1) := by decide +kernel
theorem dX6_fits_2 : decode cX6_fits 2 = .ok (.getfield 7, 3) := by decide +kernel
theorem dX6_fits_5 : decode cX6_fits 5 = .ok (.iconst 2, 1) := by decide +kernel
theorem dX6_fits_6 : decode cX6_fits 6 = .ok (.iload_n 2, 1) := by decide +kernel
theorem dX6_fits_7 : decode cX6_fits 7 = .ok (.iadd, 1) := by decide +kernel
theorem dX6_fits_8 : decode cX6_fits 8 = .ok (.iaload, 1) := by decide +kernel
theorem dX6_fits_9 : decode cX6_fits 9 = .ok (.iand, 1) := by decide +kernel
theorem dX6_fits_10 : decode cX6_fits 10 = .ok (.invokestatic 65, 3) := by decide +kernel
theorem dX6_fits_13 : decode cX6_fits 13 = .ok (.aload_n 0, 1) := by decide +kernel
theorem dX6_fits_14 : decode cX6_fits 14 = .ok (.getfield 7, 3) := by decide +kernel
theorem dX6_fits_17 : decode cX6_fits 17 = .ok (.bipush 22, 2) := by decide +kernel
theorem dX6_fits_19 : decode cX6_fits 19 = .ok (.iload_n 2, 1) := by decide +kernel
theorem dX6_fits_20 : decode cX6_fits 20 = .ok (.iadd, 1) := by decide +kernel
theorem dX6_fits_21 : decode cX6_fits 21 = .ok (.iaload, 1) := by decide +kernel
theorem dX6_fits_22 : decode cX6_fits 22 = .ok (.if_icmp .ne 7, 3) := by decide +kernel
theorem dX6_fits_25 : decode cX6_fits 25 = .ok (.iconst 1, 1) := by decide +kernel
theorem dX6_fits_26 : decode cX6_fits 26 = .ok (.goto 4, 3) := by decide +kernel
theorem dX6_fits_29 : decode cX6_fits 29 = .ok (.iconst 0, 1) := by decide +kernel
theorem dX6_fits_30 : decode cX6_fits 30 = .ok (.ireturn, 1) := by decide +kernel
theorem dX6_reduces_0 : decode cX6_reduces 0 = .ok (.aload_n 0, 1) := by decide +kernel
theorem dX6_reduces_1 : decode cX6_reduces 1 = .ok (.iload_n 1, 1) := by decide +kernel
theorem dX6_reduces_2 : decode cX6_reduces 2 = .ok (.putfield 68, 3) := by decide +kernel
theorem dX6_reduces_5 : decode cX6_reduces 5 = .ok (.aload_n 0, 1) := by decide +kernel
theorem dX6_reduces_6 : decode cX6_reduces 6 = .ok (.iconst 0, 1) := by decide +kernel
theorem dX6_reduces_7 : decode cX6_reduces 7 = .ok (.putfield 71, 3) := by decide +kernel
theorem dX6_reduces_10 : decode cX6_reduces 10 = .ok (.bipush 11, 2) := by decide +kernel
theorem dX6_reduces_12 : decode cX6_reduces 12 = .ok (.istore_n 2, 1) := by decide +kernel
theorem dX6_reduces_13 : decode cX6_reduces 13 = .ok (.iload_n 2, 1) := by decide +kernel
theorem dX6_reduces_14 : decode cX6_reduces 14 = .ok (.ifCond .lt 60, 3) := by decide +kernel
theorem dX6_reduces_17 : decode cX6_reduces 17 = .ok (.aload_n 0, 1) := by decide +kernel
theorem dX6_reduces_18 : decode cX6_reduces 18 = .ok (.getfield 68, 3) := by decide +kernel
theorem dX6_reduces_21 : decode cX6_reduces 21 = .ok (.iload_n 2, 1) := by decide +kernel
theorem dX6_reduces_22 : decode cX6_reduces 22 = .ok (.ishr, 1) := by decide +kernel
theorem dX6_reduces_23 : decode cX6_reduces 23 = .ok (.iconst 1, 1) := by decide +kernel
theorem dX6_reduces_24 : decode cX6_reduces 24 = .ok (.iand, 1) := by decide +kernel
theorem dX6_reduces_25 : decode cX6_reduces 25 = .ok (.iconst 1, 1) := by decide +kernel
theorem dX6_reduces_26 : decode cX6_reduces 26 = .ok (.if_icmp .ne 42, 3) := by decide +kernel
theorem dX6_reduces_29 : decode cX6_reduces 29 = .ok (.aload_n 0, 1) := by decide +kernel
theorem dX6_reduces_30 : decode cX6_reduces 30 = .ok (.getfield 25, 3) := by decide +kernel
theorem dX6_reduces_33 : decode cX6_reduces 33 = .ok (.iload_n 2, 1) := by decide +kernel
theorem dX6_reduces_34 : decode cX6_reduces 34 = .ok (.iaload, 1) := by decide +kernel
theorem dX6_reduces_35 : decode cX6_reduces 35 = .ok (.ifCond .eq 33, 3) := by decide +kernel
theorem dX6_reduces_38 : decode cX6_reduces 38 = .ok (.aload_n 0, 1) := by decide +kernel
theorem dX6_reduces_39 : decode cX6_reduces 39 = .ok (.dup, 1) := by decide +kernel
theorem dX6_reduces_40 : decode cX6_reduces 40 = .ok (.getfield 68, 3) := by decide +kernel
theorem dX6_reduces_43 : decode cX6_reduces 43 = .ok (.aload_n 0, 1) := by decide +kernel
theorem dX6_reduces_44 : decode cX6_reduces 44 = .ok (.getfield 25, 3) := by decide +kernel
theorem dX6_reduces_47 : decode cX6_reduces 47 = .ok (.iload_n 2, 1) := by decide +kernel
theorem dX6_reduces_48 : decode cX6_reduces 48 = .ok (.iaload, 1) := by decide +kernel
theorem dX6_reduces_49 : decode cX6_reduces 49 = .ok (.ixor, 1) := by decide +kernel
theorem dX6_reduces_50 : decode cX6_reduces 50 = .ok (.putfield 68, 3) := by decide +kernel
theorem dX6_reduces_53 : decode cX6_reduces 53 = .ok (.aload_n 0, 1) := by decide +kernel
theorem dX6_reduces_54 : decode cX6_reduces 54 = .ok (.dup, 1) := by decide +kernel
theorem dX6_reduces_55 : decode cX6_reduces 55 = .ok (.getfield 71, 3) := by decide +kernel
theorem dX6_reduces_58 : decode cX6_reduces 58 = .ok (.aload_n 0, 1) := by decide +kernel
theorem dX6_reduces_59 : decode cX6_reduces 59 = .ok (.getfield 28, 3) := by decide +kernel
theorem dX6_reduces_62 : decode cX6_reduces 62 = .ok (.iload_n 2, 1) := by decide +kernel
theorem dX6_reduces_63 : decode cX6_reduces 63 = .ok (.iaload, 1) := by decide +kernel
theorem dX6_reduces_64 : decode cX6_reduces 64 = .ok (.ixor, 1) := by decide +kernel
theorem dX6_reduces_65 : decode cX6_reduces 65 = .ok (.putfield 71, 3) := by decide +kernel
theorem dX6_reduces_68 : decode cX6_reduces 68 = .ok (.iinc 2 (-1), 3) := by decide +kernel
theorem dX6_reduces_71 : decode cX6_reduces 71 = .ok (.goto (-58), 3) := by decide +kernel
theorem dX6_reduces_74 : decode cX6_reduces 74 = .ok (.return_, 1) := by decide +kernel
theorem dX6_sumOf_0 : decode cX6_sumOf 0 = .ok (.iconst 0, 1) := by decide +kernel
theorem dX6_sumOf_1 : decode cX6_sumOf 1 = .ok (.istore_n 2, 1) := by decide +kernel
theorem dX6_sumOf_2 : decode cX6_sumOf 2 = .ok (.iconst 0, 1) := by decide +kernel
theorem dX6_sumOf_3 : decode cX6_sumOf 3 = .ok (.istore_n 3, 1) := by decide +kernel
theorem dX6_sumOf_4 : decode cX6_sumOf 4 = .ok (.iload_n 3, 1) := by decide +kernel
theorem dX6_sumOf_5 : decode cX6_sumOf 5 = .ok (.aload_n 0, 1) := by decide +kernel
theorem dX6_sumOf_6 : decode cX6_sumOf 6 = .ok (.getfield 7, 3) := by decide +kernel
theorem dX6_sumOf_9 : decode cX6_sumOf 9 = .ok (.iconst 1, 1) := by decide +kernel
theorem dX6_sumOf_10 : decode cX6_sumOf 10 = .ok (.iaload, 1) := by decide +kernel
theorem dX6_sumOf_11 : decode cX6_sumOf 11 = .ok (.if_icmp .ge 34, 3) := by decide +kernel
theorem dX6_sumOf_14 : decode cX6_sumOf 14 = .ok (.iload_n 2, 1) := by decide +kernel
theorem dX6_sumOf_15 : decode cX6_sumOf 15 = .ok (.iload_n 1, 1) := by decide +kernel
theorem dX6_sumOf_16 : decode cX6_sumOf 16 = .ok (.iload_n 3, 1) := by decide +kernel
theorem dX6_sumOf_17 : decode cX6_sumOf 17 = .ok (.ishr, 1) := by decide +kernel
theorem dX6_sumOf_18 : decode cX6_sumOf 18 = .ok (.iconst 1, 1) := by decide +kernel
theorem dX6_sumOf_19 : decode cX6_sumOf 19 = .ok (.iand, 1) := by decide +kernel
theorem dX6_sumOf_20 : decode cX6_sumOf 20 = .ok (.iconst 1, 1) := by decide +kernel
theorem dX6_sumOf_21 : decode cX6_sumOf 21 = .ok (.if_icmp .ne 15, 3) := by decide +kernel
theorem dX6_sumOf_24 : decode cX6_sumOf 24 = .ok (.aload_n 0, 1) := by decide +kernel
theorem dX6_sumOf_25 : decode cX6_sumOf 25 = .ok (.getfield 7, 3) := by decide +kernel
theorem dX6_sumOf_28 : decode cX6_sumOf 28 = .ok (.bipush 22, 2) := by decide +kernel
theorem dX6_sumOf_30 : decode cX6_sumOf 30 = .ok (.iload_n 3, 1) := by decide +kernel
theorem dX6_sumOf_31 : decode cX6_sumOf 31 = .ok (.iadd, 1) := by decide +kernel
theorem dX6_sumOf_32 : decode cX6_sumOf 32 = .ok (.iaload, 1) := by decide +kernel
theorem dX6_sumOf_33 : decode cX6_sumOf 33 = .ok (.goto 4, 3) := by decide +kernel
theorem dX6_sumOf_36 : decode cX6_sumOf 36 = .ok (.iconst 0, 1) := by decide +kernel
theorem dX6_sumOf_37 : decode cX6_sumOf 37 = .ok (.ixor, 1) := by decide +kernel
theorem dX6_sumOf_38 : decode cX6_sumOf 38 = .ok (.istore_n 2, 1) := by decide +kernel
theorem dX6_sumOf_39 : decode cX6_sumOf 39 = .ok (.iinc 3 1, 3) := by decide +kernel
theorem dX6_sumOf_42 : decode cX6_sumOf 42 = .ok (.goto (-38), 3) := by decide +kernel
theorem dX6_sumOf_45 : decode cX6_sumOf 45 = .ok (.iload_n 2, 1) := by decide +kernel
theorem dX6_sumOf_46 : decode cX6_sumOf 46 = .ok (.ireturn, 1) := by decide +kernel
set_option maxRecDepth 20000 in
theorem ggX6_stateOf_X6_reduces : GoodIn wsX6_stateOf wsX6_reduces := goodIn_r _ [7, 1, 2, 8, 9, 15, 16, 17, 18, 19, 20, 21, 22, 23, 24, 25, 26, 27, 28, 29, 30, 31, 32, 33, 34] (by decide +kernel) (by decide +kernel)
set_option maxRecDepth 20000 in
theorem gX6_stateOf_X6_reduces : GoodIn wsX6_stateOf (wsV RX6 74 RX6 yX6_reduces wsX6_reduces) := goodIn_app (goodIn_of _ (by decide +kernel)) ggX6_stateOf_X6_reduces
set_option maxRecDepth 20000 in
theorem ggX6_stateOf_X6_sumOf : GoodIn wsX6_stateOf wsX6_sumOf := goodIn_r _ [13, 14, 15, 16, 17, 18, 19, 20, 21, 22, 23, 24, 25, 26, 27, 28, 29, 30, 31, 32, 33, 34] (by decide +kernel) (by decide +kernel)
set_option maxRecDepth 20000 in
theorem gX6_stateOf_X6_sumOf : GoodIn wsX6_stateOf (wsV RX6 78 RX6 yX6_sumOf wsX6_sumOf) := goodIn_app (goodIn_of _ (by decide +kernel)) ggX6_stateOf_X6_sumOf
theorem dX6_stateOf_0 : decode cX6_stateOf 0 = .ok (.aload_n 0, 1) := by decide +kernel
theorem dX6_stateOf_1 : decode cX6_stateOf 1 = .ok (.iload_n 1, 1) := by decide +kernel
theorem dX6_stateOf_2 : decode cX6_stateOf 2 = .ok (.invokevirtual 74, 3) := by decide +kernel
theorem dX6_stateOf_5 : decode cX6_stateOf 5 = .ok (.aload_n 0, 1) := by decide +kernel
theorem dX6_stateOf_6 : decode cX6_stateOf 6 = .ok (.getfield 68, 3) := by decide +kernel
theorem dX6_stateOf_9 : decode cX6_stateOf 9 = .ok (.ifCond .eq 7, 3) := by decide +kernel
theorem dX6_stateOf_12 : decode cX6_stateOf 12 = .ok (.iconst 0, 1) := by decide +kernel
theorem dX6_stateOf_13 : decode cX6_stateOf 13 = .ok (.goto 20, 3) := by decide +kernel
theorem dX6_stateOf_16 : decode cX6_stateOf 16 = .ok (.aload_n 0, 1) := by decide +kernel
theorem dX6_stateOf_17 : decode cX6_stateOf 17 = .ok (.aload_n 0, 1) := by decide +kernel
theorem dX6_stateOf_18 : decode cX6_stateOf 18 = .ok (.getfield 71, 3) := by decide +kernel
theorem dX6_stateOf_21 : decode cX6_stateOf 21 = .ok (.invokevirtual 78, 3) := by decide +kernel
theorem dX6_stateOf_24 : decode cX6_stateOf 24 = .ok (.iload_n 2, 1) := by decide +kernel
theorem dX6_stateOf_25 : decode cX6_stateOf 25 = .ok (.if_icmp .ne 7, 3) := by decide +kernel
theorem dX6_stateOf_28 : decode cX6_stateOf 28 = .ok (.iconst 1, 1) := by decide +kernel
theorem dX6_stateOf_29 : decode cX6_stateOf 29 = .ok (.goto 4, 3) := by decide +kernel
theorem dX6_stateOf_32 : decode cX6_stateOf 32 = .ok (.iconst 2, 1) := by decide +kernel
theorem dX6_stateOf_33 : decode cX6_stateOf 33 = .ok (.ireturn, 1) := by decide +kernel
set_option maxRecDepth 20000 in
theorem ggX6_judges_X6_stateOf : GoodIn wsX6_judges wsX6_stateOf := goodIn_r _ [12, 7, 6, 13, 14, 15, 11, 16, 1, 2, 17, 18, 19, 20, 3, 21, 22, 23, 24, 25, 26, 27, 28, 29, 30, 31, 32, 33, 34, 35, 36, 37, 38, 39, 40] (by decide +kernel) (by decide +kernel)
set_option maxRecDepth 20000 in
theorem gX6_judges_X6_stateOf : GoodIn wsX6_judges (wsV RX6 81 RX6 yX6_stateOf wsX6_stateOf) := goodIn_app (goodIn_of _ (by decide +kernel)) ggX6_judges_X6_stateOf
theorem dX6_judges_0 : decode cX6_judges 0 = .ok (.iconst 0, 1) := by decide +kernel
theorem dX6_judges_1 : decode cX6_judges 1 = .ok (.istore_n 1, 1) := by decide +kernel
theorem dX6_judges_2 : decode cX6_judges 2 = .ok (.iload_n 1, 1) := by decide +kernel
theorem dX6_judges_3 : decode cX6_judges 3 = .ok (.bipush 12, 2) := by decide +kernel
theorem dX6_judges_5 : decode cX6_judges 5 = .ok (.if_icmp .ge 23, 3) := by decide +kernel
theorem dX6_judges_8 : decode cX6_judges 8 = .ok (.aload_n 0, 1) := by decide +kernel
theorem dX6_judges_9 : decode cX6_judges 9 = .ok (.getfield 25, 3) := by decide +kernel
theorem dX6_judges_12 : decode cX6_judges 12 = .ok (.iload_n 1, 1) := by decide +kernel
theorem dX6_judges_13 : decode cX6_judges 13 = .ok (.iconst 0, 1) := by decide +kernel
theorem dX6_judges_14 : decode cX6_judges 14 = .ok (.iastore, 1) := by decide +kernel
theorem dX6_judges_15 : decode cX6_judges 15 = .ok (.aload_n 0, 1) := by decide +kernel
theorem dX6_judges_16 : decode cX6_judges 16 = .ok (.getfield 28, 3) := by decide +kernel
theorem dX6_judges_19 : decode cX6_judges 19 = .ok (.iload_n 1, 1) := by decide +kernel
theorem dX6_judges_20 : decode cX6_judges 20 = .ok (.iconst 0, 1) := by decide +kernel
theorem dX6_judges_21 : decode cX6_judges 21 = .ok (.iastore, 1) := by decide +kernel
theorem dX6_judges_22 : decode cX6_judges 22 = .ok (.iinc 1 1, 3) := by decide +kernel
theorem dX6_judges_25 : decode cX6_judges 25 = .ok (.goto (-23), 3) := by decide +kernel
theorem dX6_judges_28 : decode cX6_judges 28 = .ok (.iconst 0, 1) := by decide +kernel
theorem dX6_judges_29 : decode cX6_judges 29 = .ok (.istore_n 1, 1) := by decide +kernel
theorem dX6_judges_30 : decode cX6_judges 30 = .ok (.iload_n 1, 1) := by decide +kernel
theorem dX6_judges_31 : decode cX6_judges 31 = .ok (.aload_n 0, 1) := by decide +kernel
theorem dX6_judges_32 : decode cX6_judges 32 = .ok (.getfield 7, 3) := by decide +kernel
theorem dX6_judges_35 : decode cX6_judges 35 = .ok (.iconst 1, 1) := by decide +kernel
theorem dX6_judges_36 : decode cX6_judges 36 = .ok (.iaload, 1) := by decide +kernel
theorem dX6_judges_37 : decode cX6_judges 37 = .ok (.if_icmp .ge 99, 3) := by decide +kernel
theorem dX6_judges_40 : decode cX6_judges 40 = .ok (.aload_n 0, 1) := by decide +kernel
theorem dX6_judges_41 : decode cX6_judges 41 = .ok (.getfield 31, 3) := by decide +kernel
theorem dX6_judges_44 : decode cX6_judges 44 = .ok (.iload_n 1, 1) := by decide +kernel
theorem dX6_judges_45 : decode cX6_judges 45 = .ok (.aload_n 0, 1) := by decide +kernel
theorem dX6_judges_46 : decode cX6_judges 46 = .ok (.aload_n 0, 1) := by decide +kernel
theorem dX6_judges_47 : decode cX6_judges 47 = .ok (.getfield 7, 3) := by decide +kernel
theorem dX6_judges_50 : decode cX6_judges 50 = .ok (.iconst 2, 1) := by decide +kernel
theorem dX6_judges_51 : decode cX6_judges 51 = .ok (.iload_n 1, 1) := by decide +kernel
theorem dX6_judges_52 : decode cX6_judges 52 = .ok (.iadd, 1) := by decide +kernel
theorem dX6_judges_53 : decode cX6_judges 53 = .ok (.iaload, 1) := by decide +kernel
theorem dX6_judges_54 : decode cX6_judges 54 = .ok (.aload_n 0, 1) := by decide +kernel
theorem dX6_judges_55 : decode cX6_judges 55 = .ok (.getfield 7, 3) := by decide +kernel
theorem dX6_judges_58 : decode cX6_judges 58 = .ok (.bipush 22, 2) := by decide +kernel
theorem dX6_judges_60 : decode cX6_judges 60 = .ok (.iload_n 1, 1) := by decide +kernel
theorem dX6_judges_61 : decode cX6_judges 61 = .ok (.iadd, 1) := by decide +kernel
theorem dX6_judges_62 : decode cX6_judges 62 = .ok (.iaload, 1) := by decide +kernel
theorem dX6_judges_63 : decode cX6_judges 63 = .ok (.invokevirtual 81, 3) := by decide +kernel
theorem dX6_judges_66 : decode cX6_judges 66 = .ok (.iastore, 1) := by decide +kernel
theorem dX6_judges_67 : decode cX6_judges 67 = .ok (.aload_n 0, 1) := by decide +kernel
theorem dX6_judges_68 : decode cX6_judges 68 = .ok (.getfield 34, 3) := by decide +kernel
theorem dX6_judges_71 : decode cX6_judges 71 = .ok (.iload_n 1, 1) := by decide +kernel
theorem dX6_judges_72 : decode cX6_judges 72 = .ok (.aload_n 0, 1) := by decide +kernel
theorem dX6_judges_73 : decode cX6_judges 73 = .ok (.getfield 71, 3) := by decide +kernel
theorem dX6_judges_76 : decode cX6_judges 76 = .ok (.iastore, 1) := by decide +kernel
theorem dX6_judges_77 : decode cX6_judges 77 = .ok (.aload_n 0, 1) := by decide +kernel
theorem dX6_judges_78 : decode cX6_judges 78 = .ok (.getfield 31, 3) := by decide +kernel
theorem dX6_judges_81 : decode cX6_judges 81 = .ok (.iload_n 1, 1) := by decide +kernel
theorem dX6_judges_82 : decode cX6_judges 82 = .ok (.iaload, 1) := by decide +kernel
theorem dX6_judges_83 : decode cX6_judges 83 = .ok (.ifCond .ne 47, 3) := by decide +kernel
theorem dX6_judges_86 : decode cX6_judges 86 = .ok (.bipush 11, 2) := by decide +kernel
theorem dX6_judges_88 : decode cX6_judges 88 = .ok (.istore_n 2, 1) := by decide +kernel
theorem dX6_judges_89 : decode cX6_judges 89 = .ok (.aload_n 0, 1) := by decide +kernel
theorem dX6_judges_90 : decode cX6_judges 90 = .ok (.getfield 68, 3) := by decide +kernel
theorem dX6_judges_93 : decode cX6_judges 93 = .ok (.iload_n 2, 1) := by decide +kernel
theorem dX6_judges_94 : decode cX6_judges 94 = .ok (.ishr, 1) := by decide +kernel
theorem dX6_judges_95 : decode cX6_judges 95 = .ok (.iconst 1, 1) := by decide +kernel
theorem dX6_judges_96 : decode cX6_judges 96 = .ok (.iand, 1) := by decide +kernel
theorem dX6_judges_97 : decode cX6_judges 97 = .ok (.ifCond .ne 9, 3) := by decide +kernel
theorem dX6_judges_100 : decode cX6_judges 100 = .ok (.iinc 2 (-1), 3) := by decide +kernel
theorem dX6_judges_103 : decode cX6_judges 103 = .ok (.goto (-14), 3) := by decide +kernel
theorem dX6_judges_106 : decode cX6_judges 106 = .ok (.aload_n 0, 1) := by decide +kernel
theorem dX6_judges_107 : decode cX6_judges 107 = .ok (.getfield 25, 3) := by decide +kernel
theorem dX6_judges_110 : decode cX6_judges 110 = .ok (.iload_n 2, 1) := by decide +kernel
theorem dX6_judges_111 : decode cX6_judges 111 = .ok (.aload_n 0, 1) := by decide +kernel
theorem dX6_judges_112 : decode cX6_judges 112 = .ok (.getfield 68, 3) := by decide +kernel
theorem dX6_judges_115 : decode cX6_judges 115 = .ok (.iastore, 1) := by decide +kernel
theorem dX6_judges_116 : decode cX6_judges 116 = .ok (.aload_n 0, 1) := by decide +kernel
theorem dX6_judges_117 : decode cX6_judges 117 = .ok (.getfield 28, 3) := by decide +kernel
theorem dX6_judges_120 : decode cX6_judges 120 = .ok (.iload_n 2, 1) := by decide +kernel
theorem dX6_judges_121 : decode cX6_judges 121 = .ok (.aload_n 0, 1) := by decide +kernel
theorem dX6_judges_122 : decode cX6_judges 122 = .ok (.getfield 71, 3) := by decide +kernel
theorem dX6_judges_125 : decode cX6_judges 125 = .ok (.iconst 1, 1) := by decide +kernel
theorem dX6_judges_126 : decode cX6_judges 126 = .ok (.iload_n 1, 1) := by decide +kernel
theorem dX6_judges_127 : decode cX6_judges 127 = .ok (.ishl, 1) := by decide +kernel
theorem dX6_judges_128 : decode cX6_judges 128 = .ok (.ixor, 1) := by decide +kernel
theorem dX6_judges_129 : decode cX6_judges 129 = .ok (.iastore, 1) := by decide +kernel
theorem dX6_judges_130 : decode cX6_judges 130 = .ok (.iinc 1 1, 3) := by decide +kernel
theorem dX6_judges_133 : decode cX6_judges 133 = .ok (.goto (-103), 3) := by decide +kernel
theorem dX6_judges_136 : decode cX6_judges 136 = .ok (.return_, 1) := by decide +kernel
set_option maxRecDepth 20000 in
theorem ggX6_rulesIn_X6_judges : GoodIn wsX6_rulesIn wsX6_judges := goodIn_r _ [7, 8, 9, 1, 2, 10, 11, 12, 13, 14, 15, 6, 16, 17, 18, 19, 20, 21, 22, 23, 24, 25, 26, 27, 28, 29, 30, 31, 32, 33, 34, 35, 36, 37, 38, 39, 40, 41, 42, 43, 44] (by decide +kernel) (by decide +kernel)
set_option maxRecDepth 20000 in
theorem gX6_rulesIn_X6_judges : GoodIn wsX6_rulesIn (wsV RX6 85 RX6 yX6_judges wsX6_judges) := goodIn_app (goodIn_of _ (by decide +kernel)) ggX6_rulesIn_X6_judges
theorem dX6_rulesIn_0 : decode cX6_rulesIn 0 = .ok (.aload_n 0, 1) := by decide +kernel
theorem dX6_rulesIn_1 : decode cX6_rulesIn 1 = .ok (.invokevirtual 85, 3) := by decide +kernel
theorem dX6_rulesIn_4 : decode cX6_rulesIn 4 = .ok (.iconst 0, 1) := by decide +kernel
theorem dX6_rulesIn_5 : decode cX6_rulesIn 5 = .ok (.istore_n 2, 1) := by decide +kernel
theorem dX6_rulesIn_6 : decode cX6_rulesIn 6 = .ok (.iconst 0, 1) := by decide +kernel
theorem dX6_rulesIn_7 : decode cX6_rulesIn 7 = .ok (.istore_n 3, 1) := by decide +kernel
theorem dX6_rulesIn_8 : decode cX6_rulesIn 8 = .ok (.iload_n 3, 1) := by decide +kernel
theorem dX6_rulesIn_9 : decode cX6_rulesIn 9 = .ok (.aload_n 0, 1) := by decide +kernel
theorem dX6_rulesIn_10 : decode cX6_rulesIn 10 = .ok (.getfield 7, 3) := by decide +kernel
theorem dX6_rulesIn_13 : decode cX6_rulesIn 13 = .ok (.iconst 1, 1) := by decide +kernel
theorem dX6_rulesIn_14 : decode cX6_rulesIn 14 = .ok (.iaload, 1) := by decide +kernel
theorem dX6_rulesIn_15 : decode cX6_rulesIn 15 = .ok (.if_icmp .ge 27, 3) := by decide +kernel
theorem dX6_rulesIn_18 : decode cX6_rulesIn 18 = .ok (.iload_n 2, 1) := by decide +kernel
theorem dX6_rulesIn_19 : decode cX6_rulesIn 19 = .ok (.aload_n 0, 1) := by decide +kernel
theorem dX6_rulesIn_20 : decode cX6_rulesIn 20 = .ok (.getfield 31, 3) := by decide +kernel
theorem dX6_rulesIn_23 : decode cX6_rulesIn 23 = .ok (.iload_n 3, 1) := by decide +kernel
theorem dX6_rulesIn_24 : decode cX6_rulesIn 24 = .ok (.iaload, 1) := by decide +kernel
theorem dX6_rulesIn_25 : decode cX6_rulesIn 25 = .ok (.iload_n 1, 1) := by decide +kernel
theorem dX6_rulesIn_26 : decode cX6_rulesIn 26 = .ok (.if_icmp .ne 7, 3) := by decide +kernel
theorem dX6_rulesIn_29 : decode cX6_rulesIn 29 = .ok (.iconst 1, 1) := by decide +kernel
theorem dX6_rulesIn_30 : decode cX6_rulesIn 30 = .ok (.goto 4, 3) := by decide +kernel
theorem dX6_rulesIn_33 : decode cX6_rulesIn 33 = .ok (.iconst 0, 1) := by decide +kernel
theorem dX6_rulesIn_34 : decode cX6_rulesIn 34 = .ok (.iadd, 1) := by decide +kernel
theorem dX6_rulesIn_35 : decode cX6_rulesIn 35 = .ok (.istore_n 2, 1) := by decide +kernel
theorem dX6_rulesIn_36 : decode cX6_rulesIn 36 = .ok (.iinc 3 1, 3) := by decide +kernel
theorem dX6_rulesIn_39 : decode cX6_rulesIn 39 = .ok (.goto (-31), 3) := by decide +kernel
theorem dX6_rulesIn_42 : decode cX6_rulesIn 42 = .ok (.iload_n 2, 1) := by decide +kernel
theorem dX6_rulesIn_43 : decode cX6_rulesIn 43 = .ok (.ireturn, 1) := by decide +kernel
set_option maxRecDepth 20000 in
theorem ggX6_answers_X6_rulesIn : GoodIn wsX6_answers wsX6_rulesIn := goodIn_r _ [6, 1, 7, 8, 9, 10, 5, 11, 12, 13, 14, 15, 16, 17, 18, 19, 20, 21, 22, 23, 24, 25, 26, 27, 28, 29, 30, 31, 32, 33, 34, 35, 36, 37, 38, 39, 40, 41, 42, 43, 44, 45, 46, 47, 48] (by decide +kernel) (by decide +kernel)
set_option maxRecDepth 20000 in
theorem gX6_answers_X6_rulesIn : GoodIn wsX6_answers (wsV RX6 88 RX6 yX6_rulesIn wsX6_rulesIn) := goodIn_app (goodIn_of _ (by decide +kernel)) ggX6_answers_X6_rulesIn
theorem dX6_answers_0 : decode cX6_answers 0 = .ok (.iconst 1, 1) := by decide +kernel
theorem dX6_answers_1 : decode cX6_answers 1 = .ok (.aload_n 0, 1) := by decide +kernel
theorem dX6_answers_2 : decode cX6_answers 2 = .ok (.getfield 7, 3) := by decide +kernel
theorem dX6_answers_5 : decode cX6_answers 5 = .ok (.iconst 0, 1) := by decide +kernel
theorem dX6_answers_6 : decode cX6_answers 6 = .ok (.iaload, 1) := by decide +kernel
theorem dX6_answers_7 : decode cX6_answers 7 = .ok (.aload_n 0, 1) := by decide +kernel
theorem dX6_answers_8 : decode cX6_answers 8 = .ok (.iconst 0, 1) := by decide +kernel
theorem dX6_answers_9 : decode cX6_answers 9 = .ok (.invokevirtual 88, 3) := by decide +kernel
theorem dX6_answers_12 : decode cX6_answers 12 = .ok (.isub, 1) := by decide +kernel
theorem dX6_answers_13 : decode cX6_answers 13 = .ok (.ishl, 1) := by decide +kernel
theorem dX6_answers_14 : decode cX6_answers 14 = .ok (.ireturn, 1) := by decide +kernel
set_option maxRecDepth 20000 in
theorem ggX6_isAnswer_X6_fits : GoodIn wsX6_isAnswer wsX6_fits := goodIn_r _ [7, 1, 8, 9, 6, 10, 11, 12, 13, 14, 15, 16, 17, 18, 19, 20, 21, 22, 23, 24, 25, 26, 27, 28, 29, 30, 31, 32, 33] (by decide +kernel) (by decide +kernel)
set_option maxRecDepth 20000 in
theorem gX6_isAnswer_X6_fits : GoodIn wsX6_isAnswer (wsV RX6 91 RX6 yX6_fits wsX6_fits) := goodIn_app (goodIn_of _ (by decide +kernel)) ggX6_isAnswer_X6_fits
theorem dX6_isAnswer_0 : decode cX6_isAnswer 0 = .ok (.iconst 1, 1) := by decide +kernel
theorem dX6_isAnswer_1 : decode cX6_isAnswer 1 = .ok (.istore_n 2, 1) := by decide +kernel
theorem dX6_isAnswer_2 : decode cX6_isAnswer 2 = .ok (.iconst 0, 1) := by decide +kernel
theorem dX6_isAnswer_3 : decode cX6_isAnswer 3 = .ok (.istore_n 3, 1) := by decide +kernel
theorem dX6_isAnswer_4 : decode cX6_isAnswer 4 = .ok (.iload_n 3, 1) := by decide +kernel
theorem dX6_isAnswer_5 : decode cX6_isAnswer 5 = .ok (.aload_n 0, 1) := by decide +kernel
theorem dX6_isAnswer_6 : decode cX6_isAnswer 6 = .ok (.getfield 7, 3) := by decide +kernel
theorem dX6_isAnswer_9 : decode cX6_isAnswer 9 = .ok (.iconst 1, 1) := by decide +kernel
theorem dX6_isAnswer_10 : decode cX6_isAnswer 10 = .ok (.iaload, 1) := by decide +kernel
theorem dX6_isAnswer_11 : decode cX6_isAnswer 11 = .ok (.if_icmp .ge 37, 3) := by decide +kernel
theorem dX6_isAnswer_14 : decode cX6_isAnswer 14 = .ok (.iload_n 2, 1) := by decide +kernel
theorem dX6_isAnswer_15 : decode cX6_isAnswer 15 = .ok (.ifCond .eq 25, 3) := by decide +kernel
theorem dX6_isAnswer_18 : decode cX6_isAnswer 18 = .ok (.aload_n 0, 1) := by decide +kernel
theorem dX6_isAnswer_19 : decode cX6_isAnswer 19 = .ok (.getfield 31, 3) := by decide +kernel
theorem dX6_isAnswer_22 : decode cX6_isAnswer 22 = .ok (.iload_n 3, 1) := by decide +kernel
theorem dX6_isAnswer_23 : decode cX6_isAnswer 23 = .ok (.iaload, 1) := by decide +kernel
theorem dX6_isAnswer_24 : decode cX6_isAnswer 24 = .ok (.ifCond .ne 12, 3) := by decide +kernel
theorem dX6_isAnswer_27 : decode cX6_isAnswer 27 = .ok (.aload_n 0, 1) := by decide +kernel
theorem dX6_isAnswer_28 : decode cX6_isAnswer 28 = .ok (.iload_n 1, 1) := by decide +kernel
theorem dX6_isAnswer_29 : decode cX6_isAnswer 29 = .ok (.iload_n 3, 1) := by decide +kernel
theorem dX6_isAnswer_30 : decode cX6_isAnswer 30 = .ok (.invokevirtual 91, 3) := by decide +kernel
theorem dX6_isAnswer_33 : decode cX6_isAnswer 33 = .ok (.ifCond .eq 7, 3) := by decide +kernel
theorem dX6_isAnswer_36 : decode cX6_isAnswer 36 = .ok (.iconst 1, 1) := by decide +kernel
theorem dX6_isAnswer_37 : decode cX6_isAnswer 37 = .ok (.goto 4, 3) := by decide +kernel
theorem dX6_isAnswer_40 : decode cX6_isAnswer 40 = .ok (.iconst 0, 1) := by decide +kernel
theorem dX6_isAnswer_41 : decode cX6_isAnswer 41 = .ok (.istore_n 2, 1) := by decide +kernel
theorem dX6_isAnswer_42 : decode cX6_isAnswer 42 = .ok (.iinc 3 1, 3) := by decide +kernel
theorem dX6_isAnswer_45 : decode cX6_isAnswer 45 = .ok (.goto (-41), 3) := by decide +kernel
theorem dX6_isAnswer_48 : decode cX6_isAnswer 48 = .ok (.iload_n 2, 1) := by decide +kernel
theorem dX6_isAnswer_49 : decode cX6_isAnswer 49 = .ok (.ireturn, 1) := by decide +kernel
set_option maxRecDepth 20000 in
theorem ggX6_knownOf_X6_reduces : GoodIn wsX6_knownOf wsX6_reduces := goodIn_r _ [7, 1, 2, 8, 9, 15, 16, 17, 18, 19, 20, 21, 22, 23, 24, 25, 26, 27, 28, 29, 30, 31, 32, 33, 34] (by decide +kernel) (by decide +kernel)
set_option maxRecDepth 20000 in
theorem gX6_knownOf_X6_reduces : GoodIn wsX6_knownOf (wsV RX6 74 RX6 yX6_reduces wsX6_reduces) := goodIn_app (goodIn_of _ (by decide +kernel)) ggX6_knownOf_X6_reduces
set_option maxRecDepth 20000 in
theorem ggX6_knownOf_X6_sumOf : GoodIn wsX6_knownOf wsX6_sumOf := goodIn_r _ [13, 14, 15, 16, 17, 18, 19, 20, 21, 22, 23, 24, 25, 26, 27, 28, 29, 30, 31, 32, 33, 34] (by decide +kernel) (by decide +kernel)
set_option maxRecDepth 20000 in
theorem gX6_knownOf_X6_sumOf : GoodIn wsX6_knownOf (wsV RX6 78 RX6 yX6_sumOf wsX6_sumOf) := goodIn_app (goodIn_of _ (by decide +kernel)) ggX6_knownOf_X6_sumOf
theorem dX6_knownOf_0 : decode cX6_knownOf 0 = .ok (.aload_n 0, 1) := by decide +kernel
theorem dX6_knownOf_1 : decode cX6_knownOf 1 = .ok (.iload_n 1, 1) := by decide +kernel
theorem dX6_knownOf_2 : decode cX6_knownOf 2 = .ok (.invokevirtual 74, 3) := by decide +kernel
theorem dX6_knownOf_5 : decode cX6_knownOf 5 = .ok (.aload_n 0, 1) := by decide +kernel
theorem dX6_knownOf_6 : decode cX6_knownOf 6 = .ok (.getfield 68, 3) := by decide +kernel
theorem dX6_knownOf_9 : decode cX6_knownOf 9 = .ok (.ifCond .ne 14, 3) := by decide +kernel
theorem dX6_knownOf_12 : decode cX6_knownOf 12 = .ok (.aload_n 0, 1) := by decide +kernel
theorem dX6_knownOf_13 : decode cX6_knownOf 13 = .ok (.aload_n 0, 1) := by decide +kernel
theorem dX6_knownOf_14 : decode cX6_knownOf 14 = .ok (.getfield 71, 3) := by decide +kernel
theorem dX6_knownOf_17 : decode cX6_knownOf 17 = .ok (.invokevirtual 78, 3) := by decide +kernel
theorem dX6_knownOf_20 : decode cX6_knownOf 20 = .ok (.goto 5, 3) := by decide +kernel
theorem dX6_knownOf_23 : decode cX6_knownOf 23 = .ok (.bipush (-6), 2) := by decide +kernel
theorem dX6_knownOf_25 : decode cX6_knownOf 25 = .ok (.ireturn, 1) := by decide +kernel
set_option maxRecDepth 20000 in
theorem ggX6_choices_X6_in : GoodIn wsX6_choices wsX6_in := goodIn_r _ [6] (by decide +kernel) (by decide +kernel)
set_option maxRecDepth 20000 in
theorem gX6_choices_X6_in : GoodIn wsX6_choices (va_wsS RX6 61 yX6_in wsX6_in) := goodIn_app (goodIn_of _ (by decide +kernel)) ggX6_choices_X6_in
set_option maxRecDepth 20000 in
theorem ggX6_choices_X6_keep : GoodIn wsX6_choices wsX6_keep := goodIn_r _ [10, 11, 2, 18, 19, 20, 21, 22, 23, 24, 25, 26, 27, 28, 29, 30, 31, 32, 33, 34, 35, 36, 37] (by decide +kernel) (by decide +kernel)
set_option maxRecDepth 20000 in
theorem gX6_choices_X6_keep : GoodIn wsX6_choices (wsV RX6 97 RX6 yX6_keep wsX6_keep) := goodIn_app (goodIn_of _ (by decide +kernel)) ggX6_choices_X6_keep
set_option maxRecDepth 20000 in
theorem ggX6_choices_X6_changed : GoodIn wsX6_choices wsX6_changed := goodIn_r _ [15, 16, 17, 11, 18, 19, 20, 21, 22, 23, 24, 25, 26, 27, 28, 29, 30, 31, 32, 33, 34, 35, 36, 37] (by decide +kernel) (by decide +kernel)
set_option maxRecDepth 20000 in
theorem gX6_choices_X6_changed : GoodIn wsX6_choices (wsV RX6 100 RX6 yX6_changed wsX6_changed) := goodIn_app (goodIn_of _ (by decide +kernel)) ggX6_choices_X6_changed
theorem dX6_choices_0 : decode cX6_choices 0 = .ok (.iload_n 1, 1) := by decide +kernel
theorem dX6_choices_1 : decode cX6_choices 1 = .ok (.i2l, 1) := by decide +kernel
theorem dX6_choices_2 : decode cX6_choices 2 = .ok (.lconst 1, 1) := by decide +kernel
theorem dX6_choices_3 : decode cX6_choices 3 = .ok (.ldc2_w 95, 3) := by decide +kernel
theorem dX6_choices_6 : decode cX6_choices 6 = .ok (.invokestatic 61, 3) := by decide +kernel
theorem dX6_choices_9 : decode cX6_choices 9 = .ok (.ifCond .ne 6, 3) := by decide +kernel
theorem dX6_choices_12 : decode cX6_choices 12 = .ok (.bipush (-2), 2) := by decide +kernel
theorem dX6_choices_14 : decode cX6_choices 14 = .ok (.ireturn, 1) := by decide +kernel
theorem dX6_choices_15 : decode cX6_choices 15 = .ok (.iconst 0, 1) := by decide +kernel
theorem dX6_choices_16 : decode cX6_choices 16 = .ok (.istore_n 2, 1) := by decide +kernel
theorem dX6_choices_17 : decode cX6_choices 17 = .ok (.iload_n 2, 1) := by decide +kernel
theorem dX6_choices_18 : decode cX6_choices 18 = .ok (.aload_n 0, 1) := by decide +kernel
theorem dX6_choices_19 : decode cX6_choices 19 = .ok (.getfield 7, 3) := by decide +kernel
theorem dX6_choices_22 : decode cX6_choices 22 = .ok (.iconst 1, 1) := by decide +kernel
theorem dX6_choices_23 : decode cX6_choices 23 = .ok (.iaload, 1) := by decide +kernel
theorem dX6_choices_24 : decode cX6_choices 24 = .ok (.if_icmp .ge 25, 3) := by decide +kernel
theorem dX6_choices_27 : decode cX6_choices 27 = .ok (.aload_n 0, 1) := by decide +kernel
theorem dX6_choices_28 : decode cX6_choices 28 = .ok (.getfield 7, 3) := by decide +kernel
theorem dX6_choices_31 : decode cX6_choices 31 = .ok (.iconst 2, 1) := by decide +kernel
theorem dX6_choices_32 : decode cX6_choices 32 = .ok (.iload_n 2, 1) := by decide +kernel
theorem dX6_choices_33 : decode cX6_choices 33 = .ok (.iadd, 1) := by decide +kernel
theorem dX6_choices_34 : decode cX6_choices 34 = .ok (.iaload, 1) := by decide +kernel
theorem dX6_choices_35 : decode cX6_choices 35 = .ok (.iload_n 1, 1) := by decide +kernel
theorem dX6_choices_36 : decode cX6_choices 36 = .ok (.ishr, 1) := by decide +kernel
theorem dX6_choices_37 : decode cX6_choices 37 = .ok (.ifCond .eq 6, 3) := by decide +kernel
theorem dX6_choices_40 : decode cX6_choices 40 = .ok (.bipush (-5), 2) := by decide +kernel
theorem dX6_choices_42 : decode cX6_choices 42 = .ok (.ireturn, 1) := by decide +kernel
theorem dX6_choices_43 : decode cX6_choices 43 = .ok (.iinc 2 1, 3) := by decide +kernel
theorem dX6_choices_46 : decode cX6_choices 46 = .ok (.goto (-29), 3) := by decide +kernel
theorem dX6_choices_49 : decode cX6_choices 49 = .ok (.aload_n 0, 1) := by decide +kernel
theorem dX6_choices_50 : decode cX6_choices 50 = .ok (.invokevirtual 97, 3) := by decide +kernel
theorem dX6_choices_53 : decode cX6_choices 53 = .ok (.aload_n 0, 1) := by decide +kernel
theorem dX6_choices_54 : decode cX6_choices 54 = .ok (.getfield 7, 3) := by decide +kernel
theorem dX6_choices_57 : decode cX6_choices 57 = .ok (.iconst 0, 1) := by decide +kernel
theorem dX6_choices_58 : decode cX6_choices 58 = .ok (.iaload, 1) := by decide +kernel
theorem dX6_choices_59 : decode cX6_choices 59 = .ok (.istore_n 2, 1) := by decide +kernel
theorem dX6_choices_60 : decode cX6_choices 60 = .ok (.aload_n 0, 1) := by decide +kernel
theorem dX6_choices_61 : decode cX6_choices 61 = .ok (.getfield 7, 3) := by decide +kernel
theorem dX6_choices_64 : decode cX6_choices 64 = .ok (.iconst 0, 1) := by decide +kernel
theorem dX6_choices_65 : decode cX6_choices 65 = .ok (.iload_n 1, 1) := by decide +kernel
theorem dX6_choices_66 : decode cX6_choices 66 = .ok (.iastore, 1) := by decide +kernel
theorem dX6_choices_67 : decode cX6_choices 67 = .ok (.aload_n 0, 1) := by decide +kernel
theorem dX6_choices_68 : decode cX6_choices 68 = .ok (.iload_n 2, 1) := by decide +kernel
theorem dX6_choices_69 : decode cX6_choices 69 = .ok (.invokevirtual 100, 3) := by decide +kernel
theorem dX6_choices_72 : decode cX6_choices 72 = .ok (.ireturn, 1) := by decide +kernel
theorem dX6_adds_0 : decode cX6_adds 0 = .ok (.aload_n 0, 1) := by decide +kernel
theorem dX6_adds_1 : decode cX6_adds 1 = .ok (.getfield 7, 3) := by decide +kernel
theorem dX6_adds_4 : decode cX6_adds 4 = .ok (.iconst 2, 1) := by decide +kernel
theorem dX6_adds_5 : decode cX6_adds 5 = .ok (.aload_n 0, 1) := by decide +kernel
theorem dX6_adds_6 : decode cX6_adds 6 = .ok (.getfield 7, 3) := by decide +kernel
theorem dX6_adds_9 : decode cX6_adds 9 = .ok (.iconst 1, 1) := by decide +kernel
theorem dX6_adds_10 : decode cX6_adds 10 = .ok (.iaload, 1) := by decide +kernel
theorem dX6_adds_11 : decode cX6_adds 11 = .ok (.iadd, 1) := by decide +kernel
theorem dX6_adds_12 : decode cX6_adds 12 = .ok (.iload_n 1, 1) := by decide +kernel
theorem dX6_adds_13 : decode cX6_adds 13 = .ok (.iastore, 1) := by decide +kernel
theorem dX6_adds_14 : decode cX6_adds 14 = .ok (.aload_n 0, 1) := by decide +kernel
theorem dX6_adds_15 : decode cX6_adds 15 = .ok (.getfield 7, 3) := by decide +kernel
theorem dX6_adds_18 : decode cX6_adds 18 = .ok (.bipush 22, 2) := by decide +kernel
theorem dX6_adds_20 : decode cX6_adds 20 = .ok (.aload_n 0, 1) := by decide +kernel
theorem dX6_adds_21 : decode cX6_adds 21 = .ok (.getfield 7, 3) := by decide +kernel
theorem dX6_adds_24 : decode cX6_adds 24 = .ok (.iconst 1, 1) := by decide +kernel
theorem dX6_adds_25 : decode cX6_adds 25 = .ok (.iaload, 1) := by decide +kernel
theorem dX6_adds_26 : decode cX6_adds 26 = .ok (.iadd, 1) := by decide +kernel
theorem dX6_adds_27 : decode cX6_adds 27 = .ok (.iload_n 2, 1) := by decide +kernel
theorem dX6_adds_28 : decode cX6_adds 28 = .ok (.iastore, 1) := by decide +kernel
theorem dX6_adds_29 : decode cX6_adds 29 = .ok (.aload_n 0, 1) := by decide +kernel
theorem dX6_adds_30 : decode cX6_adds 30 = .ok (.getfield 7, 3) := by decide +kernel
theorem dX6_adds_33 : decode cX6_adds 33 = .ok (.iconst 1, 1) := by decide +kernel
theorem dX6_adds_34 : decode cX6_adds 34 = .ok (.dup2, 1) := by decide +kernel
theorem dX6_adds_35 : decode cX6_adds 35 = .ok (.iaload, 1) := by decide +kernel
theorem dX6_adds_36 : decode cX6_adds 36 = .ok (.iconst 1, 1) := by decide +kernel
theorem dX6_adds_37 : decode cX6_adds 37 = .ok (.iadd, 1) := by decide +kernel
theorem dX6_adds_38 : decode cX6_adds 38 = .ok (.iastore, 1) := by decide +kernel
theorem dX6_adds_39 : decode cX6_adds 39 = .ok (.return_, 1) := by decide +kernel
set_option maxRecDepth 20000 in
theorem ggX6_tell_X6_isSet : GoodIn wsX6_tell wsX6_isSet := goodIn_r _ [7, 8, 9, 10, 6, 11, 1, 12, 13, 14, 51, 52, 53, 54, 55, 56, 57, 58, 59, 60, 61, 62, 63, 64, 65, 66, 67, 68, 69, 70] (by decide +kernel) (by decide +kernel)
set_option maxRecDepth 20000 in
theorem gX6_tell_X6_isSet : GoodIn wsX6_tell (wsV RX6 103 RX6 yX6_isSet wsX6_isSet) := goodIn_app (goodIn_of _ (by decide +kernel)) ggX6_tell_X6_isSet
set_option maxRecDepth 20000 in
theorem ggX6_tell_X6_in : GoodIn wsX6_tell wsX6_in := goodIn_r _ [14] (by decide +kernel) (by decide +kernel)
set_option maxRecDepth 20000 in
theorem gX6_tell_X6_in : GoodIn wsX6_tell (va_wsS RX6 61 yX6_in wsX6_in) := goodIn_app (goodIn_of _ (by decide +kernel)) ggX6_tell_X6_in
set_option maxRecDepth 20000 in
theorem ggX6_tell_X6_keep : GoodIn wsX6_tell wsX6_keep := goodIn_r _ [18, 19, 1, 51, 52, 53, 54, 55, 56, 57, 58, 59, 60, 61, 62, 63, 64, 65, 66, 67, 68, 69, 70] (by decide +kernel) (by decide +kernel)
set_option maxRecDepth 20000 in
theorem gX6_tell_X6_keep : GoodIn wsX6_tell (wsV RX6 97 RX6 yX6_keep wsX6_keep) := goodIn_app (goodIn_of _ (by decide +kernel)) ggX6_tell_X6_keep
set_option maxRecDepth 20000 in
theorem ggX6_tell_X6_adds : GoodIn wsX6_tell wsX6_adds := goodIn_r _ [23, 1, 51, 52, 53, 54, 55, 56, 57, 58, 59, 60, 61, 62, 63, 64, 65, 66, 67, 68, 69, 70] (by decide +kernel) (by decide +kernel)
set_option maxRecDepth 20000 in
theorem gX6_tell_X6_adds : GoodIn wsX6_tell (wsV RX6 107 RX6 yX6_adds wsX6_adds) := goodIn_app (goodIn_of _ (by decide +kernel)) ggX6_tell_X6_adds
set_option maxRecDepth 20000 in
theorem ggX6_tell_X6_judges : GoodIn wsX6_tell wsX6_judges := goodIn_r _ [27, 28, 29, 1, 2, 30, 31, 32, 33, 34, 35, 6, 36, 37, 38, 39, 40, 41, 42, 43, 44, 51, 52, 53, 54, 55, 56, 57, 58, 59, 60, 61, 62, 63, 64, 65, 66, 67, 68, 69, 70] (by decide +kernel) (by decide +kernel)
set_option maxRecDepth 20000 in
theorem gX6_tell_X6_judges : GoodIn wsX6_tell (wsV RX6 85 RX6 yX6_judges wsX6_judges) := goodIn_app (goodIn_of _ (by decide +kernel)) ggX6_tell_X6_judges
set_option maxRecDepth 20000 in
theorem ggX6_tell_X6_changed : GoodIn wsX6_tell wsX6_changed := goodIn_r _ [48, 49, 50, 19, 51, 52, 53, 54, 55, 56, 57, 58, 59, 60, 61, 62, 63, 64, 65, 66, 67, 68, 69, 70] (by decide +kernel) (by decide +kernel)
set_option maxRecDepth 20000 in
theorem gX6_tell_X6_changed : GoodIn wsX6_tell (wsV RX6 100 RX6 yX6_changed wsX6_changed) := goodIn_app (goodIn_of _ (by decide +kernel)) ggX6_tell_X6_changed
theorem dX6_tell_0 : decode cX6_tell 0 = .ok (.aload_n 0, 1) := by decide +kernel
theorem dX6_tell_1 : decode cX6_tell 1 = .ok (.iload_n 1, 1) := by decide +kernel
theorem dX6_tell_2 : decode cX6_tell 2 = .ok (.invokevirtual 103, 3) := by decide +kernel
theorem dX6_tell_5 : decode cX6_tell 5 = .ok (.ifCond .eq 13, 3) := by decide +kernel
theorem dX6_tell_8 : decode cX6_tell 8 = .ok (.iload_n 2, 1) := by decide +kernel
theorem dX6_tell_9 : decode cX6_tell 9 = .ok (.i2l, 1) := by decide +kernel
theorem dX6_tell_10 : decode cX6_tell 10 = .ok (.lconst 0, 1) := by decide +kernel
theorem dX6_tell_11 : decode cX6_tell 11 = .ok (.lconst 1, 1) := by decide +kernel
theorem dX6_tell_12 : decode cX6_tell 12 = .ok (.invokestatic 61, 3) := by decide +kernel
theorem dX6_tell_15 : decode cX6_tell 15 = .ok (.ifCond .ne 6, 3) := by decide +kernel
theorem dX6_tell_18 : decode cX6_tell 18 = .ok (.bipush (-2), 2) := by decide +kernel
theorem dX6_tell_20 : decode cX6_tell 20 = .ok (.ireturn, 1) := by decide +kernel
theorem dX6_tell_21 : decode cX6_tell 21 = .ok (.aload_n 0, 1) := by decide +kernel
theorem dX6_tell_22 : decode cX6_tell 22 = .ok (.getfield 7, 3) := by decide +kernel
theorem dX6_tell_25 : decode cX6_tell 25 = .ok (.iconst 1, 1) := by decide +kernel
theorem dX6_tell_26 : decode cX6_tell 26 = .ok (.iaload, 1) := by decide +kernel
theorem dX6_tell_27 : decode cX6_tell 27 = .ok (.bipush 20, 2) := by decide +kernel
theorem dX6_tell_29 : decode cX6_tell 29 = .ok (.if_icmp .ne 6, 3) := by decide +kernel
theorem dX6_tell_32 : decode cX6_tell 32 = .ok (.bipush (-4), 2) := by decide +kernel
theorem dX6_tell_34 : decode cX6_tell 34 = .ok (.ireturn, 1) := by decide +kernel
theorem dX6_tell_35 : decode cX6_tell 35 = .ok (.aload_n 0, 1) := by decide +kernel
theorem dX6_tell_36 : decode cX6_tell 36 = .ok (.invokevirtual 97, 3) := by decide +kernel
theorem dX6_tell_39 : decode cX6_tell 39 = .ok (.aload_n 0, 1) := by decide +kernel
theorem dX6_tell_40 : decode cX6_tell 40 = .ok (.iload_n 1, 1) := by decide +kernel
theorem dX6_tell_41 : decode cX6_tell 41 = .ok (.iload_n 2, 1) := by decide +kernel
theorem dX6_tell_42 : decode cX6_tell 42 = .ok (.invokevirtual 107, 3) := by decide +kernel
theorem dX6_tell_45 : decode cX6_tell 45 = .ok (.aload_n 0, 1) := by decide +kernel
theorem dX6_tell_46 : decode cX6_tell 46 = .ok (.invokevirtual 85, 3) := by decide +kernel
theorem dX6_tell_49 : decode cX6_tell 49 = .ok (.aload_n 0, 1) := by decide +kernel
theorem dX6_tell_50 : decode cX6_tell 50 = .ok (.aload_n 0, 1) := by decide +kernel
theorem dX6_tell_51 : decode cX6_tell 51 = .ok (.getfield 31, 3) := by decide +kernel
theorem dX6_tell_54 : decode cX6_tell 54 = .ok (.aload_n 0, 1) := by decide +kernel
theorem dX6_tell_55 : decode cX6_tell 55 = .ok (.getfield 7, 3) := by decide +kernel
theorem dX6_tell_58 : decode cX6_tell 58 = .ok (.iconst 1, 1) := by decide +kernel
theorem dX6_tell_59 : decode cX6_tell 59 = .ok (.iaload, 1) := by decide +kernel
theorem dX6_tell_60 : decode cX6_tell 60 = .ok (.iconst 1, 1) := by decide +kernel
theorem dX6_tell_61 : decode cX6_tell 61 = .ok (.isub, 1) := by decide +kernel
theorem dX6_tell_62 : decode cX6_tell 62 = .ok (.iaload, 1) := by decide +kernel
theorem dX6_tell_63 : decode cX6_tell 63 = .ok (.invokevirtual 100, 3) := by decide +kernel
theorem dX6_tell_66 : decode cX6_tell 66 = .ok (.ireturn, 1) := by decide +kernel
theorem dX6_takesOut_0 : decode cX6_takesOut 0 = .ok (.aload_n 0, 1) := by decide +kernel
theorem dX6_takesOut_1 : decode cX6_takesOut 1 = .ok (.getfield 7, 3) := by decide +kernel
theorem dX6_takesOut_4 : decode cX6_takesOut 4 = .ok (.iconst 1, 1) := by decide +kernel
theorem dX6_takesOut_5 : decode cX6_takesOut 5 = .ok (.dup2, 1) := by decide +kernel
theorem dX6_takesOut_6 : decode cX6_takesOut 6 = .ok (.iaload, 1) := by decide +kernel
theorem dX6_takesOut_7 : decode cX6_takesOut 7 = .ok (.iconst 1, 1) := by decide +kernel
theorem dX6_takesOut_8 : decode cX6_takesOut 8 = .ok (.isub, 1) := by decide +kernel
theorem dX6_takesOut_9 : decode cX6_takesOut 9 = .ok (.iastore, 1) := by decide +kernel
theorem dX6_takesOut_10 : decode cX6_takesOut 10 = .ok (.iload_n 1, 1) := by decide +kernel
theorem dX6_takesOut_11 : decode cX6_takesOut 11 = .ok (.istore_n 2, 1) := by decide +kernel
theorem dX6_takesOut_12 : decode cX6_takesOut 12 = .ok (.iload_n 2, 1) := by decide +kernel
theorem dX6_takesOut_13 : decode cX6_takesOut 13 = .ok (.aload_n 0, 1) := by decide +kernel
theorem dX6_takesOut_14 : decode cX6_takesOut 14 = .ok (.getfield 7, 3) := by decide +kernel
theorem dX6_takesOut_17 : decode cX6_takesOut 17 = .ok (.iconst 1, 1) := by decide +kernel
theorem dX6_takesOut_18 : decode cX6_takesOut 18 = .ok (.iaload, 1) := by decide +kernel
theorem dX6_takesOut_19 : decode cX6_takesOut 19 = .ok (.if_icmp .ge 47, 3) := by decide +kernel
theorem dX6_takesOut_22 : decode cX6_takesOut 22 = .ok (.aload_n 0, 1) := by decide +kernel
theorem dX6_takesOut_23 : decode cX6_takesOut 23 = .ok (.getfield 7, 3) := by decide +kernel
theorem dX6_takesOut_26 : decode cX6_takesOut 26 = .ok (.iconst 2, 1) := by decide +kernel
theorem dX6_takesOut_27 : decode cX6_takesOut 27 = .ok (.iload_n 2, 1) := by decide +kernel
theorem dX6_takesOut_28 : decode cX6_takesOut 28 = .ok (.iadd, 1) := by decide +kernel
theorem dX6_takesOut_29 : decode cX6_takesOut 29 = .ok (.aload_n 0, 1) := by decide +kernel
theorem dX6_takesOut_30 : decode cX6_takesOut 30 = .ok (.getfield 7, 3) := by decide +kernel
theorem dX6_takesOut_33 : decode cX6_takesOut 33 = .ok (.iconst 2, 1) := by decide +kernel
theorem dX6_takesOut_34 : decode cX6_takesOut 34 = .ok (.iload_n 2, 1) := by decide +kernel
theorem dX6_takesOut_35 : decode cX6_takesOut 35 = .ok (.iadd, 1) := by decide +kernel
theorem dX6_takesOut_36 : decode cX6_takesOut 36 = .ok (.iconst 1, 1) := by decide +kernel
theorem dX6_takesOut_37 : decode cX6_takesOut 37 = .ok (.iadd, 1) := by decide +kernel
theorem dX6_takesOut_38 : decode cX6_takesOut 38 = .ok (.iaload, 1) := by decide +kernel
theorem dX6_takesOut_39 : decode cX6_takesOut 39 = .ok (.iastore, 1) := by decide +kernel
theorem dX6_takesOut_40 : decode cX6_takesOut 40 = .ok (.aload_n 0, 1) := by decide +kernel
theorem dX6_takesOut_41 : decode cX6_takesOut 41 = .ok (.getfield 7, 3) := by decide +kernel
theorem dX6_takesOut_44 : decode cX6_takesOut 44 = .ok (.bipush 22, 2) := by decide +kernel
theorem dX6_takesOut_46 : decode cX6_takesOut 46 = .ok (.iload_n 2, 1) := by decide +kernel
theorem dX6_takesOut_47 : decode cX6_takesOut 47 = .ok (.iadd, 1) := by decide +kernel
theorem dX6_takesOut_48 : decode cX6_takesOut 48 = .ok (.aload_n 0, 1) := by decide +kernel
theorem dX6_takesOut_49 : decode cX6_takesOut 49 = .ok (.getfield 7, 3) := by decide +kernel
theorem dX6_takesOut_52 : decode cX6_takesOut 52 = .ok (.bipush 22, 2) := by decide +kernel
theorem dX6_takesOut_54 : decode cX6_takesOut 54 = .ok (.iload_n 2, 1) := by decide +kernel
theorem dX6_takesOut_55 : decode cX6_takesOut 55 = .ok (.iadd, 1) := by decide +kernel
theorem dX6_takesOut_56 : decode cX6_takesOut 56 = .ok (.iconst 1, 1) := by decide +kernel
theorem dX6_takesOut_57 : decode cX6_takesOut 57 = .ok (.iadd, 1) := by decide +kernel
theorem dX6_takesOut_58 : decode cX6_takesOut 58 = .ok (.iaload, 1) := by decide +kernel
theorem dX6_takesOut_59 : decode cX6_takesOut 59 = .ok (.iastore, 1) := by decide +kernel
theorem dX6_takesOut_60 : decode cX6_takesOut 60 = .ok (.iinc 2 1, 3) := by decide +kernel
theorem dX6_takesOut_63 : decode cX6_takesOut 63 = .ok (.goto (-51), 3) := by decide +kernel
theorem dX6_takesOut_66 : decode cX6_takesOut 66 = .ok (.return_, 1) := by decide +kernel
theorem dX6_putsIn_0 : decode cX6_putsIn 0 = .ok (.aload_n 0, 1) := by decide +kernel
theorem dX6_putsIn_1 : decode cX6_putsIn 1 = .ok (.getfield 7, 3) := by decide +kernel
theorem dX6_putsIn_4 : decode cX6_putsIn 4 = .ok (.iconst 1, 1) := by decide +kernel
theorem dX6_putsIn_5 : decode cX6_putsIn 5 = .ok (.iaload, 1) := by decide +kernel
theorem dX6_putsIn_6 : decode cX6_putsIn 6 = .ok (.istore 4, 2) := by decide +kernel
theorem dX6_putsIn_8 : decode cX6_putsIn 8 = .ok (.iload 4, 2) := by decide +kernel
theorem dX6_putsIn_10 : decode cX6_putsIn 10 = .ok (.iload_n 3, 1) := by decide +kernel
theorem dX6_putsIn_11 : decode cX6_putsIn 11 = .ok (.if_icmp .le 51, 3) := by decide +kernel
theorem dX6_putsIn_14 : decode cX6_putsIn 14 = .ok (.aload_n 0, 1) := by decide +kernel
theorem dX6_putsIn_15 : decode cX6_putsIn 15 = .ok (.getfield 7, 3) := by decide +kernel
theorem dX6_putsIn_18 : decode cX6_putsIn 18 = .ok (.iconst 2, 1) := by decide +kernel
theorem dX6_putsIn_19 : decode cX6_putsIn 19 = .ok (.iload 4, 2) := by decide +kernel
theorem dX6_putsIn_21 : decode cX6_putsIn 21 = .ok (.iadd, 1) := by decide +kernel
theorem dX6_putsIn_22 : decode cX6_putsIn 22 = .ok (.aload_n 0, 1) := by decide +kernel
theorem dX6_putsIn_23 : decode cX6_putsIn 23 = .ok (.getfield 7, 3) := by decide +kernel
theorem dX6_putsIn_26 : decode cX6_putsIn 26 = .ok (.iconst 2, 1) := by decide +kernel
theorem dX6_putsIn_27 : decode cX6_putsIn 27 = .ok (.iload 4, 2) := by decide +kernel
theorem dX6_putsIn_29 : decode cX6_putsIn 29 = .ok (.iadd, 1) := by decide +kernel
theorem dX6_putsIn_30 : decode cX6_putsIn 30 = .ok (.iconst 1, 1) := by decide +kernel
theorem dX6_putsIn_31 : decode cX6_putsIn 31 = .ok (.isub, 1) := by decide +kernel
theorem dX6_putsIn_32 : decode cX6_putsIn 32 = .ok (.iaload, 1) := by decide +kernel
theorem dX6_putsIn_33 : decode cX6_putsIn 33 = .ok (.iastore, 1) := by decide +kernel
theorem dX6_putsIn_34 : decode cX6_putsIn 34 = .ok (.aload_n 0, 1) := by decide +kernel
theorem dX6_putsIn_35 : decode cX6_putsIn 35 = .ok (.getfield 7, 3) := by decide +kernel
theorem dX6_putsIn_38 : decode cX6_putsIn 38 = .ok (.bipush 22, 2) := by decide +kernel
theorem dX6_putsIn_40 : decode cX6_putsIn 40 = .ok (.iload 4, 2) := by decide +kernel
theorem dX6_putsIn_42 : decode cX6_putsIn 42 = .ok (.iadd, 1) := by decide +kernel
theorem dX6_putsIn_43 : decode cX6_putsIn 43 = .ok (.aload_n 0, 1) := by decide +kernel
theorem dX6_putsIn_44 : decode cX6_putsIn 44 = .ok (.getfield 7, 3) := by decide +kernel
theorem dX6_putsIn_47 : decode cX6_putsIn 47 = .ok (.bipush 22, 2) := by decide +kernel
theorem dX6_putsIn_49 : decode cX6_putsIn 49 = .ok (.iload 4, 2) := by decide +kernel
theorem dX6_putsIn_51 : decode cX6_putsIn 51 = .ok (.iadd, 1) := by decide +kernel
theorem dX6_putsIn_52 : decode cX6_putsIn 52 = .ok (.iconst 1, 1) := by decide +kernel
theorem dX6_putsIn_53 : decode cX6_putsIn 53 = .ok (.isub, 1) := by decide +kernel
theorem dX6_putsIn_54 : decode cX6_putsIn 54 = .ok (.iaload, 1) := by decide +kernel
theorem dX6_putsIn_55 : decode cX6_putsIn 55 = .ok (.iastore, 1) := by decide +kernel
theorem dX6_putsIn_56 : decode cX6_putsIn 56 = .ok (.iinc 4 (-1), 3) := by decide +kernel
theorem dX6_putsIn_59 : decode cX6_putsIn 59 = .ok (.goto (-51), 3) := by decide +kernel
theorem dX6_putsIn_62 : decode cX6_putsIn 62 = .ok (.aload_n 0, 1) := by decide +kernel
theorem dX6_putsIn_63 : decode cX6_putsIn 63 = .ok (.getfield 7, 3) := by decide +kernel
theorem dX6_putsIn_66 : decode cX6_putsIn 66 = .ok (.iconst 2, 1) := by decide +kernel
theorem dX6_putsIn_67 : decode cX6_putsIn 67 = .ok (.iload_n 3, 1) := by decide +kernel
theorem dX6_putsIn_68 : decode cX6_putsIn 68 = .ok (.iadd, 1) := by decide +kernel
theorem dX6_putsIn_69 : decode cX6_putsIn 69 = .ok (.iload_n 1, 1) := by decide +kernel
theorem dX6_putsIn_70 : decode cX6_putsIn 70 = .ok (.iastore, 1) := by decide +kernel
theorem dX6_putsIn_71 : decode cX6_putsIn 71 = .ok (.aload_n 0, 1) := by decide +kernel
theorem dX6_putsIn_72 : decode cX6_putsIn 72 = .ok (.getfield 7, 3) := by decide +kernel
theorem dX6_putsIn_75 : decode cX6_putsIn 75 = .ok (.bipush 22, 2) := by decide +kernel
theorem dX6_putsIn_77 : decode cX6_putsIn 77 = .ok (.iload_n 3, 1) := by decide +kernel
theorem dX6_putsIn_78 : decode cX6_putsIn 78 = .ok (.iadd, 1) := by decide +kernel
theorem dX6_putsIn_79 : decode cX6_putsIn 79 = .ok (.iload_n 2, 1) := by decide +kernel
theorem dX6_putsIn_80 : decode cX6_putsIn 80 = .ok (.iastore, 1) := by decide +kernel
theorem dX6_putsIn_81 : decode cX6_putsIn 81 = .ok (.aload_n 0, 1) := by decide +kernel
theorem dX6_putsIn_82 : decode cX6_putsIn 82 = .ok (.getfield 7, 3) := by decide +kernel
theorem dX6_putsIn_85 : decode cX6_putsIn 85 = .ok (.iconst 1, 1) := by decide +kernel
theorem dX6_putsIn_86 : decode cX6_putsIn 86 = .ok (.dup2, 1) := by decide +kernel
theorem dX6_putsIn_87 : decode cX6_putsIn 87 = .ok (.iaload, 1) := by decide +kernel
theorem dX6_putsIn_88 : decode cX6_putsIn 88 = .ok (.iconst 1, 1) := by decide +kernel
theorem dX6_putsIn_89 : decode cX6_putsIn 89 = .ok (.iadd, 1) := by decide +kernel
theorem dX6_putsIn_90 : decode cX6_putsIn 90 = .ok (.iastore, 1) := by decide +kernel
theorem dX6_putsIn_91 : decode cX6_putsIn 91 = .ok (.return_, 1) := by decide +kernel
set_option maxRecDepth 20000 in
theorem ggX6_moves_X6_takesOut : GoodIn wsX6_moves wsX6_takesOut := goodIn_r _ [6, 1, 11, 12, 13, 14, 15, 16, 17, 18, 19, 20, 21, 22, 23, 24, 25, 26, 27, 28, 29, 30] (by decide +kernel) (by decide +kernel)
set_option maxRecDepth 20000 in
theorem gX6_moves_X6_takesOut : GoodIn wsX6_moves (wsV RX6 111 RX6 yX6_takesOut wsX6_takesOut) := goodIn_app (goodIn_of _ (by decide +kernel)) ggX6_moves_X6_takesOut
set_option maxRecDepth 20000 in
theorem ggX6_moves_X6_putsIn : GoodIn wsX6_moves wsX6_putsIn := goodIn_r _ [10, 1, 11, 12, 13, 14, 15, 16, 17, 18, 19, 20, 21, 22, 23, 24, 25, 26, 27, 28, 29, 30] (by decide +kernel) (by decide +kernel)
set_option maxRecDepth 20000 in
theorem gX6_moves_X6_putsIn : GoodIn wsX6_moves (wsV RX6 114 RX6 yX6_putsIn wsX6_putsIn) := goodIn_app (goodIn_of _ (by decide +kernel)) ggX6_moves_X6_putsIn
theorem dX6_moves_0 : decode cX6_moves 0 = .ok (.aload_n 0, 1) := by decide +kernel
theorem dX6_moves_1 : decode cX6_moves 1 = .ok (.getfield 7, 3) := by decide +kernel
theorem dX6_moves_4 : decode cX6_moves 4 = .ok (.iconst 2, 1) := by decide +kernel
theorem dX6_moves_5 : decode cX6_moves 5 = .ok (.iload_n 1, 1) := by decide +kernel
theorem dX6_moves_6 : decode cX6_moves 6 = .ok (.iadd, 1) := by decide +kernel
theorem dX6_moves_7 : decode cX6_moves 7 = .ok (.iaload, 1) := by decide +kernel
theorem dX6_moves_8 : decode cX6_moves 8 = .ok (.istore_n 3, 1) := by decide +kernel
theorem dX6_moves_9 : decode cX6_moves 9 = .ok (.aload_n 0, 1) := by decide +kernel
theorem dX6_moves_10 : decode cX6_moves 10 = .ok (.getfield 7, 3) := by decide +kernel
theorem dX6_moves_13 : decode cX6_moves 13 = .ok (.bipush 22, 2) := by decide +kernel
theorem dX6_moves_15 : decode cX6_moves 15 = .ok (.iload_n 1, 1) := by decide +kernel
theorem dX6_moves_16 : decode cX6_moves 16 = .ok (.iadd, 1) := by decide +kernel
theorem dX6_moves_17 : decode cX6_moves 17 = .ok (.iaload, 1) := by decide +kernel
theorem dX6_moves_18 : decode cX6_moves 18 = .ok (.istore 4, 2) := by decide +kernel
theorem dX6_moves_20 : decode cX6_moves 20 = .ok (.aload_n 0, 1) := by decide +kernel
theorem dX6_moves_21 : decode cX6_moves 21 = .ok (.iload_n 1, 1) := by decide +kernel
theorem dX6_moves_22 : decode cX6_moves 22 = .ok (.invokevirtual 111, 3) := by decide +kernel
theorem dX6_moves_25 : decode cX6_moves 25 = .ok (.aload_n 0, 1) := by decide +kernel
theorem dX6_moves_26 : decode cX6_moves 26 = .ok (.iload_n 3, 1) := by decide +kernel
theorem dX6_moves_27 : decode cX6_moves 27 = .ok (.iload 4, 2) := by decide +kernel
theorem dX6_moves_29 : decode cX6_moves 29 = .ok (.iload_n 2, 1) := by decide +kernel
theorem dX6_moves_30 : decode cX6_moves 30 = .ok (.invokevirtual 114, 3) := by decide +kernel
theorem dX6_moves_33 : decode cX6_moves 33 = .ok (.return_, 1) := by decide +kernel
set_option maxRecDepth 20000 in
theorem ggX6_drop_X6_isRule : GoodIn wsX6_drop wsX6_isRule := goodIn_r _ [6, 1, 7, 8, 5, 9, 25, 26, 27, 28, 29, 30, 31, 32, 33, 34, 35, 36, 37, 38, 39, 40, 41, 42, 43, 44] (by decide +kernel) (by decide +kernel)
set_option maxRecDepth 20000 in
theorem gX6_drop_X6_isRule : GoodIn wsX6_drop (wsV RX6 118 RX6 yX6_isRule wsX6_isRule) := goodIn_app (goodIn_of _ (by decide +kernel)) ggX6_drop_X6_isRule
set_option maxRecDepth 20000 in
theorem ggX6_drop_X6_keep : GoodIn wsX6_drop wsX6_keep := goodIn_r _ [13, 14, 1, 25, 26, 27, 28, 29, 30, 31, 32, 33, 34, 35, 36, 37, 38, 39, 40, 41, 42, 43, 44] (by decide +kernel) (by decide +kernel)
set_option maxRecDepth 20000 in
theorem gX6_drop_X6_keep : GoodIn wsX6_drop (wsV RX6 97 RX6 yX6_keep wsX6_keep) := goodIn_app (goodIn_of _ (by decide +kernel)) ggX6_drop_X6_keep
set_option maxRecDepth 20000 in
theorem ggX6_drop_X6_takesOut : GoodIn wsX6_drop wsX6_takesOut := goodIn_r _ [18, 1, 25, 26, 27, 28, 29, 30, 31, 32, 33, 34, 35, 36, 37, 38, 39, 40, 41, 42, 43, 44] (by decide +kernel) (by decide +kernel)
set_option maxRecDepth 20000 in
theorem gX6_drop_X6_takesOut : GoodIn wsX6_drop (wsV RX6 111 RX6 yX6_takesOut wsX6_takesOut) := goodIn_app (goodIn_of _ (by decide +kernel)) ggX6_drop_X6_takesOut
set_option maxRecDepth 20000 in
theorem ggX6_drop_X6_changed : GoodIn wsX6_drop wsX6_changed := goodIn_r _ [22, 23, 24, 14, 25, 26, 27, 28, 29, 30, 31, 32, 33, 34, 35, 36, 37, 38, 39, 40, 41, 42, 43, 44] (by decide +kernel) (by decide +kernel)
set_option maxRecDepth 20000 in
theorem gX6_drop_X6_changed : GoodIn wsX6_drop (wsV RX6 100 RX6 yX6_changed wsX6_changed) := goodIn_app (goodIn_of _ (by decide +kernel)) ggX6_drop_X6_changed
theorem dX6_drop_0 : decode cX6_drop 0 = .ok (.aload_n 0, 1) := by decide +kernel
theorem dX6_drop_1 : decode cX6_drop 1 = .ok (.iload_n 1, 1) := by decide +kernel
theorem dX6_drop_2 : decode cX6_drop 2 = .ok (.invokevirtual 118, 3) := by decide +kernel
theorem dX6_drop_5 : decode cX6_drop 5 = .ok (.ifCond .ne 5, 3) := by decide +kernel
theorem dX6_drop_8 : decode cX6_drop 8 = .ok (.iconst (-1), 1) := by decide +kernel
theorem dX6_drop_9 : decode cX6_drop 9 = .ok (.ireturn, 1) := by decide +kernel
theorem dX6_drop_10 : decode cX6_drop 10 = .ok (.aload_n 0, 1) := by decide +kernel
theorem dX6_drop_11 : decode cX6_drop 11 = .ok (.invokevirtual 97, 3) := by decide +kernel
theorem dX6_drop_14 : decode cX6_drop 14 = .ok (.aload_n 0, 1) := by decide +kernel
theorem dX6_drop_15 : decode cX6_drop 15 = .ok (.iload_n 1, 1) := by decide +kernel
theorem dX6_drop_16 : decode cX6_drop 16 = .ok (.invokevirtual 111, 3) := by decide +kernel
theorem dX6_drop_19 : decode cX6_drop 19 = .ok (.aload_n 0, 1) := by decide +kernel
theorem dX6_drop_20 : decode cX6_drop 20 = .ok (.aload_n 0, 1) := by decide +kernel
theorem dX6_drop_21 : decode cX6_drop 21 = .ok (.getfield 7, 3) := by decide +kernel
theorem dX6_drop_24 : decode cX6_drop 24 = .ok (.iconst 1, 1) := by decide +kernel
theorem dX6_drop_25 : decode cX6_drop 25 = .ok (.iaload, 1) := by decide +kernel
theorem dX6_drop_26 : decode cX6_drop 26 = .ok (.invokevirtual 100, 3) := by decide +kernel
theorem dX6_drop_29 : decode cX6_drop 29 = .ok (.ireturn, 1) := by decide +kernel
set_option maxRecDepth 20000 in
theorem ggX6_move_X6_isRule : GoodIn wsX6_move wsX6_isRule := goodIn_r _ [8, 1, 9, 10, 7, 11, 56, 57, 58, 59, 60, 61, 62, 63, 64, 65, 66, 67, 68, 69, 70, 71, 72, 73, 74, 75] (by decide +kernel) (by decide +kernel)
set_option maxRecDepth 20000 in
theorem gX6_move_X6_isRule : GoodIn wsX6_move (wsV RX6 118 RX6 yX6_isRule wsX6_isRule) := goodIn_app (goodIn_of _ (by decide +kernel)) ggX6_move_X6_isRule
set_option maxRecDepth 20000 in
theorem ggX6_move_X6_keep : GoodIn wsX6_move wsX6_keep := goodIn_r _ [15, 16, 1, 56, 57, 58, 59, 60, 61, 62, 63, 64, 65, 66, 67, 68, 69, 70, 71, 72, 73, 74, 75] (by decide +kernel) (by decide +kernel)
set_option maxRecDepth 20000 in
theorem gX6_move_X6_keep : GoodIn wsX6_move (wsV RX6 97 RX6 yX6_keep wsX6_keep) := goodIn_app (goodIn_of _ (by decide +kernel)) ggX6_move_X6_keep
set_option maxRecDepth 20000 in
theorem ggX6_move_X6_judges : GoodIn wsX6_move wsX6_judges := goodIn_r _ [20, 21, 22, 1, 3, 23, 24, 25, 26, 27, 28, 7, 29, 30, 31, 32, 33, 34, 35, 36, 37, 56, 57, 58, 59, 60, 61, 62, 63, 64, 65, 66, 67, 68, 69, 70, 71, 72, 73, 74, 75] (by decide +kernel) (by decide +kernel)
set_option maxRecDepth 20000 in
theorem gX6_move_X6_judges : GoodIn wsX6_move (wsV RX6 85 RX6 yX6_judges wsX6_judges) := goodIn_app (goodIn_of _ (by decide +kernel)) ggX6_move_X6_judges
set_option maxRecDepth 20000 in
theorem ggX6_move_X6_moves : GoodIn wsX6_move wsX6_moves := goodIn_r _ [41, 1, 42, 43, 44, 7, 45, 46, 47, 48, 49, 56, 57, 58, 59, 60, 61, 62, 63, 64, 65, 66, 67, 68, 69, 70, 71, 72, 73, 74, 75] (by decide +kernel) (by decide +kernel)
set_option maxRecDepth 20000 in
theorem gX6_move_X6_moves : GoodIn wsX6_move (wsV RX6 121 RX6 yX6_moves wsX6_moves) := goodIn_app (goodIn_of _ (by decide +kernel)) ggX6_move_X6_moves
set_option maxRecDepth 20000 in
theorem ggX6_move_X6_changed : GoodIn wsX6_move wsX6_changed := goodIn_r _ [53, 54, 55, 16, 56, 57, 58, 59, 60, 61, 62, 63, 64, 65, 66, 67, 68, 69, 70, 71, 72, 73, 74, 75] (by decide +kernel) (by decide +kernel)
set_option maxRecDepth 20000 in
theorem gX6_move_X6_changed : GoodIn wsX6_move (wsV RX6 100 RX6 yX6_changed wsX6_changed) := goodIn_app (goodIn_of _ (by decide +kernel)) ggX6_move_X6_changed
theorem dX6_move_0 : decode cX6_move 0 = .ok (.aload_n 0, 1) := by decide +kernel
theorem dX6_move_1 : decode cX6_move 1 = .ok (.iload_n 1, 1) := by decide +kernel
theorem dX6_move_2 : decode cX6_move 2 = .ok (.invokevirtual 118, 3) := by decide +kernel
theorem dX6_move_5 : decode cX6_move 5 = .ok (.ifCond .eq 11, 3) := by decide +kernel
theorem dX6_move_8 : decode cX6_move 8 = .ok (.aload_n 0, 1) := by decide +kernel
theorem dX6_move_9 : decode cX6_move 9 = .ok (.iload_n 2, 1) := by decide +kernel
theorem dX6_move_10 : decode cX6_move 10 = .ok (.invokevirtual 118, 3) := by decide +kernel
theorem dX6_move_13 : decode cX6_move 13 = .ok (.ifCond .ne 5, 3) := by decide +kernel
theorem dX6_move_16 : decode cX6_move 16 = .ok (.iconst (-1), 1) := by decide +kernel
theorem dX6_move_17 : decode cX6_move 17 = .ok (.ireturn, 1) := by decide +kernel
theorem dX6_move_18 : decode cX6_move 18 = .ok (.aload_n 0, 1) := by decide +kernel
theorem dX6_move_19 : decode cX6_move 19 = .ok (.invokevirtual 97, 3) := by decide +kernel
theorem dX6_move_22 : decode cX6_move 22 = .ok (.aload_n 0, 1) := by decide +kernel
theorem dX6_move_23 : decode cX6_move 23 = .ok (.invokevirtual 85, 3) := by decide +kernel
theorem dX6_move_26 : decode cX6_move 26 = .ok (.iconst 0, 1) := by decide +kernel
theorem dX6_move_27 : decode cX6_move 27 = .ok (.istore_n 3, 1) := by decide +kernel
theorem dX6_move_28 : decode cX6_move 28 = .ok (.iload_n 3, 1) := by decide +kernel
theorem dX6_move_29 : decode cX6_move 29 = .ok (.aload_n 0, 1) := by decide +kernel
theorem dX6_move_30 : decode cX6_move 30 = .ok (.getfield 7, 3) := by decide +kernel
theorem dX6_move_33 : decode cX6_move 33 = .ok (.iconst 1, 1) := by decide +kernel
theorem dX6_move_34 : decode cX6_move 34 = .ok (.iaload, 1) := by decide +kernel
theorem dX6_move_35 : decode cX6_move 35 = .ok (.if_icmp .ge 21, 3) := by decide +kernel
theorem dX6_move_38 : decode cX6_move 38 = .ok (.aload_n 0, 1) := by decide +kernel
theorem dX6_move_39 : decode cX6_move 39 = .ok (.getfield 37, 3) := by decide +kernel
theorem dX6_move_42 : decode cX6_move 42 = .ok (.iload_n 3, 1) := by decide +kernel
theorem dX6_move_43 : decode cX6_move 43 = .ok (.aload_n 0, 1) := by decide +kernel
theorem dX6_move_44 : decode cX6_move 44 = .ok (.getfield 31, 3) := by decide +kernel
theorem dX6_move_47 : decode cX6_move 47 = .ok (.iload_n 3, 1) := by decide +kernel
theorem dX6_move_48 : decode cX6_move 48 = .ok (.iaload, 1) := by decide +kernel
theorem dX6_move_49 : decode cX6_move 49 = .ok (.iastore, 1) := by decide +kernel
theorem dX6_move_50 : decode cX6_move 50 = .ok (.iinc 3 1, 3) := by decide +kernel
theorem dX6_move_53 : decode cX6_move 53 = .ok (.goto (-25), 3) := by decide +kernel
theorem dX6_move_56 : decode cX6_move 56 = .ok (.aload_n 0, 1) := by decide +kernel
theorem dX6_move_57 : decode cX6_move 57 = .ok (.iload_n 1, 1) := by decide +kernel
theorem dX6_move_58 : decode cX6_move 58 = .ok (.iload_n 2, 1) := by decide +kernel
theorem dX6_move_59 : decode cX6_move 59 = .ok (.invokevirtual 121, 3) := by decide +kernel
theorem dX6_move_62 : decode cX6_move 62 = .ok (.aload_n 0, 1) := by decide +kernel
theorem dX6_move_63 : decode cX6_move 63 = .ok (.invokevirtual 85, 3) := by decide +kernel
theorem dX6_move_66 : decode cX6_move 66 = .ok (.iconst 0, 1) := by decide +kernel
theorem dX6_move_67 : decode cX6_move 67 = .ok (.istore_n 3, 1) := by decide +kernel
theorem dX6_move_68 : decode cX6_move 68 = .ok (.iconst 0, 1) := by decide +kernel
theorem dX6_move_69 : decode cX6_move 69 = .ok (.istore 4, 2) := by decide +kernel
theorem dX6_move_71 : decode cX6_move 71 = .ok (.iload 4, 2) := by decide +kernel
theorem dX6_move_73 : decode cX6_move 73 = .ok (.aload_n 0, 1) := by decide +kernel
theorem dX6_move_74 : decode cX6_move 74 = .ok (.getfield 7, 3) := by decide +kernel
theorem dX6_move_77 : decode cX6_move 77 = .ok (.iconst 1, 1) := by decide +kernel
theorem dX6_move_78 : decode cX6_move 78 = .ok (.iaload, 1) := by decide +kernel
theorem dX6_move_79 : decode cX6_move 79 = .ok (.if_icmp .ge 86, 3) := by decide +kernel
theorem dX6_move_82 : decode cX6_move 82 = .ok (.iload 4, 2) := by decide +kernel
theorem dX6_move_84 : decode cX6_move 84 = .ok (.iload_n 1, 1) := by decide +kernel
theorem dX6_move_85 : decode cX6_move 85 = .ok (.if_icmp .ne 7, 3) := by decide +kernel
theorem dX6_move_88 : decode cX6_move 88 = .ok (.iload_n 2, 1) := by decide +kernel
theorem dX6_move_89 : decode cX6_move 89 = .ok (.goto 43, 3) := by decide +kernel
theorem dX6_move_92 : decode cX6_move 92 = .ok (.iload_n 1, 1) := by decide +kernel
theorem dX6_move_93 : decode cX6_move 93 = .ok (.iload 4, 2) := by decide +kernel
theorem dX6_move_95 : decode cX6_move 95 = .ok (.if_icmp .ge 16, 3) := by decide +kernel
theorem dX6_move_98 : decode cX6_move 98 = .ok (.iload 4, 2) := by decide +kernel
theorem dX6_move_100 : decode cX6_move 100 = .ok (.iload_n 2, 1) := by decide +kernel
theorem dX6_move_101 : decode cX6_move 101 = .ok (.if_icmp .gt 10, 3) := by decide +kernel
theorem dX6_move_104 : decode cX6_move 104 = .ok (.iload 4, 2) := by decide +kernel
theorem dX6_move_106 : decode cX6_move 106 = .ok (.iconst 1, 1) := by decide +kernel
theorem dX6_move_107 : decode cX6_move 107 = .ok (.isub, 1) := by decide +kernel
theorem dX6_move_108 : decode cX6_move 108 = .ok (.goto 24, 3) := by decide +kernel
theorem dX6_move_111 : decode cX6_move 111 = .ok (.iload_n 2, 1) := by decide +kernel
theorem dX6_move_112 : decode cX6_move 112 = .ok (.iload 4, 2) := by decide +kernel
theorem dX6_move_114 : decode cX6_move 114 = .ok (.if_icmp .gt 16, 3) := by decide +kernel
theorem dX6_move_117 : decode cX6_move 117 = .ok (.iload 4, 2) := by decide +kernel
theorem dX6_move_119 : decode cX6_move 119 = .ok (.iload_n 1, 1) := by decide +kernel
theorem dX6_move_120 : decode cX6_move 120 = .ok (.if_icmp .ge 10, 3) := by decide +kernel
theorem dX6_move_123 : decode cX6_move 123 = .ok (.iload 4, 2) := by decide +kernel
theorem dX6_move_125 : decode cX6_move 125 = .ok (.iconst 1, 1) := by decide +kernel
theorem dX6_move_126 : decode cX6_move 126 = .ok (.iadd, 1) := by decide +kernel
theorem dX6_move_127 : decode cX6_move 127 = .ok (.goto 5, 3) := by decide +kernel
theorem dX6_move_130 : decode cX6_move 130 = .ok (.iload 4, 2) := by decide +kernel
theorem dX6_move_132 : decode cX6_move 132 = .ok (.istore 5, 2) := by decide +kernel
theorem dX6_move_134 : decode cX6_move 134 = .ok (.iload_n 3, 1) := by decide +kernel
theorem dX6_move_135 : decode cX6_move 135 = .ok (.aload_n 0, 1) := by decide +kernel
theorem dX6_move_136 : decode cX6_move 136 = .ok (.getfield 31, 3) := by decide +kernel
theorem dX6_move_139 : decode cX6_move 139 = .ok (.iload 5, 2) := by decide +kernel
theorem dX6_move_141 : decode cX6_move 141 = .ok (.iaload, 1) := by decide +kernel
theorem dX6_move_142 : decode cX6_move 142 = .ok (.aload_n 0, 1) := by decide +kernel
theorem dX6_move_143 : decode cX6_move 143 = .ok (.getfield 37, 3) := by decide +kernel
theorem dX6_move_146 : decode cX6_move 146 = .ok (.iload 4, 2) := by decide +kernel
theorem dX6_move_148 : decode cX6_move 148 = .ok (.iaload, 1) := by decide +kernel
theorem dX6_move_149 : decode cX6_move 149 = .ok (.if_icmp .ne 7, 3) := by decide +kernel
theorem dX6_move_152 : decode cX6_move 152 = .ok (.iconst 0, 1) := by decide +kernel
theorem dX6_move_153 : decode cX6_move 153 = .ok (.goto 4, 3) := by decide +kernel
theorem dX6_move_156 : decode cX6_move 156 = .ok (.iconst 1, 1) := by decide +kernel
theorem dX6_move_157 : decode cX6_move 157 = .ok (.iadd, 1) := by decide +kernel
theorem dX6_move_158 : decode cX6_move 158 = .ok (.istore_n 3, 1) := by decide +kernel
theorem dX6_move_159 : decode cX6_move 159 = .ok (.iinc 4 1, 3) := by decide +kernel
theorem dX6_move_162 : decode cX6_move 162 = .ok (.goto (-91), 3) := by decide +kernel
theorem dX6_move_165 : decode cX6_move 165 = .ok (.aload_n 0, 1) := by decide +kernel
theorem dX6_move_166 : decode cX6_move 166 = .ok (.iload_n 3, 1) := by decide +kernel
theorem dX6_move_167 : decode cX6_move 167 = .ok (.invokevirtual 100, 3) := by decide +kernel
theorem dX6_move_170 : decode cX6_move 170 = .ok (.ireturn, 1) := by decide +kernel
set_option maxRecDepth 20000 in
theorem ggX6_turn_X6_isRule : GoodIn wsX6_turn wsX6_isRule := goodIn_r _ [7, 1, 8, 9, 6, 10, 43, 44, 45, 46, 47, 48, 49, 50, 51, 52, 53, 54, 55, 56, 57, 58, 59, 60, 61, 62] (by decide +kernel) (by decide +kernel)
set_option maxRecDepth 20000 in
theorem gX6_turn_X6_isRule : GoodIn wsX6_turn (wsV RX6 118 RX6 yX6_isRule wsX6_isRule) := goodIn_app (goodIn_of _ (by decide +kernel)) ggX6_turn_X6_isRule
set_option maxRecDepth 20000 in
theorem ggX6_turn_X6_keep : GoodIn wsX6_turn wsX6_keep := goodIn_r _ [14, 15, 1, 43, 44, 45, 46, 47, 48, 49, 50, 51, 52, 53, 54, 55, 56, 57, 58, 59, 60, 61, 62] (by decide +kernel) (by decide +kernel)
set_option maxRecDepth 20000 in
theorem gX6_turn_X6_keep : GoodIn wsX6_turn (wsV RX6 97 RX6 yX6_keep wsX6_keep) := goodIn_app (goodIn_of _ (by decide +kernel)) ggX6_turn_X6_keep
set_option maxRecDepth 20000 in
theorem ggX6_turn_X6_judges : GoodIn wsX6_turn wsX6_judges := goodIn_r _ [19, 20, 21, 1, 2, 22, 23, 24, 25, 26, 27, 6, 28, 29, 30, 31, 32, 33, 34, 35, 36, 43, 44, 45, 46, 47, 48, 49, 50, 51, 52, 53, 54, 55, 56, 57, 58, 59, 60, 61, 62] (by decide +kernel) (by decide +kernel)
set_option maxRecDepth 20000 in
theorem gX6_turn_X6_judges : GoodIn wsX6_turn (wsV RX6 85 RX6 yX6_judges wsX6_judges) := goodIn_app (goodIn_of _ (by decide +kernel)) ggX6_turn_X6_judges
set_option maxRecDepth 20000 in
theorem ggX6_turn_X6_changed : GoodIn wsX6_turn wsX6_changed := goodIn_r _ [40, 41, 42, 15, 43, 44, 45, 46, 47, 48, 49, 50, 51, 52, 53, 54, 55, 56, 57, 58, 59, 60, 61, 62] (by decide +kernel) (by decide +kernel)
set_option maxRecDepth 20000 in
theorem gX6_turn_X6_changed : GoodIn wsX6_turn (wsV RX6 100 RX6 yX6_changed wsX6_changed) := goodIn_app (goodIn_of _ (by decide +kernel)) ggX6_turn_X6_changed
theorem dX6_turn_0 : decode cX6_turn 0 = .ok (.aload_n 0, 1) := by decide +kernel
theorem dX6_turn_1 : decode cX6_turn 1 = .ok (.iload_n 1, 1) := by decide +kernel
theorem dX6_turn_2 : decode cX6_turn 2 = .ok (.invokevirtual 118, 3) := by decide +kernel
theorem dX6_turn_5 : decode cX6_turn 5 = .ok (.ifCond .ne 5, 3) := by decide +kernel
theorem dX6_turn_8 : decode cX6_turn 8 = .ok (.iconst (-1), 1) := by decide +kernel
theorem dX6_turn_9 : decode cX6_turn 9 = .ok (.ireturn, 1) := by decide +kernel
theorem dX6_turn_10 : decode cX6_turn 10 = .ok (.aload_n 0, 1) := by decide +kernel
theorem dX6_turn_11 : decode cX6_turn 11 = .ok (.invokevirtual 97, 3) := by decide +kernel
theorem dX6_turn_14 : decode cX6_turn 14 = .ok (.aload_n 0, 1) := by decide +kernel
theorem dX6_turn_15 : decode cX6_turn 15 = .ok (.getfield 7, 3) := by decide +kernel
theorem dX6_turn_18 : decode cX6_turn 18 = .ok (.bipush 22, 2) := by decide +kernel
theorem dX6_turn_20 : decode cX6_turn 20 = .ok (.iload_n 1, 1) := by decide +kernel
theorem dX6_turn_21 : decode cX6_turn 21 = .ok (.iadd, 1) := by decide +kernel
theorem dX6_turn_22 : decode cX6_turn 22 = .ok (.iconst 1, 1) := by decide +kernel
theorem dX6_turn_23 : decode cX6_turn 23 = .ok (.aload_n 0, 1) := by decide +kernel
theorem dX6_turn_24 : decode cX6_turn 24 = .ok (.getfield 7, 3) := by decide +kernel
theorem dX6_turn_27 : decode cX6_turn 27 = .ok (.bipush 22, 2) := by decide +kernel
theorem dX6_turn_29 : decode cX6_turn 29 = .ok (.iload_n 1, 1) := by decide +kernel
theorem dX6_turn_30 : decode cX6_turn 30 = .ok (.iadd, 1) := by decide +kernel
theorem dX6_turn_31 : decode cX6_turn 31 = .ok (.iaload, 1) := by decide +kernel
theorem dX6_turn_32 : decode cX6_turn 32 = .ok (.isub, 1) := by decide +kernel
theorem dX6_turn_33 : decode cX6_turn 33 = .ok (.iastore, 1) := by decide +kernel
theorem dX6_turn_34 : decode cX6_turn 34 = .ok (.aload_n 0, 1) := by decide +kernel
theorem dX6_turn_35 : decode cX6_turn 35 = .ok (.invokevirtual 85, 3) := by decide +kernel
theorem dX6_turn_38 : decode cX6_turn 38 = .ok (.aload_n 0, 1) := by decide +kernel
theorem dX6_turn_39 : decode cX6_turn 39 = .ok (.aload_n 0, 1) := by decide +kernel
theorem dX6_turn_40 : decode cX6_turn 40 = .ok (.getfield 31, 3) := by decide +kernel
theorem dX6_turn_43 : decode cX6_turn 43 = .ok (.iload_n 1, 1) := by decide +kernel
theorem dX6_turn_44 : decode cX6_turn 44 = .ok (.iaload, 1) := by decide +kernel
theorem dX6_turn_45 : decode cX6_turn 45 = .ok (.invokevirtual 100, 3) := by decide +kernel
theorem dX6_turn_48 : decode cX6_turn 48 = .ok (.ireturn, 1) := by decide +kernel
theorem dX6_reasonsWith_0 : decode cX6_reasonsWith 0 = .ok (.iconst 0, 1) := by decide +kernel
theorem dX6_reasonsWith_1 : decode cX6_reasonsWith 1 = .ok (.istore_n 2, 1) := by decide +kernel
theorem dX6_reasonsWith_2 : decode cX6_reasonsWith 2 = .ok (.iconst 0, 1) := by decide +kernel
theorem dX6_reasonsWith_3 : decode cX6_reasonsWith 3 = .ok (.istore_n 3, 1) := by decide +kernel
theorem dX6_reasonsWith_4 : decode cX6_reasonsWith 4 = .ok (.iload_n 3, 1) := by decide +kernel
theorem dX6_reasonsWith_5 : decode cX6_reasonsWith 5 = .ok (.aload_n 0, 1) := by decide +kernel
theorem dX6_reasonsWith_6 : decode cX6_reasonsWith 6 = .ok (.getfield 7, 3) := by decide +kernel
theorem dX6_reasonsWith_9 : decode cX6_reasonsWith 9 = .ok (.iconst 1, 1) := by decide +kernel
theorem dX6_reasonsWith_10 : decode cX6_reasonsWith 10 = .ok (.iaload, 1) := by decide +kernel
theorem dX6_reasonsWith_11 : decode cX6_reasonsWith 11 = .ok (.if_icmp .ge 40, 3) := by decide +kernel
theorem dX6_reasonsWith_14 : decode cX6_reasonsWith 14 = .ok (.iload_n 2, 1) := by decide +kernel
theorem dX6_reasonsWith_15 : decode cX6_reasonsWith 15 = .ok (.aload_n 0, 1) := by decide +kernel
theorem dX6_reasonsWith_16 : decode cX6_reasonsWith 16 = .ok (.getfield 31, 3) := by decide +kernel
theorem dX6_reasonsWith_19 : decode cX6_reasonsWith 19 = .ok (.iload_n 3, 1) := by decide +kernel
theorem dX6_reasonsWith_20 : decode cX6_reasonsWith 20 = .ok (.iaload, 1) := by decide +kernel
theorem dX6_reasonsWith_21 : decode cX6_reasonsWith 21 = .ok (.ifCond .eq 21, 3) := by decide +kernel
theorem dX6_reasonsWith_24 : decode cX6_reasonsWith 24 = .ok (.aload_n 0, 1) := by decide +kernel
theorem dX6_reasonsWith_25 : decode cX6_reasonsWith 25 = .ok (.getfield 34, 3) := by decide +kernel
theorem dX6_reasonsWith_28 : decode cX6_reasonsWith 28 = .ok (.iload_n 3, 1) := by decide +kernel
theorem dX6_reasonsWith_29 : decode cX6_reasonsWith 29 = .ok (.iaload, 1) := by decide +kernel
theorem dX6_reasonsWith_30 : decode cX6_reasonsWith 30 = .ok (.iload_n 1, 1) := by decide +kernel
theorem dX6_reasonsWith_31 : decode cX6_reasonsWith 31 = .ok (.ishr, 1) := by decide +kernel
theorem dX6_reasonsWith_32 : decode cX6_reasonsWith 32 = .ok (.iconst 1, 1) := by decide +kernel
theorem dX6_reasonsWith_33 : decode cX6_reasonsWith 33 = .ok (.iand, 1) := by decide +kernel
theorem dX6_reasonsWith_34 : decode cX6_reasonsWith 34 = .ok (.iconst 1, 1) := by decide +kernel
theorem dX6_reasonsWith_35 : decode cX6_reasonsWith 35 = .ok (.if_icmp .ne 7, 3) := by decide +kernel
theorem dX6_reasonsWith_38 : decode cX6_reasonsWith 38 = .ok (.iconst 1, 1) := by decide +kernel
theorem dX6_reasonsWith_39 : decode cX6_reasonsWith 39 = .ok (.goto 4, 3) := by decide +kernel
theorem dX6_reasonsWith_42 : decode cX6_reasonsWith 42 = .ok (.iconst 0, 1) := by decide +kernel
theorem dX6_reasonsWith_43 : decode cX6_reasonsWith 43 = .ok (.iadd, 1) := by decide +kernel
theorem dX6_reasonsWith_44 : decode cX6_reasonsWith 44 = .ok (.istore_n 2, 1) := by decide +kernel
theorem dX6_reasonsWith_45 : decode cX6_reasonsWith 45 = .ok (.iinc 3 1, 3) := by decide +kernel
theorem dX6_reasonsWith_48 : decode cX6_reasonsWith 48 = .ok (.goto (-44), 3) := by decide +kernel
theorem dX6_reasonsWith_51 : decode cX6_reasonsWith 51 = .ok (.iload_n 2, 1) := by decide +kernel
theorem dX6_reasonsWith_52 : decode cX6_reasonsWith 52 = .ok (.ireturn, 1) := by decide +kernel
set_option maxRecDepth 20000 in
theorem ggX6_rule_X6_isRule : GoodIn wsX6_rule wsX6_isRule := goodIn_r _ [8, 1, 9, 10, 7, 11, 44, 45, 46, 47, 48, 49, 50, 51, 52, 53, 54, 55, 56, 57, 58, 59, 60, 61, 62, 63] (by decide +kernel) (by decide +kernel)
set_option maxRecDepth 20000 in
theorem gX6_rule_X6_isRule : GoodIn wsX6_rule (wsV RX6 118 RX6 yX6_isRule wsX6_isRule) := goodIn_app (goodIn_of _ (by decide +kernel)) ggX6_rule_X6_isRule
set_option maxRecDepth 20000 in
theorem ggX6_rule_X6_judges : GoodIn wsX6_rule wsX6_judges := goodIn_r _ [15, 16, 17, 1, 2, 3, 18, 19, 20, 21, 22, 7, 23, 24, 25, 26, 27, 28, 29, 30, 31, 44, 45, 46, 47, 48, 49, 50, 51, 52, 53, 54, 55, 56, 57, 58, 59, 60, 61, 62, 63] (by decide +kernel) (by decide +kernel)
set_option maxRecDepth 20000 in
theorem gX6_rule_X6_judges : GoodIn wsX6_rule (wsV RX6 85 RX6 yX6_judges wsX6_judges) := goodIn_app (goodIn_of _ (by decide +kernel)) ggX6_rule_X6_judges
set_option maxRecDepth 20000 in
theorem ggX6_rule_X6_reasonsWith : GoodIn wsX6_rule wsX6_reasonsWith := goodIn_r _ [35, 1, 2, 3, 44, 45, 46, 47, 48, 49, 50, 51, 52, 53, 54, 55, 56, 57, 58, 59, 60, 61, 62, 63] (by decide +kernel) (by decide +kernel)
set_option maxRecDepth 20000 in
theorem gX6_rule_X6_reasonsWith : GoodIn wsX6_rule (wsV RX6 124 RX6 yX6_reasonsWith wsX6_reasonsWith) := goodIn_app (goodIn_of _ (by decide +kernel)) ggX6_rule_X6_reasonsWith
set_option maxRecDepth 20000 in
theorem ggX6_rule_X6_answers : GoodIn wsX6_rule wsX6_answers := goodIn_r _ [39, 1, 40, 41, 42, 7, 43, 2, 12, 13, 14, 15, 16, 17, 3, 18, 19, 20, 21, 22, 23, 24, 25, 26, 27, 28, 29, 30, 31, 44, 45, 46, 47, 48, 49, 50, 51, 52, 53, 54, 55, 56, 57, 58, 59, 60, 61, 62, 63] (by decide +kernel) (by decide +kernel)
set_option maxRecDepth 20000 in
theorem gX6_rule_X6_answers : GoodIn wsX6_rule (wsV RX6 127 RX6 yX6_answers wsX6_answers) := goodIn_app (goodIn_of _ (by decide +kernel)) ggX6_rule_X6_answers
theorem dX6_rule_0 : decode cX6_rule 0 = .ok (.aload_n 0, 1) := by decide +kernel
theorem dX6_rule_1 : decode cX6_rule 1 = .ok (.iload_n 1, 1) := by decide +kernel
theorem dX6_rule_2 : decode cX6_rule 2 = .ok (.invokevirtual 118, 3) := by decide +kernel
theorem dX6_rule_5 : decode cX6_rule 5 = .ok (.ifCond .ne 5, 3) := by decide +kernel
theorem dX6_rule_8 : decode cX6_rule 8 = .ok (.iconst (-1), 1) := by decide +kernel
theorem dX6_rule_9 : decode cX6_rule 9 = .ok (.ireturn, 1) := by decide +kernel
theorem dX6_rule_10 : decode cX6_rule 10 = .ok (.aload_n 0, 1) := by decide +kernel
theorem dX6_rule_11 : decode cX6_rule 11 = .ok (.invokevirtual 85, 3) := by decide +kernel
theorem dX6_rule_14 : decode cX6_rule 14 = .ok (.iload_n 2, 1) := by decide +kernel
theorem dX6_rule_15 : decode cX6_rule 15 = .ok (.tableswitch 109 0 5 #[37, 46, 56, 63, 84, 90], 37) := by decide +kernel
theorem dX6_rule_52 : decode cX6_rule 52 = .ok (.aload_n 0, 1) := by decide +kernel
theorem dX6_rule_53 : decode cX6_rule 53 = .ok (.getfield 7, 3) := by decide +kernel
theorem dX6_rule_56 : decode cX6_rule 56 = .ok (.iconst 2, 1) := by decide +kernel
theorem dX6_rule_57 : decode cX6_rule 57 = .ok (.iload_n 1, 1) := by decide +kernel
theorem dX6_rule_58 : decode cX6_rule 58 = .ok (.iadd, 1) := by decide +kernel
theorem dX6_rule_59 : decode cX6_rule 59 = .ok (.iaload, 1) := by decide +kernel
theorem dX6_rule_60 : decode cX6_rule 60 = .ok (.ireturn, 1) := by decide +kernel
theorem dX6_rule_61 : decode cX6_rule 61 = .ok (.aload_n 0, 1) := by decide +kernel
theorem dX6_rule_62 : decode cX6_rule 62 = .ok (.getfield 7, 3) := by decide +kernel
theorem dX6_rule_65 : decode cX6_rule 65 = .ok (.bipush 22, 2) := by decide +kernel
theorem dX6_rule_67 : decode cX6_rule 67 = .ok (.iload_n 1, 1) := by decide +kernel
theorem dX6_rule_68 : decode cX6_rule 68 = .ok (.iadd, 1) := by decide +kernel
theorem dX6_rule_69 : decode cX6_rule 69 = .ok (.iaload, 1) := by decide +kernel
theorem dX6_rule_70 : decode cX6_rule 70 = .ok (.ireturn, 1) := by decide +kernel
theorem dX6_rule_71 : decode cX6_rule 71 = .ok (.aload_n 0, 1) := by decide +kernel
theorem dX6_rule_72 : decode cX6_rule 72 = .ok (.getfield 31, 3) := by decide +kernel
theorem dX6_rule_75 : decode cX6_rule 75 = .ok (.iload_n 1, 1) := by decide +kernel
theorem dX6_rule_76 : decode cX6_rule 76 = .ok (.iaload, 1) := by decide +kernel
theorem dX6_rule_77 : decode cX6_rule 77 = .ok (.ireturn, 1) := by decide +kernel
theorem dX6_rule_78 : decode cX6_rule 78 = .ok (.aload_n 0, 1) := by decide +kernel
theorem dX6_rule_79 : decode cX6_rule 79 = .ok (.getfield 31, 3) := by decide +kernel
theorem dX6_rule_82 : decode cX6_rule 82 = .ok (.iload_n 1, 1) := by decide +kernel
theorem dX6_rule_83 : decode cX6_rule 83 = .ok (.iaload, 1) := by decide +kernel
theorem dX6_rule_84 : decode cX6_rule 84 = .ok (.ifCond .ne 8, 3) := by decide +kernel
theorem dX6_rule_87 : decode cX6_rule 87 = .ok (.bipush (-6), 2) := by decide +kernel
theorem dX6_rule_89 : decode cX6_rule 89 = .ok (.goto 9, 3) := by decide +kernel
theorem dX6_rule_92 : decode cX6_rule 92 = .ok (.aload_n 0, 1) := by decide +kernel
theorem dX6_rule_93 : decode cX6_rule 93 = .ok (.getfield 34, 3) := by decide +kernel
theorem dX6_rule_96 : decode cX6_rule 96 = .ok (.iload_n 1, 1) := by decide +kernel
theorem dX6_rule_97 : decode cX6_rule 97 = .ok (.iaload, 1) := by decide +kernel
theorem dX6_rule_98 : decode cX6_rule 98 = .ok (.ireturn, 1) := by decide +kernel
theorem dX6_rule_99 : decode cX6_rule 99 = .ok (.aload_n 0, 1) := by decide +kernel
theorem dX6_rule_100 : decode cX6_rule 100 = .ok (.iload_n 1, 1) := by decide +kernel
theorem dX6_rule_101 : decode cX6_rule 101 = .ok (.invokevirtual 124, 3) := by decide +kernel
theorem dX6_rule_104 : decode cX6_rule 104 = .ok (.ireturn, 1) := by decide +kernel
theorem dX6_rule_105 : decode cX6_rule 105 = .ok (.aload_n 0, 1) := by decide +kernel
theorem dX6_rule_106 : decode cX6_rule 106 = .ok (.getfield 31, 3) := by decide +kernel
theorem dX6_rule_109 : decode cX6_rule 109 = .ok (.iload_n 1, 1) := by decide +kernel
theorem dX6_rule_110 : decode cX6_rule 110 = .ok (.iaload, 1) := by decide +kernel
theorem dX6_rule_111 : decode cX6_rule 111 = .ok (.iconst 2, 1) := by decide +kernel
theorem dX6_rule_112 : decode cX6_rule 112 = .ok (.if_icmp .ne 7, 3) := by decide +kernel
theorem dX6_rule_115 : decode cX6_rule 115 = .ok (.iconst 0, 1) := by decide +kernel
theorem dX6_rule_116 : decode cX6_rule 116 = .ok (.goto 7, 3) := by decide +kernel
theorem dX6_rule_119 : decode cX6_rule 119 = .ok (.aload_n 0, 1) := by decide +kernel
theorem dX6_rule_120 : decode cX6_rule 120 = .ok (.invokevirtual 127, 3) := by decide +kernel
theorem dX6_rule_123 : decode cX6_rule 123 = .ok (.ireturn, 1) := by decide +kernel
theorem dX6_rule_124 : decode cX6_rule 124 = .ok (.bipush (-2), 2) := by decide +kernel
theorem dX6_rule_126 : decode cX6_rule 126 = .ok (.ireturn, 1) := by decide +kernel
theorem dX6_rulesWith_0 : decode cX6_rulesWith 0 = .ok (.iconst 0, 1) := by decide +kernel
theorem dX6_rulesWith_1 : decode cX6_rulesWith 1 = .ok (.istore_n 2, 1) := by decide +kernel
theorem dX6_rulesWith_2 : decode cX6_rulesWith 2 = .ok (.iconst 0, 1) := by decide +kernel
theorem dX6_rulesWith_3 : decode cX6_rulesWith 3 = .ok (.istore_n 3, 1) := by decide +kernel
theorem dX6_rulesWith_4 : decode cX6_rulesWith 4 = .ok (.iload_n 3, 1) := by decide +kernel
theorem dX6_rulesWith_5 : decode cX6_rulesWith 5 = .ok (.aload_n 0, 1) := by decide +kernel
theorem dX6_rulesWith_6 : decode cX6_rulesWith 6 = .ok (.getfield 7, 3) := by decide +kernel
theorem dX6_rulesWith_9 : decode cX6_rulesWith 9 = .ok (.iconst 1, 1) := by decide +kernel
theorem dX6_rulesWith_10 : decode cX6_rulesWith 10 = .ok (.iaload, 1) := by decide +kernel
theorem dX6_rulesWith_11 : decode cX6_rulesWith 11 = .ok (.if_icmp .ge 24, 3) := by decide +kernel
theorem dX6_rulesWith_14 : decode cX6_rulesWith 14 = .ok (.iload_n 2, 1) := by decide +kernel
theorem dX6_rulesWith_15 : decode cX6_rulesWith 15 = .ok (.aload_n 0, 1) := by decide +kernel
theorem dX6_rulesWith_16 : decode cX6_rulesWith 16 = .ok (.getfield 7, 3) := by decide +kernel
theorem dX6_rulesWith_19 : decode cX6_rulesWith 19 = .ok (.iconst 2, 1) := by decide +kernel
theorem dX6_rulesWith_20 : decode cX6_rulesWith 20 = .ok (.iload_n 3, 1) := by decide +kernel
theorem dX6_rulesWith_21 : decode cX6_rulesWith 21 = .ok (.iadd, 1) := by decide +kernel
theorem dX6_rulesWith_22 : decode cX6_rulesWith 22 = .ok (.iaload, 1) := by decide +kernel
theorem dX6_rulesWith_23 : decode cX6_rulesWith 23 = .ok (.iload_n 1, 1) := by decide +kernel
theorem dX6_rulesWith_24 : decode cX6_rulesWith 24 = .ok (.ishr, 1) := by decide +kernel
theorem dX6_rulesWith_25 : decode cX6_rulesWith 25 = .ok (.iconst 1, 1) := by decide +kernel
theorem dX6_rulesWith_26 : decode cX6_rulesWith 26 = .ok (.iand, 1) := by decide +kernel
theorem dX6_rulesWith_27 : decode cX6_rulesWith 27 = .ok (.iadd, 1) := by decide +kernel
theorem dX6_rulesWith_28 : decode cX6_rulesWith 28 = .ok (.istore_n 2, 1) := by decide +kernel
theorem dX6_rulesWith_29 : decode cX6_rulesWith 29 = .ok (.iinc 3 1, 3) := by decide +kernel
theorem dX6_rulesWith_32 : decode cX6_rulesWith 32 = .ok (.goto (-28), 3) := by decide +kernel
theorem dX6_rulesWith_35 : decode cX6_rulesWith 35 = .ok (.iload_n 2, 1) := by decide +kernel
theorem dX6_rulesWith_36 : decode cX6_rulesWith 36 = .ok (.ireturn, 1) := by decide +kernel
set_option maxRecDepth 20000 in
theorem ggX6_tiedTo_X6_knownOf : GoodIn wsX6_tiedTo wsX6_knownOf := goodIn_r _ [6, 7, 8, 9, 10, 11, 5, 12, 13, 14, 15, 16, 17, 18, 1, 19, 20, 21, 22, 23, 24, 25, 26, 27, 28, 29, 30, 31, 32, 33, 34, 35, 36, 37, 38] (by decide +kernel) (by decide +kernel)
set_option maxRecDepth 20000 in
theorem gX6_tiedTo_X6_knownOf : GoodIn wsX6_tiedTo (wsV RX6 130 RX6 yX6_knownOf wsX6_knownOf) := goodIn_app (goodIn_of _ (by decide +kernel)) ggX6_tiedTo_X6_knownOf
theorem dX6_tiedTo_0 : decode cX6_tiedTo 0 = .ok (.iconst 0, 1) := by decide +kernel
theorem dX6_tiedTo_1 : decode cX6_tiedTo 1 = .ok (.istore_n 2, 1) := by decide +kernel
theorem dX6_tiedTo_2 : decode cX6_tiedTo 2 = .ok (.iconst 0, 1) := by decide +kernel
theorem dX6_tiedTo_3 : decode cX6_tiedTo 3 = .ok (.istore_n 3, 1) := by decide +kernel
theorem dX6_tiedTo_4 : decode cX6_tiedTo 4 = .ok (.iload_n 3, 1) := by decide +kernel
theorem dX6_tiedTo_5 : decode cX6_tiedTo 5 = .ok (.aload_n 0, 1) := by decide +kernel
theorem dX6_tiedTo_6 : decode cX6_tiedTo 6 = .ok (.getfield 7, 3) := by decide +kernel
theorem dX6_tiedTo_9 : decode cX6_tiedTo 9 = .ok (.iconst 0, 1) := by decide +kernel
theorem dX6_tiedTo_10 : decode cX6_tiedTo 10 = .ok (.iaload, 1) := by decide +kernel
theorem dX6_tiedTo_11 : decode cX6_tiedTo 11 = .ok (.if_icmp .ge 76, 3) := by decide +kernel
theorem dX6_tiedTo_14 : decode cX6_tiedTo 14 = .ok (.iload_n 3, 1) := by decide +kernel
theorem dX6_tiedTo_15 : decode cX6_tiedTo 15 = .ok (.iload_n 1, 1) := by decide +kernel
theorem dX6_tiedTo_16 : decode cX6_tiedTo 16 = .ok (.if_icmp .eq 47, 3) := by decide +kernel
theorem dX6_tiedTo_19 : decode cX6_tiedTo 19 = .ok (.aload_n 0, 1) := by decide +kernel
theorem dX6_tiedTo_20 : decode cX6_tiedTo 20 = .ok (.iconst 1, 1) := by decide +kernel
theorem dX6_tiedTo_21 : decode cX6_tiedTo 21 = .ok (.iload_n 3, 1) := by decide +kernel
theorem dX6_tiedTo_22 : decode cX6_tiedTo 22 = .ok (.ishl, 1) := by decide +kernel
theorem dX6_tiedTo_23 : decode cX6_tiedTo 23 = .ok (.iconst 1, 1) := by decide +kernel
theorem dX6_tiedTo_24 : decode cX6_tiedTo 24 = .ok (.iload_n 1, 1) := by decide +kernel
theorem dX6_tiedTo_25 : decode cX6_tiedTo 25 = .ok (.ishl, 1) := by decide +kernel
theorem dX6_tiedTo_26 : decode cX6_tiedTo 26 = .ok (.ior, 1) := by decide +kernel
theorem dX6_tiedTo_27 : decode cX6_tiedTo 27 = .ok (.invokevirtual 130, 3) := by decide +kernel
theorem dX6_tiedTo_30 : decode cX6_tiedTo 30 = .ok (.bipush (-6), 2) := by decide +kernel
theorem dX6_tiedTo_32 : decode cX6_tiedTo 32 = .ok (.if_icmp .eq 31, 3) := by decide +kernel
theorem dX6_tiedTo_35 : decode cX6_tiedTo 35 = .ok (.aload_n 0, 1) := by decide +kernel
theorem dX6_tiedTo_36 : decode cX6_tiedTo 36 = .ok (.iconst 1, 1) := by decide +kernel
theorem dX6_tiedTo_37 : decode cX6_tiedTo 37 = .ok (.iload_n 3, 1) := by decide +kernel
theorem dX6_tiedTo_38 : decode cX6_tiedTo 38 = .ok (.ishl, 1) := by decide +kernel
theorem dX6_tiedTo_39 : decode cX6_tiedTo 39 = .ok (.invokevirtual 130, 3) := by decide +kernel
theorem dX6_tiedTo_42 : decode cX6_tiedTo 42 = .ok (.bipush (-6), 2) := by decide +kernel
theorem dX6_tiedTo_44 : decode cX6_tiedTo 44 = .ok (.if_icmp .ne 19, 3) := by decide +kernel
theorem dX6_tiedTo_47 : decode cX6_tiedTo 47 = .ok (.aload_n 0, 1) := by decide +kernel
theorem dX6_tiedTo_48 : decode cX6_tiedTo 48 = .ok (.iconst 1, 1) := by decide +kernel
theorem dX6_tiedTo_49 : decode cX6_tiedTo 49 = .ok (.iload_n 1, 1) := by decide +kernel
theorem dX6_tiedTo_50 : decode cX6_tiedTo 50 = .ok (.ishl, 1) := by decide +kernel
theorem dX6_tiedTo_51 : decode cX6_tiedTo 51 = .ok (.invokevirtual 130, 3) := by decide +kernel
theorem dX6_tiedTo_54 : decode cX6_tiedTo 54 = .ok (.bipush (-6), 2) := by decide +kernel
theorem dX6_tiedTo_56 : decode cX6_tiedTo 56 = .ok (.if_icmp .ne 7, 3) := by decide +kernel
theorem dX6_tiedTo_59 : decode cX6_tiedTo 59 = .ok (.iconst 1, 1) := by decide +kernel
theorem dX6_tiedTo_60 : decode cX6_tiedTo 60 = .ok (.goto 4, 3) := by decide +kernel
theorem dX6_tiedTo_63 : decode cX6_tiedTo 63 = .ok (.iconst 0, 1) := by decide +kernel
theorem dX6_tiedTo_64 : decode cX6_tiedTo 64 = .ok (.istore 4, 2) := by decide +kernel
theorem dX6_tiedTo_66 : decode cX6_tiedTo 66 = .ok (.iload_n 2, 1) := by decide +kernel
theorem dX6_tiedTo_67 : decode cX6_tiedTo 67 = .ok (.iload 4, 2) := by decide +kernel
theorem dX6_tiedTo_69 : decode cX6_tiedTo 69 = .ok (.ifCond .eq 9, 3) := by decide +kernel
theorem dX6_tiedTo_72 : decode cX6_tiedTo 72 = .ok (.iconst 1, 1) := by decide +kernel
theorem dX6_tiedTo_73 : decode cX6_tiedTo 73 = .ok (.iload_n 3, 1) := by decide +kernel
theorem dX6_tiedTo_74 : decode cX6_tiedTo 74 = .ok (.ishl, 1) := by decide +kernel
theorem dX6_tiedTo_75 : decode cX6_tiedTo 75 = .ok (.goto 4, 3) := by decide +kernel
theorem dX6_tiedTo_78 : decode cX6_tiedTo 78 = .ok (.iconst 0, 1) := by decide +kernel
theorem dX6_tiedTo_79 : decode cX6_tiedTo 79 = .ok (.ior, 1) := by decide +kernel
theorem dX6_tiedTo_80 : decode cX6_tiedTo 80 = .ok (.istore_n 2, 1) := by decide +kernel
theorem dX6_tiedTo_81 : decode cX6_tiedTo 81 = .ok (.iinc 3 1, 3) := by decide +kernel
theorem dX6_tiedTo_84 : decode cX6_tiedTo 84 = .ok (.goto (-80), 3) := by decide +kernel
theorem dX6_tiedTo_87 : decode cX6_tiedTo 87 = .ok (.iload_n 2, 1) := by decide +kernel
theorem dX6_tiedTo_88 : decode cX6_tiedTo 88 = .ok (.ireturn, 1) := by decide +kernel
set_option maxRecDepth 20000 in
theorem ggX6_choice_X6_in : GoodIn wsX6_choice wsX6_in := goodIn_r _ [5] (by decide +kernel) (by decide +kernel)
set_option maxRecDepth 20000 in
theorem gX6_choice_X6_in : GoodIn wsX6_choice (va_wsS RX6 61 yX6_in wsX6_in) := goodIn_app (goodIn_of _ (by decide +kernel)) ggX6_choice_X6_in
set_option maxRecDepth 20000 in
theorem ggX6_choice_X6_judges : GoodIn wsX6_choice wsX6_judges := goodIn_r _ [9, 10, 11, 1, 12, 13, 14, 15, 16, 17, 18, 4, 19, 20, 21, 22, 23, 24, 25, 26, 27, 40, 41, 42, 43, 44, 45, 46, 47, 48, 49, 50, 51, 52, 53, 54, 55, 56, 57, 58, 59] (by decide +kernel) (by decide +kernel)
set_option maxRecDepth 20000 in
theorem gX6_choice_X6_judges : GoodIn wsX6_choice (wsV RX6 85 RX6 yX6_judges wsX6_judges) := goodIn_app (goodIn_of _ (by decide +kernel)) ggX6_choice_X6_judges
set_option maxRecDepth 20000 in
theorem ggX6_choice_X6_knownOf : GoodIn wsX6_choice wsX6_knownOf := goodIn_r _ [31, 15, 14, 20, 21, 22, 4, 23, 10, 11, 24, 25, 26, 27, 1, 40, 41, 42, 43, 44, 45, 46, 47, 48, 49, 50, 51, 52, 53, 54, 55, 56, 57, 58, 59] (by decide +kernel) (by decide +kernel)
set_option maxRecDepth 20000 in
theorem gX6_choice_X6_knownOf : GoodIn wsX6_choice (wsV RX6 130 RX6 yX6_knownOf wsX6_knownOf) := goodIn_app (goodIn_of _ (by decide +kernel)) ggX6_choice_X6_knownOf
set_option maxRecDepth 20000 in
theorem ggX6_choice_X6_rulesWith : GoodIn wsX6_choice wsX6_rulesWith := goodIn_r _ [35, 1, 40, 41, 42, 43, 44, 45, 46, 47, 48, 49, 50, 51, 52, 53, 54, 55, 56, 57, 58, 59] (by decide +kernel) (by decide +kernel)
set_option maxRecDepth 20000 in
theorem gX6_choice_X6_rulesWith : GoodIn wsX6_choice (wsV RX6 133 RX6 yX6_rulesWith wsX6_rulesWith) := goodIn_app (goodIn_of _ (by decide +kernel)) ggX6_choice_X6_rulesWith
set_option maxRecDepth 20000 in
theorem ggX6_choice_X6_tiedTo : GoodIn wsX6_choice wsX6_tiedTo := goodIn_r _ [39, 1, 28, 29, 30, 4, 31, 15, 14, 20, 21, 22, 23, 10, 11, 24, 25, 26, 27, 40, 41, 42, 43, 44, 45, 46, 47, 48, 49, 50, 51, 52, 53, 54, 55, 56, 57, 58, 59] (by decide +kernel) (by decide +kernel)
set_option maxRecDepth 20000 in
theorem gX6_choice_X6_tiedTo : GoodIn wsX6_choice (wsV RX6 136 RX6 yX6_tiedTo wsX6_tiedTo) := goodIn_app (goodIn_of _ (by decide +kernel)) ggX6_choice_X6_tiedTo
theorem dX6_choice_0 : decode cX6_choice 0 = .ok (.iload_n 1, 1) := by decide +kernel
theorem dX6_choice_1 : decode cX6_choice 1 = .ok (.i2l, 1) := by decide +kernel
theorem dX6_choice_2 : decode cX6_choice 2 = .ok (.lconst 0, 1) := by decide +kernel
theorem dX6_choice_3 : decode cX6_choice 3 = .ok (.aload_n 0, 1) := by decide +kernel
theorem dX6_choice_4 : decode cX6_choice 4 = .ok (.getfield 7, 3) := by decide +kernel
theorem dX6_choice_7 : decode cX6_choice 7 = .ok (.iconst 0, 1) := by decide +kernel
theorem dX6_choice_8 : decode cX6_choice 8 = .ok (.iaload, 1) := by decide +kernel
theorem dX6_choice_9 : decode cX6_choice 9 = .ok (.i2l, 1) := by decide +kernel
theorem dX6_choice_10 : decode cX6_choice 10 = .ok (.lconst 1, 1) := by decide +kernel
theorem dX6_choice_11 : decode cX6_choice 11 = .ok (.lsub, 1) := by decide +kernel
theorem dX6_choice_12 : decode cX6_choice 12 = .ok (.invokestatic 61, 3) := by decide +kernel
theorem dX6_choice_15 : decode cX6_choice 15 = .ok (.ifCond .ne 5, 3) := by decide +kernel
theorem dX6_choice_18 : decode cX6_choice 18 = .ok (.iconst (-1), 1) := by decide +kernel
theorem dX6_choice_19 : decode cX6_choice 19 = .ok (.ireturn, 1) := by decide +kernel
theorem dX6_choice_20 : decode cX6_choice 20 = .ok (.aload_n 0, 1) := by decide +kernel
theorem dX6_choice_21 : decode cX6_choice 21 = .ok (.invokevirtual 85, 3) := by decide +kernel
theorem dX6_choice_24 : decode cX6_choice 24 = .ok (.iload_n 2, 1) := by decide +kernel
theorem dX6_choice_25 : decode cX6_choice 25 = .ok (.ifCond .ne 13, 3) := by decide +kernel
theorem dX6_choice_28 : decode cX6_choice 28 = .ok (.aload_n 0, 1) := by decide +kernel
theorem dX6_choice_29 : decode cX6_choice 29 = .ok (.iconst 1, 1) := by decide +kernel
theorem dX6_choice_30 : decode cX6_choice 30 = .ok (.iload_n 1, 1) := by decide +kernel
theorem dX6_choice_31 : decode cX6_choice 31 = .ok (.ishl, 1) := by decide +kernel
theorem dX6_choice_32 : decode cX6_choice 32 = .ok (.invokevirtual 130, 3) := by decide +kernel
theorem dX6_choice_35 : decode cX6_choice 35 = .ok (.goto 31, 3) := by decide +kernel
theorem dX6_choice_38 : decode cX6_choice 38 = .ok (.iload_n 2, 1) := by decide +kernel
theorem dX6_choice_39 : decode cX6_choice 39 = .ok (.iconst 1, 1) := by decide +kernel
theorem dX6_choice_40 : decode cX6_choice 40 = .ok (.if_icmp .ne 11, 3) := by decide +kernel
theorem dX6_choice_43 : decode cX6_choice 43 = .ok (.aload_n 0, 1) := by decide +kernel
theorem dX6_choice_44 : decode cX6_choice 44 = .ok (.iload_n 1, 1) := by decide +kernel
theorem dX6_choice_45 : decode cX6_choice 45 = .ok (.invokevirtual 133, 3) := by decide +kernel
theorem dX6_choice_48 : decode cX6_choice 48 = .ok (.goto 18, 3) := by decide +kernel
theorem dX6_choice_51 : decode cX6_choice 51 = .ok (.iload_n 2, 1) := by decide +kernel
theorem dX6_choice_52 : decode cX6_choice 52 = .ok (.iconst 2, 1) := by decide +kernel
theorem dX6_choice_53 : decode cX6_choice 53 = .ok (.if_icmp .ne 11, 3) := by decide +kernel
theorem dX6_choice_56 : decode cX6_choice 56 = .ok (.aload_n 0, 1) := by decide +kernel
theorem dX6_choice_57 : decode cX6_choice 57 = .ok (.iload_n 1, 1) := by decide +kernel
theorem dX6_choice_58 : decode cX6_choice 58 = .ok (.invokevirtual 136, 3) := by decide +kernel
theorem dX6_choice_61 : decode cX6_choice 61 = .ok (.goto 5, 3) := by decide +kernel
theorem dX6_choice_64 : decode cX6_choice 64 = .ok (.bipush (-2), 2) := by decide +kernel
theorem dX6_choice_66 : decode cX6_choice 66 = .ok (.ireturn, 1) := by decide +kernel
set_option maxRecDepth 20000 in
theorem ggX6_settled_X6_judges : GoodIn wsX6_settled wsX6_judges := goodIn_r _ [6, 7, 8, 1, 9, 10, 11, 12, 13, 14, 15, 5, 16, 17, 18, 19, 20, 21, 22, 23, 24, 29, 30, 31, 32, 33, 34, 35, 36, 37, 38, 39, 40, 41, 42, 43, 44, 45, 46, 47, 48] (by decide +kernel) (by decide +kernel)
set_option maxRecDepth 20000 in
theorem gX6_settled_X6_judges : GoodIn wsX6_settled (wsV RX6 85 RX6 yX6_judges wsX6_judges) := goodIn_app (goodIn_of _ (by decide +kernel)) ggX6_settled_X6_judges
set_option maxRecDepth 20000 in
theorem ggX6_settled_X6_knownOf : GoodIn wsX6_settled wsX6_knownOf := goodIn_r _ [28, 12, 11, 17, 18, 19, 5, 20, 7, 8, 21, 22, 23, 24, 1, 29, 30, 31, 32, 33, 34, 35, 36, 37, 38, 39, 40, 41, 42, 43, 44, 45, 46, 47, 48] (by decide +kernel) (by decide +kernel)
set_option maxRecDepth 20000 in
theorem gX6_settled_X6_knownOf : GoodIn wsX6_settled (wsV RX6 130 RX6 yX6_knownOf wsX6_knownOf) := goodIn_app (goodIn_of _ (by decide +kernel)) ggX6_settled_X6_knownOf
theorem dX6_settled_0 : decode cX6_settled 0 = .ok (.aload_n 0, 1) := by decide +kernel
theorem dX6_settled_1 : decode cX6_settled 1 = .ok (.invokevirtual 85, 3) := by decide +kernel
theorem dX6_settled_4 : decode cX6_settled 4 = .ok (.iconst 0, 1) := by decide +kernel
theorem dX6_settled_5 : decode cX6_settled 5 = .ok (.istore_n 1, 1) := by decide +kernel
theorem dX6_settled_6 : decode cX6_settled 6 = .ok (.iconst 0, 1) := by decide +kernel
theorem dX6_settled_7 : decode cX6_settled 7 = .ok (.istore_n 2, 1) := by decide +kernel
theorem dX6_settled_8 : decode cX6_settled 8 = .ok (.iload_n 2, 1) := by decide +kernel
theorem dX6_settled_9 : decode cX6_settled 9 = .ok (.aload_n 0, 1) := by decide +kernel
theorem dX6_settled_10 : decode cX6_settled 10 = .ok (.getfield 7, 3) := by decide +kernel
theorem dX6_settled_13 : decode cX6_settled 13 = .ok (.iconst 0, 1) := by decide +kernel
theorem dX6_settled_14 : decode cX6_settled 14 = .ok (.iaload, 1) := by decide +kernel
theorem dX6_settled_15 : decode cX6_settled 15 = .ok (.if_icmp .ge 31, 3) := by decide +kernel
theorem dX6_settled_18 : decode cX6_settled 18 = .ok (.iload_n 1, 1) := by decide +kernel
theorem dX6_settled_19 : decode cX6_settled 19 = .ok (.aload_n 0, 1) := by decide +kernel
theorem dX6_settled_20 : decode cX6_settled 20 = .ok (.iconst 1, 1) := by decide +kernel
theorem dX6_settled_21 : decode cX6_settled 21 = .ok (.iload_n 2, 1) := by decide +kernel
theorem dX6_settled_22 : decode cX6_settled 22 = .ok (.ishl, 1) := by decide +kernel
theorem dX6_settled_23 : decode cX6_settled 23 = .ok (.invokevirtual 130, 3) := by decide +kernel
theorem dX6_settled_26 : decode cX6_settled 26 = .ok (.bipush (-6), 2) := by decide +kernel
theorem dX6_settled_28 : decode cX6_settled 28 = .ok (.if_icmp .ne 7, 3) := by decide +kernel
theorem dX6_settled_31 : decode cX6_settled 31 = .ok (.iconst 0, 1) := by decide +kernel
theorem dX6_settled_32 : decode cX6_settled 32 = .ok (.goto 6, 3) := by decide +kernel
theorem dX6_settled_35 : decode cX6_settled 35 = .ok (.iconst 1, 1) := by decide +kernel
theorem dX6_settled_36 : decode cX6_settled 36 = .ok (.iload_n 2, 1) := by decide +kernel
theorem dX6_settled_37 : decode cX6_settled 37 = .ok (.ishl, 1) := by decide +kernel
theorem dX6_settled_38 : decode cX6_settled 38 = .ok (.ior, 1) := by decide +kernel
theorem dX6_settled_39 : decode cX6_settled 39 = .ok (.istore_n 1, 1) := by decide +kernel
theorem dX6_settled_40 : decode cX6_settled 40 = .ok (.iinc 2 1, 3) := by decide +kernel
theorem dX6_settled_43 : decode cX6_settled 43 = .ok (.goto (-35), 3) := by decide +kernel
theorem dX6_settled_46 : decode cX6_settled 46 = .ok (.iload_n 1, 1) := by decide +kernel
theorem dX6_settled_47 : decode cX6_settled 47 = .ok (.ireturn, 1) := by decide +kernel
set_option maxRecDepth 20000 in
theorem ggX6_count_X6_rulesIn : GoodIn wsX6_count wsX6_rulesIn := goodIn_r _ [8, 1, 9, 10, 11, 12, 7, 13, 14, 15, 16, 17, 18, 19, 20, 21, 22, 23, 24, 25, 26, 27, 28, 29, 30, 43, 44, 45, 46, 47, 48, 49, 50, 51, 52, 53, 54, 55, 56, 57, 58, 59, 60, 61, 62] (by decide +kernel) (by decide +kernel)
set_option maxRecDepth 20000 in
theorem gX6_count_X6_rulesIn : GoodIn wsX6_count (wsV RX6 88 RX6 yX6_rulesIn wsX6_rulesIn) := goodIn_app (goodIn_of _ (by decide +kernel)) ggX6_count_X6_rulesIn
set_option maxRecDepth 20000 in
theorem ggX6_count_X6_answers : GoodIn wsX6_count wsX6_answers := goodIn_r _ [34, 1, 4, 5, 6, 7, 8, 9, 10, 11, 12, 13, 14, 15, 16, 17, 18, 19, 20, 21, 22, 23, 24, 25, 26, 27, 28, 29, 30, 43, 44, 45, 46, 47, 48, 49, 50, 51, 52, 53, 54, 55, 56, 57, 58, 59, 60, 61, 62] (by decide +kernel) (by decide +kernel)
set_option maxRecDepth 20000 in
theorem gX6_count_X6_answers : GoodIn wsX6_count (wsV RX6 127 RX6 yX6_answers wsX6_answers) := goodIn_app (goodIn_of _ (by decide +kernel)) ggX6_count_X6_answers
set_option maxRecDepth 20000 in
theorem ggX6_count_X6_settled : GoodIn wsX6_count wsX6_settled := goodIn_r _ [38, 1, 10, 11, 12, 7, 13, 14, 15, 9, 16, 17, 18, 19, 20, 21, 22, 23, 24, 25, 26, 27, 28, 29, 30, 39, 40, 41, 42, 43, 44, 45, 46, 47, 48, 49, 50, 51, 52, 53, 54, 55, 56, 57, 58, 59, 60, 61, 62] (by decide +kernel) (by decide +kernel)
set_option maxRecDepth 20000 in
theorem gX6_count_X6_settled : GoodIn wsX6_count (wsV RX6 139 RX6 yX6_settled wsX6_settled) := goodIn_app (goodIn_of _ (by decide +kernel)) ggX6_count_X6_settled
theorem dX6_count_0 : decode cX6_count 0 = .ok (.iload_n 1, 1) := by decide +kernel
theorem dX6_count_1 : decode cX6_count 1 = .ok (.tableswitch 93 0 8 #[51, 58, 58, 58, 66, 71, 76, 83, 88], 51) := by decide +kernel
theorem dX6_count_52 : decode cX6_count 52 = .ok (.aload_n 0, 1) := by decide +kernel
theorem dX6_count_53 : decode cX6_count 53 = .ok (.getfield 7, 3) := by decide +kernel
theorem dX6_count_56 : decode cX6_count 56 = .ok (.iconst 1, 1) := by decide +kernel
theorem dX6_count_57 : decode cX6_count 57 = .ok (.iaload, 1) := by decide +kernel
theorem dX6_count_58 : decode cX6_count 58 = .ok (.ireturn, 1) := by decide +kernel
theorem dX6_count_59 : decode cX6_count 59 = .ok (.aload_n 0, 1) := by decide +kernel
theorem dX6_count_60 : decode cX6_count 60 = .ok (.iload_n 1, 1) := by decide +kernel
theorem dX6_count_61 : decode cX6_count 61 = .ok (.iconst 1, 1) := by decide +kernel
theorem dX6_count_62 : decode cX6_count 62 = .ok (.isub, 1) := by decide +kernel
theorem dX6_count_63 : decode cX6_count 63 = .ok (.invokevirtual 88, 3) := by decide +kernel
theorem dX6_count_66 : decode cX6_count 66 = .ok (.ireturn, 1) := by decide +kernel
theorem dX6_count_67 : decode cX6_count 67 = .ok (.aload_n 0, 1) := by decide +kernel
theorem dX6_count_68 : decode cX6_count 68 = .ok (.invokevirtual 127, 3) := by decide +kernel
theorem dX6_count_71 : decode cX6_count 71 = .ok (.ireturn, 1) := by decide +kernel
theorem dX6_count_72 : decode cX6_count 72 = .ok (.aload_n 0, 1) := by decide +kernel
theorem dX6_count_73 : decode cX6_count 73 = .ok (.invokevirtual 139, 3) := by decide +kernel
theorem dX6_count_76 : decode cX6_count 76 = .ok (.ireturn, 1) := by decide +kernel
theorem dX6_count_77 : decode cX6_count 77 = .ok (.aload_n 0, 1) := by decide +kernel
theorem dX6_count_78 : decode cX6_count 78 = .ok (.getfield 7, 3) := by decide +kernel
theorem dX6_count_81 : decode cX6_count 81 = .ok (.iconst 0, 1) := by decide +kernel
theorem dX6_count_82 : decode cX6_count 82 = .ok (.iaload, 1) := by decide +kernel
theorem dX6_count_83 : decode cX6_count 83 = .ok (.ireturn, 1) := by decide +kernel
theorem dX6_count_84 : decode cX6_count 84 = .ok (.aload_n 0, 1) := by decide +kernel
theorem dX6_count_85 : decode cX6_count 85 = .ok (.getfield 142, 3) := by decide +kernel
theorem dX6_count_88 : decode cX6_count 88 = .ok (.ireturn, 1) := by decide +kernel
theorem dX6_count_89 : decode cX6_count 89 = .ok (.aload_n 0, 1) := by decide +kernel
theorem dX6_count_90 : decode cX6_count 90 = .ok (.getfield 49, 3) := by decide +kernel
theorem dX6_count_93 : decode cX6_count 93 = .ok (.ireturn, 1) := by decide +kernel
theorem dX6_count_94 : decode cX6_count 94 = .ok (.bipush (-2), 2) := by decide +kernel
theorem dX6_count_96 : decode cX6_count 96 = .ok (.ireturn, 1) := by decide +kernel
set_option maxRecDepth 20000 in
theorem ggX6_answer_X6_answers : GoodIn wsX6_answer wsX6_answers := goodIn_r _ [5, 6, 7, 8, 9, 4, 10, 11, 12, 13, 14, 15, 16, 17, 18, 19, 20, 21, 22, 23, 24, 25, 26, 27, 28, 29, 30, 31, 32, 50, 51, 52, 53, 54, 55, 56, 57, 58, 59, 60, 61, 62, 63, 64, 65, 66, 67, 68, 69] (by decide +kernel) (by decide +kernel)
set_option maxRecDepth 20000 in
theorem gX6_answer_X6_answers : GoodIn wsX6_answer (wsV RX6 127 RX6 yX6_answers wsX6_answers) := goodIn_app (goodIn_of _ (by decide +kernel)) ggX6_answer_X6_answers
set_option maxRecDepth 20000 in
theorem ggX6_answer_X6_in : GoodIn wsX6_answer wsX6_in := goodIn_r _ [35] (by decide +kernel) (by decide +kernel)
set_option maxRecDepth 20000 in
theorem gX6_answer_X6_in : GoodIn wsX6_answer (va_wsS RX6 61 yX6_in wsX6_in) := goodIn_app (goodIn_of _ (by decide +kernel)) ggX6_answer_X6_in
set_option maxRecDepth 20000 in
theorem ggX6_answer_X6_isAnswer : GoodIn wsX6_answer wsX6_isAnswer := goodIn_r _ [39, 6, 11, 40, 41, 42, 4, 43, 44, 45, 46, 47, 48, 49, 50, 51, 52, 53, 54, 55, 56, 57, 58, 59, 60, 61, 62, 63, 64, 65, 66, 67, 68, 69] (by decide +kernel) (by decide +kernel)
set_option maxRecDepth 20000 in
theorem gX6_answer_X6_isAnswer : GoodIn wsX6_answer (wsV RX6 145 RX6 yX6_isAnswer wsX6_isAnswer) := goodIn_app (goodIn_of _ (by decide +kernel)) ggX6_answer_X6_isAnswer
theorem dX6_answer_0 : decode cX6_answer 0 = .ok (.iload_n 1, 1) := by decide +kernel
theorem dX6_answer_1 : decode cX6_answer 1 = .ok (.i2l, 1) := by decide +kernel
theorem dX6_answer_2 : decode cX6_answer 2 = .ok (.lconst 0, 1) := by decide +kernel
theorem dX6_answer_3 : decode cX6_answer 3 = .ok (.aload_n 0, 1) := by decide +kernel
theorem dX6_answer_4 : decode cX6_answer 4 = .ok (.invokevirtual 127, 3) := by decide +kernel
theorem dX6_answer_7 : decode cX6_answer 7 = .ok (.i2l, 1) := by decide +kernel
theorem dX6_answer_8 : decode cX6_answer 8 = .ok (.lconst 1, 1) := by decide +kernel
theorem dX6_answer_9 : decode cX6_answer 9 = .ok (.lsub, 1) := by decide +kernel
theorem dX6_answer_10 : decode cX6_answer 10 = .ok (.invokestatic 61, 3) := by decide +kernel
theorem dX6_answer_13 : decode cX6_answer 13 = .ok (.ifCond .ne 5, 3) := by decide +kernel
theorem dX6_answer_16 : decode cX6_answer 16 = .ok (.iconst (-1), 1) := by decide +kernel
theorem dX6_answer_17 : decode cX6_answer 17 = .ok (.ireturn, 1) := by decide +kernel
theorem dX6_answer_18 : decode cX6_answer 18 = .ok (.iload_n 1, 1) := by decide +kernel
theorem dX6_answer_19 : decode cX6_answer 19 = .ok (.istore_n 2, 1) := by decide +kernel
theorem dX6_answer_20 : decode cX6_answer 20 = .ok (.iconst 0, 1) := by decide +kernel
theorem dX6_answer_21 : decode cX6_answer 21 = .ok (.istore_n 3, 1) := by decide +kernel
theorem dX6_answer_22 : decode cX6_answer 22 = .ok (.iload_n 2, 1) := by decide +kernel
theorem dX6_answer_23 : decode cX6_answer 23 = .ok (.ifCond .gt 11, 3) := by decide +kernel
theorem dX6_answer_26 : decode cX6_answer 26 = .ok (.aload_n 0, 1) := by decide +kernel
theorem dX6_answer_27 : decode cX6_answer 27 = .ok (.iload_n 3, 1) := by decide +kernel
theorem dX6_answer_28 : decode cX6_answer 28 = .ok (.invokevirtual 145, 3) := by decide +kernel
theorem dX6_answer_31 : decode cX6_answer 31 = .ok (.ifCond .ne 25, 3) := by decide +kernel
theorem dX6_answer_34 : decode cX6_answer 34 = .ok (.iload_n 2, 1) := by decide +kernel
theorem dX6_answer_35 : decode cX6_answer 35 = .ok (.aload_n 0, 1) := by decide +kernel
theorem dX6_answer_36 : decode cX6_answer 36 = .ok (.iload_n 3, 1) := by decide +kernel
theorem dX6_answer_37 : decode cX6_answer 37 = .ok (.invokevirtual 145, 3) := by decide +kernel
theorem dX6_answer_40 : decode cX6_answer 40 = .ok (.ifCond .eq 7, 3) := by decide +kernel
theorem dX6_answer_43 : decode cX6_answer 43 = .ok (.iconst 1, 1) := by decide +kernel
theorem dX6_answer_44 : decode cX6_answer 44 = .ok (.goto 4, 3) := by decide +kernel
theorem dX6_answer_47 : decode cX6_answer 47 = .ok (.iconst 0, 1) := by decide +kernel
theorem dX6_answer_48 : decode cX6_answer 48 = .ok (.isub, 1) := by decide +kernel
theorem dX6_answer_49 : decode cX6_answer 49 = .ok (.istore_n 2, 1) := by decide +kernel
theorem dX6_answer_50 : decode cX6_answer 50 = .ok (.iinc 3 1, 3) := by decide +kernel
theorem dX6_answer_53 : decode cX6_answer 53 = .ok (.goto (-31), 3) := by decide +kernel
theorem dX6_answer_56 : decode cX6_answer 56 = .ok (.iload_n 3, 1) := by decide +kernel
theorem dX6_answer_57 : decode cX6_answer 57 = .ok (.ireturn, 1) := by decide +kernel
set_option maxRecDepth 20000 in
theorem ggX6_known_X6_judges : GoodIn wsX6_known wsX6_judges := goodIn_r _ [5, 6, 7, 8, 9, 10, 11, 12, 13, 14, 15, 4, 16, 17, 18, 19, 20, 21, 22, 23, 24, 36, 37, 38, 39, 40, 41, 42, 43, 44, 45, 46, 47, 48, 49, 50, 51, 52, 53, 54, 55] (by decide +kernel) (by decide +kernel)
set_option maxRecDepth 20000 in
theorem gX6_known_X6_judges : GoodIn wsX6_known (wsV RX6 85 RX6 yX6_judges wsX6_judges) := goodIn_app (goodIn_of _ (by decide +kernel)) ggX6_known_X6_judges
set_option maxRecDepth 20000 in
theorem ggX6_known_X6_masks : GoodIn wsX6_known wsX6_masks := goodIn_r _ [28, 8, 36, 37, 38, 39, 40, 41, 42, 43, 44, 45, 46, 47, 48, 49, 50, 51, 52, 53, 54, 55] (by decide +kernel) (by decide +kernel)
set_option maxRecDepth 20000 in
theorem gX6_known_X6_masks : GoodIn wsX6_known (wsV RX6 57 RX6 yX6_masks wsX6_masks) := goodIn_app (goodIn_of _ (by decide +kernel)) ggX6_known_X6_masks
set_option maxRecDepth 20000 in
theorem ggX6_known_X6_in : GoodIn wsX6_known wsX6_in := goodIn_r _ [31] (by decide +kernel) (by decide +kernel)
set_option maxRecDepth 20000 in
theorem gX6_known_X6_in : GoodIn wsX6_known (va_wsS RX6 61 yX6_in wsX6_in) := goodIn_app (goodIn_of _ (by decide +kernel)) ggX6_known_X6_in
set_option maxRecDepth 20000 in
theorem ggX6_known_X6_knownOf : GoodIn wsX6_known wsX6_knownOf := goodIn_r _ [35, 12, 11, 17, 18, 19, 4, 20, 6, 7, 21, 22, 23, 24, 8, 36, 37, 38, 39, 40, 41, 42, 43, 44, 45, 46, 47, 48, 49, 50, 51, 52, 53, 54, 55] (by decide +kernel) (by decide +kernel)
set_option maxRecDepth 20000 in
theorem gX6_known_X6_knownOf : GoodIn wsX6_known (wsV RX6 130 RX6 yX6_knownOf wsX6_knownOf) := goodIn_app (goodIn_of _ (by decide +kernel)) ggX6_known_X6_knownOf
theorem dX6_known_0 : decode cX6_known 0 = .ok (.aload_n 0, 1) := by decide +kernel
theorem dX6_known_1 : decode cX6_known 1 = .ok (.invokevirtual 85, 3) := by decide +kernel
theorem dX6_known_4 : decode cX6_known 4 = .ok (.iload_n 1, 1) := by decide +kernel
theorem dX6_known_5 : decode cX6_known 5 = .ok (.i2l, 1) := by decide +kernel
theorem dX6_known_6 : decode cX6_known 6 = .ok (.lconst 0, 1) := by decide +kernel
theorem dX6_known_7 : decode cX6_known 7 = .ok (.aload_n 0, 1) := by decide +kernel
theorem dX6_known_8 : decode cX6_known 8 = .ok (.invokevirtual 57, 3) := by decide +kernel
theorem dX6_known_11 : decode cX6_known 11 = .ok (.i2l, 1) := by decide +kernel
theorem dX6_known_12 : decode cX6_known 12 = .ok (.lconst 1, 1) := by decide +kernel
theorem dX6_known_13 : decode cX6_known 13 = .ok (.lsub, 1) := by decide +kernel
theorem dX6_known_14 : decode cX6_known 14 = .ok (.invokestatic 61, 3) := by decide +kernel
theorem dX6_known_17 : decode cX6_known 17 = .ok (.ifCond .eq 11, 3) := by decide +kernel
theorem dX6_known_20 : decode cX6_known 20 = .ok (.aload_n 0, 1) := by decide +kernel
theorem dX6_known_21 : decode cX6_known 21 = .ok (.iload_n 1, 1) := by decide +kernel
theorem dX6_known_22 : decode cX6_known 22 = .ok (.invokevirtual 130, 3) := by decide +kernel
theorem dX6_known_25 : decode cX6_known 25 = .ok (.goto 5, 3) := by decide +kernel
theorem dX6_known_28 : decode cX6_known 28 = .ok (.bipush (-2), 2) := by decide +kernel
theorem dX6_known_30 : decode cX6_known 30 = .ok (.ireturn, 1) := by decide +kernel
set_option maxRecDepth 20000 in
theorem ggX6_nearest_X6_masks : GoodIn wsX6_nearest wsX6_masks := goodIn_r _ [5, 6, 46, 47, 48, 49, 50, 51, 52, 53, 54, 55, 56, 57, 58, 59, 60, 61, 62, 63, 64, 65] (by decide +kernel) (by decide +kernel)
set_option maxRecDepth 20000 in
theorem gX6_nearest_X6_masks : GoodIn wsX6_nearest (wsV RX6 57 RX6 yX6_masks wsX6_masks) := goodIn_app (goodIn_of _ (by decide +kernel)) ggX6_nearest_X6_masks
set_option maxRecDepth 20000 in
theorem ggX6_nearest_X6_in : GoodIn wsX6_nearest wsX6_in := goodIn_r _ [9] (by decide +kernel) (by decide +kernel)
set_option maxRecDepth 20000 in
theorem gX6_nearest_X6_in : GoodIn wsX6_nearest (va_wsS RX6 61 yX6_in wsX6_in) := goodIn_app (goodIn_of _ (by decide +kernel)) ggX6_nearest_X6_in
set_option maxRecDepth 20000 in
theorem ggX6_nearest_X6_judges : GoodIn wsX6_nearest wsX6_judges := goodIn_r _ [13, 14, 15, 6, 16, 17, 18, 19, 20, 21, 22, 4, 23, 24, 25, 26, 27, 28, 29, 30, 31, 46, 47, 48, 49, 50, 51, 52, 53, 54, 55, 56, 57, 58, 59, 60, 61, 62, 63, 64, 65] (by decide +kernel) (by decide +kernel)
set_option maxRecDepth 20000 in
theorem gX6_nearest_X6_judges : GoodIn wsX6_nearest (wsV RX6 85 RX6 yX6_judges wsX6_judges) := goodIn_app (goodIn_of _ (by decide +kernel)) ggX6_nearest_X6_judges
set_option maxRecDepth 20000 in
theorem ggX6_nearest_X6_bits : GoodIn wsX6_nearest wsX6_bits := goodIn_r _ [34] (by decide +kernel) (by decide +kernel)
set_option maxRecDepth 20000 in
theorem gX6_nearest_X6_bits : GoodIn wsX6_nearest (va_wsS RX6 53 yX6_bits wsX6_bits) := goodIn_app (goodIn_of _ (by decide +kernel)) ggX6_nearest_X6_bits
set_option maxRecDepth 20000 in
theorem ggX6_nearest_X6_isAnswer : GoodIn wsX6_nearest wsX6_isAnswer := goodIn_r _ [38, 6, 16, 39, 40, 41, 4, 42, 43, 44, 45, 32, 33, 34, 46, 47, 48, 49, 50, 51, 52, 53, 54, 55, 56, 57, 58, 59, 60, 61, 62, 63, 64, 65] (by decide +kernel) (by decide +kernel)
set_option maxRecDepth 20000 in
theorem gX6_nearest_X6_isAnswer : GoodIn wsX6_nearest (wsV RX6 145 RX6 yX6_isAnswer wsX6_isAnswer) := goodIn_app (goodIn_of _ (by decide +kernel)) ggX6_nearest_X6_isAnswer
theorem dX6_nearest_0 : decode cX6_nearest 0 = .ok (.iload_n 1, 1) := by decide +kernel
theorem dX6_nearest_1 : decode cX6_nearest 1 = .ok (.i2l, 1) := by decide +kernel
theorem dX6_nearest_2 : decode cX6_nearest 2 = .ok (.lconst 0, 1) := by decide +kernel
theorem dX6_nearest_3 : decode cX6_nearest 3 = .ok (.aload_n 0, 1) := by decide +kernel
theorem dX6_nearest_4 : decode cX6_nearest 4 = .ok (.invokevirtual 57, 3) := by decide +kernel
theorem dX6_nearest_7 : decode cX6_nearest 7 = .ok (.i2l, 1) := by decide +kernel
theorem dX6_nearest_8 : decode cX6_nearest 8 = .ok (.lconst 1, 1) := by decide +kernel
theorem dX6_nearest_9 : decode cX6_nearest 9 = .ok (.lsub, 1) := by decide +kernel
theorem dX6_nearest_10 : decode cX6_nearest 10 = .ok (.invokestatic 61, 3) := by decide +kernel
theorem dX6_nearest_13 : decode cX6_nearest 13 = .ok (.ifCond .eq 13, 3) := by decide +kernel
theorem dX6_nearest_16 : decode cX6_nearest 16 = .ok (.iload_n 2, 1) := by decide +kernel
theorem dX6_nearest_17 : decode cX6_nearest 17 = .ok (.i2l, 1) := by decide +kernel
theorem dX6_nearest_18 : decode cX6_nearest 18 = .ok (.lconst 0, 1) := by decide +kernel
theorem dX6_nearest_19 : decode cX6_nearest 19 = .ok (.lconst 1, 1) := by decide +kernel
theorem dX6_nearest_20 : decode cX6_nearest 20 = .ok (.invokestatic 61, 3) := by decide +kernel
theorem dX6_nearest_23 : decode cX6_nearest 23 = .ok (.ifCond .ne 6, 3) := by decide +kernel
theorem dX6_nearest_26 : decode cX6_nearest 26 = .ok (.bipush (-2), 2) := by decide +kernel
theorem dX6_nearest_28 : decode cX6_nearest 28 = .ok (.ireturn, 1) := by decide +kernel
theorem dX6_nearest_29 : decode cX6_nearest 29 = .ok (.aload_n 0, 1) := by decide +kernel
theorem dX6_nearest_30 : decode cX6_nearest 30 = .ok (.invokevirtual 85, 3) := by decide +kernel
theorem dX6_nearest_33 : decode cX6_nearest 33 = .ok (.bipush (-6), 2) := by decide +kernel
theorem dX6_nearest_35 : decode cX6_nearest 35 = .ok (.istore_n 3, 1) := by decide +kernel
theorem dX6_nearest_36 : decode cX6_nearest 36 = .ok (.bipush 13, 2) := by decide +kernel
theorem dX6_nearest_38 : decode cX6_nearest 38 = .ok (.istore 4, 2) := by decide +kernel
theorem dX6_nearest_40 : decode cX6_nearest 40 = .ok (.iconst 0, 1) := by decide +kernel
theorem dX6_nearest_41 : decode cX6_nearest 41 = .ok (.istore 5, 2) := by decide +kernel
theorem dX6_nearest_43 : decode cX6_nearest 43 = .ok (.iload 5, 2) := by decide +kernel
theorem dX6_nearest_45 : decode cX6_nearest 45 = .ok (.aload_n 0, 1) := by decide +kernel
theorem dX6_nearest_46 : decode cX6_nearest 46 = .ok (.invokevirtual 57, 3) := by decide +kernel
theorem dX6_nearest_49 : decode cX6_nearest 49 = .ok (.if_icmp .ge 67, 3) := by decide +kernel
theorem dX6_nearest_52 : decode cX6_nearest 52 = .ok (.iload 5, 2) := by decide +kernel
theorem dX6_nearest_54 : decode cX6_nearest 54 = .ok (.iload_n 1, 1) := by decide +kernel
theorem dX6_nearest_55 : decode cX6_nearest 55 = .ok (.ixor, 1) := by decide +kernel
theorem dX6_nearest_56 : decode cX6_nearest 56 = .ok (.invokestatic 53, 3) := by decide +kernel
theorem dX6_nearest_59 : decode cX6_nearest 59 = .ok (.istore 6, 2) := by decide +kernel
theorem dX6_nearest_61 : decode cX6_nearest 61 = .ok (.iload 6, 2) := by decide +kernel
theorem dX6_nearest_63 : decode cX6_nearest 63 = .ok (.iload 4, 2) := by decide +kernel
theorem dX6_nearest_65 : decode cX6_nearest 65 = .ok (.if_icmp .ge 16, 3) := by decide +kernel
theorem dX6_nearest_68 : decode cX6_nearest 68 = .ok (.aload_n 0, 1) := by decide +kernel
theorem dX6_nearest_69 : decode cX6_nearest 69 = .ok (.iload 5, 2) := by decide +kernel
theorem dX6_nearest_71 : decode cX6_nearest 71 = .ok (.invokevirtual 145, 3) := by decide +kernel
theorem dX6_nearest_74 : decode cX6_nearest 74 = .ok (.ifCond .eq 7, 3) := by decide +kernel
theorem dX6_nearest_77 : decode cX6_nearest 77 = .ok (.iconst 1, 1) := by decide +kernel
theorem dX6_nearest_78 : decode cX6_nearest 78 = .ok (.goto 4, 3) := by decide +kernel
theorem dX6_nearest_81 : decode cX6_nearest 81 = .ok (.iconst 0, 1) := by decide +kernel
theorem dX6_nearest_82 : decode cX6_nearest 82 = .ok (.istore 7, 2) := by decide +kernel
theorem dX6_nearest_84 : decode cX6_nearest 84 = .ok (.iload 7, 2) := by decide +kernel
theorem dX6_nearest_86 : decode cX6_nearest 86 = .ok (.ifCond .eq 8, 3) := by decide +kernel
theorem dX6_nearest_89 : decode cX6_nearest 89 = .ok (.iload 5, 2) := by decide +kernel
theorem dX6_nearest_91 : decode cX6_nearest 91 = .ok (.goto 4, 3) := by decide +kernel
theorem dX6_nearest_94 : decode cX6_nearest 94 = .ok (.iload_n 3, 1) := by decide +kernel
theorem dX6_nearest_95 : decode cX6_nearest 95 = .ok (.istore_n 3, 1) := by decide +kernel
theorem dX6_nearest_96 : decode cX6_nearest 96 = .ok (.iload 7, 2) := by decide +kernel
theorem dX6_nearest_98 : decode cX6_nearest 98 = .ok (.ifCond .eq 8, 3) := by decide +kernel
theorem dX6_nearest_101 : decode cX6_nearest 101 = .ok (.iload 6, 2) := by decide +kernel
theorem dX6_nearest_103 : decode cX6_nearest 103 = .ok (.goto 5, 3) := by decide +kernel
theorem dX6_nearest_106 : decode cX6_nearest 106 = .ok (.iload 4, 2) := by decide +kernel
theorem dX6_nearest_108 : decode cX6_nearest 108 = .ok (.istore 4, 2) := by decide +kernel
theorem dX6_nearest_110 : decode cX6_nearest 110 = .ok (.iinc 5 1, 3) := by decide +kernel
theorem dX6_nearest_113 : decode cX6_nearest 113 = .ok (.goto (-70), 3) := by decide +kernel
theorem dX6_nearest_116 : decode cX6_nearest 116 = .ok (.iload_n 2, 1) := by decide +kernel
theorem dX6_nearest_117 : decode cX6_nearest 117 = .ok (.ifCond .ne 7, 3) := by decide +kernel
theorem dX6_nearest_120 : decode cX6_nearest 120 = .ok (.iload_n 3, 1) := by decide +kernel
theorem dX6_nearest_121 : decode cX6_nearest 121 = .ok (.goto 5, 3) := by decide +kernel
theorem dX6_nearest_124 : decode cX6_nearest 124 = .ok (.iload 4, 2) := by decide +kernel
theorem dX6_nearest_126 : decode cX6_nearest 126 = .ok (.ireturn, 1) := by decide +kernel
set_option maxRecDepth 20000 in
theorem ggX6_broken_X6_fits : GoodIn wsX6_broken wsX6_fits := goodIn_r _ [6, 1, 7, 8, 5, 9, 10, 11, 12, 13, 14, 15, 16, 17, 18, 19, 20, 21, 22, 23, 24, 25, 26, 27, 28, 29, 30, 31, 32] (by decide +kernel) (by decide +kernel)
set_option maxRecDepth 20000 in
theorem gX6_broken_X6_fits : GoodIn wsX6_broken (wsV RX6 91 RX6 yX6_fits wsX6_fits) := goodIn_app (goodIn_of _ (by decide +kernel)) ggX6_broken_X6_fits
theorem dX6_broken_0 : decode cX6_broken 0 = .ok (.iconst 0, 1) := by decide +kernel
theorem dX6_broken_1 : decode cX6_broken 1 = .ok (.istore_n 2, 1) := by decide +kernel
theorem dX6_broken_2 : decode cX6_broken 2 = .ok (.iconst 0, 1) := by decide +kernel
theorem dX6_broken_3 : decode cX6_broken 3 = .ok (.istore_n 3, 1) := by decide +kernel
theorem dX6_broken_4 : decode cX6_broken 4 = .ok (.iload_n 3, 1) := by decide +kernel
theorem dX6_broken_5 : decode cX6_broken 5 = .ok (.aload_n 0, 1) := by decide +kernel
theorem dX6_broken_6 : decode cX6_broken 6 = .ok (.getfield 7, 3) := by decide +kernel
theorem dX6_broken_9 : decode cX6_broken 9 = .ok (.iconst 1, 1) := by decide +kernel
theorem dX6_broken_10 : decode cX6_broken 10 = .ok (.iaload, 1) := by decide +kernel
theorem dX6_broken_11 : decode cX6_broken 11 = .ok (.if_icmp .ge 26, 3) := by decide +kernel
theorem dX6_broken_14 : decode cX6_broken 14 = .ok (.iload_n 2, 1) := by decide +kernel
theorem dX6_broken_15 : decode cX6_broken 15 = .ok (.aload_n 0, 1) := by decide +kernel
theorem dX6_broken_16 : decode cX6_broken 16 = .ok (.iload_n 1, 1) := by decide +kernel
theorem dX6_broken_17 : decode cX6_broken 17 = .ok (.iload_n 3, 1) := by decide +kernel
theorem dX6_broken_18 : decode cX6_broken 18 = .ok (.invokevirtual 91, 3) := by decide +kernel
theorem dX6_broken_21 : decode cX6_broken 21 = .ok (.ifCond .eq 7, 3) := by decide +kernel
theorem dX6_broken_24 : decode cX6_broken 24 = .ok (.iconst 0, 1) := by decide +kernel
theorem dX6_broken_25 : decode cX6_broken 25 = .ok (.goto 4, 3) := by decide +kernel
theorem dX6_broken_28 : decode cX6_broken 28 = .ok (.iconst 1, 1) := by decide +kernel
theorem dX6_broken_29 : decode cX6_broken 29 = .ok (.iadd, 1) := by decide +kernel
theorem dX6_broken_30 : decode cX6_broken 30 = .ok (.istore_n 2, 1) := by decide +kernel
theorem dX6_broken_31 : decode cX6_broken 31 = .ok (.iinc 3 1, 3) := by decide +kernel
theorem dX6_broken_34 : decode cX6_broken 34 = .ok (.goto (-30), 3) := by decide +kernel
theorem dX6_broken_37 : decode cX6_broken 37 = .ok (.iload_n 2, 1) := by decide +kernel
theorem dX6_broken_38 : decode cX6_broken 38 = .ok (.ireturn, 1) := by decide +kernel
set_option maxRecDepth 20000 in
theorem ggX6_best_X6_in : GoodIn wsX6_best wsX6_in := goodIn_r _ [5] (by decide +kernel) (by decide +kernel)
set_option maxRecDepth 20000 in
theorem gX6_best_X6_in : GoodIn wsX6_best (va_wsS RX6 61 yX6_in wsX6_in) := goodIn_app (goodIn_of _ (by decide +kernel)) ggX6_best_X6_in
set_option maxRecDepth 20000 in
theorem ggX6_best_X6_masks : GoodIn wsX6_best wsX6_masks := goodIn_r _ [9, 10, 25, 26, 27, 28, 29, 30, 31, 32, 33, 34, 35, 36, 37, 38, 39, 40, 41, 42, 43, 44] (by decide +kernel) (by decide +kernel)
set_option maxRecDepth 20000 in
theorem gX6_best_X6_masks : GoodIn wsX6_best (wsV RX6 57 RX6 yX6_masks wsX6_masks) := goodIn_app (goodIn_of _ (by decide +kernel)) ggX6_best_X6_masks
set_option maxRecDepth 20000 in
theorem ggX6_best_X6_broken : GoodIn wsX6_best wsX6_broken := goodIn_r _ [14, 10, 15, 16, 17, 4, 18, 19, 20, 21, 22, 23, 24, 25, 26, 27, 28, 29, 30, 31, 32, 33, 34, 35, 36, 37, 38, 39, 40, 41, 42, 43, 44] (by decide +kernel) (by decide +kernel)
set_option maxRecDepth 20000 in
theorem gX6_best_X6_broken : GoodIn wsX6_best (wsV RX6 150 RX6 yX6_broken wsX6_broken) := goodIn_app (goodIn_of _ (by decide +kernel)) ggX6_best_X6_broken
theorem dX6_best_0 : decode cX6_best 0 = .ok (.iload_n 1, 1) := by decide +kernel
theorem dX6_best_1 : decode cX6_best 1 = .ok (.i2l, 1) := by decide +kernel
theorem dX6_best_2 : decode cX6_best 2 = .ok (.lconst 0, 1) := by decide +kernel
theorem dX6_best_3 : decode cX6_best 3 = .ok (.ldc2_w 148, 3) := by decide +kernel
theorem dX6_best_6 : decode cX6_best 6 = .ok (.invokestatic 61, 3) := by decide +kernel
theorem dX6_best_9 : decode cX6_best 9 = .ok (.ifCond .ne 6, 3) := by decide +kernel
theorem dX6_best_12 : decode cX6_best 12 = .ok (.bipush (-2), 2) := by decide +kernel
theorem dX6_best_14 : decode cX6_best 14 = .ok (.ireturn, 1) := by decide +kernel
theorem dX6_best_15 : decode cX6_best 15 = .ok (.iconst 0, 1) := by decide +kernel
theorem dX6_best_16 : decode cX6_best 16 = .ok (.istore_n 2, 1) := by decide +kernel
theorem dX6_best_17 : decode cX6_best 17 = .ok (.bipush 21, 2) := by decide +kernel
theorem dX6_best_19 : decode cX6_best 19 = .ok (.istore_n 3, 1) := by decide +kernel
theorem dX6_best_20 : decode cX6_best 20 = .ok (.iconst 0, 1) := by decide +kernel
theorem dX6_best_21 : decode cX6_best 21 = .ok (.istore 4, 2) := by decide +kernel
theorem dX6_best_23 : decode cX6_best 23 = .ok (.iconst 0, 1) := by decide +kernel
theorem dX6_best_24 : decode cX6_best 24 = .ok (.istore 5, 2) := by decide +kernel
theorem dX6_best_26 : decode cX6_best 26 = .ok (.iload 5, 2) := by decide +kernel
theorem dX6_best_28 : decode cX6_best 28 = .ok (.aload_n 0, 1) := by decide +kernel
theorem dX6_best_29 : decode cX6_best 29 = .ok (.invokevirtual 57, 3) := by decide +kernel
theorem dX6_best_32 : decode cX6_best 32 = .ok (.if_icmp .ge 70, 3) := by decide +kernel
theorem dX6_best_35 : decode cX6_best 35 = .ok (.aload_n 0, 1) := by decide +kernel
theorem dX6_best_36 : decode cX6_best 36 = .ok (.iload 5, 2) := by decide +kernel
theorem dX6_best_38 : decode cX6_best 38 = .ok (.invokevirtual 150, 3) := by decide +kernel
theorem dX6_best_41 : decode cX6_best 41 = .ok (.istore 6, 2) := by decide +kernel
theorem dX6_best_43 : decode cX6_best 43 = .ok (.iload 6, 2) := by decide +kernel
theorem dX6_best_45 : decode cX6_best 45 = .ok (.iload_n 3, 1) := by decide +kernel
theorem dX6_best_46 : decode cX6_best 46 = .ok (.if_icmp .ge 7, 3) := by decide +kernel
theorem dX6_best_49 : decode cX6_best 49 = .ok (.iconst 1, 1) := by decide +kernel
theorem dX6_best_50 : decode cX6_best 50 = .ok (.goto 18, 3) := by decide +kernel
theorem dX6_best_53 : decode cX6_best 53 = .ok (.iload 6, 2) := by decide +kernel
theorem dX6_best_55 : decode cX6_best 55 = .ok (.iload_n 3, 1) := by decide +kernel
theorem dX6_best_56 : decode cX6_best 56 = .ok (.if_icmp .ne 10, 3) := by decide +kernel
theorem dX6_best_59 : decode cX6_best 59 = .ok (.iload 4, 2) := by decide +kernel
theorem dX6_best_61 : decode cX6_best 61 = .ok (.iconst 1, 1) := by decide +kernel
theorem dX6_best_62 : decode cX6_best 62 = .ok (.iadd, 1) := by decide +kernel
theorem dX6_best_63 : decode cX6_best 63 = .ok (.goto 5, 3) := by decide +kernel
theorem dX6_best_66 : decode cX6_best 66 = .ok (.iload 4, 2) := by decide +kernel
theorem dX6_best_68 : decode cX6_best 68 = .ok (.istore 4, 2) := by decide +kernel
theorem dX6_best_70 : decode cX6_best 70 = .ok (.iload 6, 2) := by decide +kernel
theorem dX6_best_72 : decode cX6_best 72 = .ok (.iload_n 3, 1) := by decide +kernel
theorem dX6_best_73 : decode cX6_best 73 = .ok (.if_icmp .ge 8, 3) := by decide +kernel
theorem dX6_best_76 : decode cX6_best 76 = .ok (.iload 5, 2) := by decide +kernel
theorem dX6_best_78 : decode cX6_best 78 = .ok (.goto 4, 3) := by decide +kernel
theorem dX6_best_81 : decode cX6_best 81 = .ok (.iload_n 2, 1) := by decide +kernel
theorem dX6_best_82 : decode cX6_best 82 = .ok (.istore_n 2, 1) := by decide +kernel
theorem dX6_best_83 : decode cX6_best 83 = .ok (.iload 6, 2) := by decide +kernel
theorem dX6_best_85 : decode cX6_best 85 = .ok (.iload_n 3, 1) := by decide +kernel
theorem dX6_best_86 : decode cX6_best 86 = .ok (.if_icmp .ge 8, 3) := by decide +kernel
theorem dX6_best_89 : decode cX6_best 89 = .ok (.iload 6, 2) := by decide +kernel
theorem dX6_best_91 : decode cX6_best 91 = .ok (.goto 4, 3) := by decide +kernel
theorem dX6_best_94 : decode cX6_best 94 = .ok (.iload_n 3, 1) := by decide +kernel
theorem dX6_best_95 : decode cX6_best 95 = .ok (.istore_n 3, 1) := by decide +kernel
theorem dX6_best_96 : decode cX6_best 96 = .ok (.iinc 5 1, 3) := by decide +kernel
theorem dX6_best_99 : decode cX6_best 99 = .ok (.goto (-73), 3) := by decide +kernel
theorem dX6_best_102 : decode cX6_best 102 = .ok (.iload_n 1, 1) := by decide +kernel
theorem dX6_best_103 : decode cX6_best 103 = .ok (.ifCond .ne 7, 3) := by decide +kernel
theorem dX6_best_106 : decode cX6_best 106 = .ok (.iload_n 2, 1) := by decide +kernel
theorem dX6_best_107 : decode cX6_best 107 = .ok (.goto 14, 3) := by decide +kernel
theorem dX6_best_110 : decode cX6_best 110 = .ok (.iload_n 1, 1) := by decide +kernel
theorem dX6_best_111 : decode cX6_best 111 = .ok (.iconst 1, 1) := by decide +kernel
theorem dX6_best_112 : decode cX6_best 112 = .ok (.if_icmp .ne 7, 3) := by decide +kernel
theorem dX6_best_115 : decode cX6_best 115 = .ok (.iload_n 3, 1) := by decide +kernel
theorem dX6_best_116 : decode cX6_best 116 = .ok (.goto 5, 3) := by decide +kernel
theorem dX6_best_119 : decode cX6_best 119 = .ok (.iload 4, 2) := by decide +kernel
theorem dX6_best_121 : decode cX6_best 121 = .ok (.ireturn, 1) := by decide +kernel
set_option maxRecDepth 20000 in
theorem ggX6_ifTold_X6_isSet : GoodIn wsX6_ifTold wsX6_isSet := goodIn_r _ [5, 6, 7, 8, 4, 9, 10, 11, 12, 13, 36, 37, 38, 39, 40, 41, 42, 43, 44, 45, 46, 47, 48, 49, 50, 51, 52, 53, 54, 55] (by decide +kernel) (by decide +kernel)
set_option maxRecDepth 20000 in
theorem gX6_ifTold_X6_isSet : GoodIn wsX6_ifTold (wsV RX6 103 RX6 yX6_isSet wsX6_isSet) := goodIn_app (goodIn_of _ (by decide +kernel)) ggX6_ifTold_X6_isSet
set_option maxRecDepth 20000 in
theorem ggX6_ifTold_X6_in : GoodIn wsX6_ifTold wsX6_in := goodIn_r _ [13] (by decide +kernel) (by decide +kernel)
set_option maxRecDepth 20000 in
theorem gX6_ifTold_X6_in : GoodIn wsX6_ifTold (va_wsS RX6 61 yX6_in wsX6_in) := goodIn_app (goodIn_of _ (by decide +kernel)) ggX6_ifTold_X6_in
set_option maxRecDepth 20000 in
theorem ggX6_ifTold_X6_judges : GoodIn wsX6_ifTold wsX6_judges := goodIn_r _ [17, 18, 19, 10, 20, 21, 22, 23, 24, 25, 26, 4, 27, 28, 29, 30, 31, 32, 33, 34, 35, 36, 37, 38, 39, 40, 41, 42, 43, 44, 45, 46, 47, 48, 49, 50, 51, 52, 53, 54, 55] (by decide +kernel) (by decide +kernel)
set_option maxRecDepth 20000 in
theorem gX6_ifTold_X6_judges : GoodIn wsX6_ifTold (wsV RX6 85 RX6 yX6_judges wsX6_judges) := goodIn_app (goodIn_of _ (by decide +kernel)) ggX6_ifTold_X6_judges
set_option maxRecDepth 20000 in
theorem ggX6_ifTold_X6_stateOf : GoodIn wsX6_ifTold wsX6_stateOf := goodIn_r _ [27, 23, 22, 28, 29, 30, 4, 31, 18, 19, 32, 33, 34, 35, 10, 36, 37, 38, 39, 40, 41, 42, 43, 44, 45, 46, 47, 48, 49, 50, 51, 52, 53, 54, 55] (by decide +kernel) (by decide +kernel)
set_option maxRecDepth 20000 in
theorem gX6_ifTold_X6_stateOf : GoodIn wsX6_ifTold (wsV RX6 81 RX6 yX6_stateOf wsX6_stateOf) := goodIn_app (goodIn_of _ (by decide +kernel)) ggX6_ifTold_X6_stateOf
theorem dX6_ifTold_0 : decode cX6_ifTold 0 = .ok (.aload_n 0, 1) := by decide +kernel
theorem dX6_ifTold_1 : decode cX6_ifTold 1 = .ok (.iload_n 1, 1) := by decide +kernel
theorem dX6_ifTold_2 : decode cX6_ifTold 2 = .ok (.invokevirtual 103, 3) := by decide +kernel
theorem dX6_ifTold_5 : decode cX6_ifTold 5 = .ok (.ifCond .eq 13, 3) := by decide +kernel
theorem dX6_ifTold_8 : decode cX6_ifTold 8 = .ok (.iload_n 2, 1) := by decide +kernel
theorem dX6_ifTold_9 : decode cX6_ifTold 9 = .ok (.i2l, 1) := by decide +kernel
theorem dX6_ifTold_10 : decode cX6_ifTold 10 = .ok (.lconst 0, 1) := by decide +kernel
theorem dX6_ifTold_11 : decode cX6_ifTold 11 = .ok (.lconst 1, 1) := by decide +kernel
theorem dX6_ifTold_12 : decode cX6_ifTold 12 = .ok (.invokestatic 61, 3) := by decide +kernel
theorem dX6_ifTold_15 : decode cX6_ifTold 15 = .ok (.ifCond .ne 6, 3) := by decide +kernel
theorem dX6_ifTold_18 : decode cX6_ifTold 18 = .ok (.bipush (-2), 2) := by decide +kernel
theorem dX6_ifTold_20 : decode cX6_ifTold 20 = .ok (.ireturn, 1) := by decide +kernel
theorem dX6_ifTold_21 : decode cX6_ifTold 21 = .ok (.aload_n 0, 1) := by decide +kernel
theorem dX6_ifTold_22 : decode cX6_ifTold 22 = .ok (.invokevirtual 85, 3) := by decide +kernel
theorem dX6_ifTold_25 : decode cX6_ifTold 25 = .ok (.aload_n 0, 1) := by decide +kernel
theorem dX6_ifTold_26 : decode cX6_ifTold 26 = .ok (.iload_n 1, 1) := by decide +kernel
theorem dX6_ifTold_27 : decode cX6_ifTold 27 = .ok (.iload_n 2, 1) := by decide +kernel
theorem dX6_ifTold_28 : decode cX6_ifTold 28 = .ok (.invokevirtual 81, 3) := by decide +kernel
theorem dX6_ifTold_31 : decode cX6_ifTold 31 = .ok (.ireturn, 1) := by decide +kernel
set_option maxRecDepth 20000 in
theorem ggX6_ifDropped_X6_isRule : GoodIn wsX6_ifDropped wsX6_isRule := goodIn_r _ [5, 6, 7, 8, 4, 9, 53, 54, 55, 56, 57, 58, 59, 60, 61, 62, 63, 64, 65, 66, 67, 68, 69, 70, 71, 72] (by decide +kernel) (by decide +kernel)
set_option maxRecDepth 20000 in
theorem gX6_ifDropped_X6_isRule : GoodIn wsX6_ifDropped (wsV RX6 118 RX6 yX6_isRule wsX6_isRule) := goodIn_app (goodIn_of _ (by decide +kernel)) ggX6_ifDropped_X6_isRule
set_option maxRecDepth 20000 in
theorem ggX6_ifDropped_X6_keep : GoodIn wsX6_ifDropped wsX6_keep := goodIn_r _ [13, 14, 6, 53, 54, 55, 56, 57, 58, 59, 60, 61, 62, 63, 64, 65, 66, 67, 68, 69, 70, 71, 72] (by decide +kernel) (by decide +kernel)
set_option maxRecDepth 20000 in
theorem gX6_ifDropped_X6_keep : GoodIn wsX6_ifDropped (wsV RX6 97 RX6 yX6_keep wsX6_keep) := goodIn_app (goodIn_of _ (by decide +kernel)) ggX6_ifDropped_X6_keep
set_option maxRecDepth 20000 in
theorem ggX6_ifDropped_X6_takesOut : GoodIn wsX6_ifDropped wsX6_takesOut := goodIn_r _ [18, 6, 53, 54, 55, 56, 57, 58, 59, 60, 61, 62, 63, 64, 65, 66, 67, 68, 69, 70, 71, 72] (by decide +kernel) (by decide +kernel)
set_option maxRecDepth 20000 in
theorem gX6_ifDropped_X6_takesOut : GoodIn wsX6_ifDropped (wsV RX6 111 RX6 yX6_takesOut wsX6_takesOut) := goodIn_app (goodIn_of _ (by decide +kernel)) ggX6_ifDropped_X6_takesOut
set_option maxRecDepth 20000 in
theorem ggX6_ifDropped_X6_answers : GoodIn wsX6_ifDropped wsX6_answers := goodIn_r _ [22, 6, 23, 24, 25, 4, 26, 27, 28, 29, 30, 31, 32, 33, 34, 35, 36, 37, 38, 39, 40, 41, 42, 43, 44, 45, 46, 47, 48, 53, 54, 55, 56, 57, 58, 59, 60, 61, 62, 63, 64, 65, 66, 67, 68, 69, 70, 71, 72] (by decide +kernel) (by decide +kernel)
set_option maxRecDepth 20000 in
theorem gX6_ifDropped_X6_answers : GoodIn wsX6_ifDropped (wsV RX6 127 RX6 yX6_answers wsX6_answers) := goodIn_app (goodIn_of _ (by decide +kernel)) ggX6_ifDropped_X6_answers
set_option maxRecDepth 20000 in
theorem ggX6_ifDropped_X6_giveBack : GoodIn wsX6_ifDropped wsX6_giveBack := goodIn_r _ [52, 6, 14, 53, 54, 55, 56, 57, 58, 59, 60, 61, 62, 63, 64, 65, 66, 67, 68, 69, 70, 71, 72] (by decide +kernel) (by decide +kernel)
set_option maxRecDepth 20000 in
theorem gX6_ifDropped_X6_giveBack : GoodIn wsX6_ifDropped (wsV RX6 153 RX6 yX6_giveBack wsX6_giveBack) := goodIn_app (goodIn_of _ (by decide +kernel)) ggX6_ifDropped_X6_giveBack
theorem dX6_ifDropped_0 : decode cX6_ifDropped 0 = .ok (.aload_n 0, 1) := by decide +kernel
theorem dX6_ifDropped_1 : decode cX6_ifDropped 1 = .ok (.iload_n 1, 1) := by decide +kernel
theorem dX6_ifDropped_2 : decode cX6_ifDropped 2 = .ok (.invokevirtual 118, 3) := by decide +kernel
theorem dX6_ifDropped_5 : decode cX6_ifDropped 5 = .ok (.ifCond .ne 5, 3) := by decide +kernel
theorem dX6_ifDropped_8 : decode cX6_ifDropped 8 = .ok (.iconst (-1), 1) := by decide +kernel
theorem dX6_ifDropped_9 : decode cX6_ifDropped 9 = .ok (.ireturn, 1) := by decide +kernel
theorem dX6_ifDropped_10 : decode cX6_ifDropped 10 = .ok (.aload_n 0, 1) := by decide +kernel
theorem dX6_ifDropped_11 : decode cX6_ifDropped 11 = .ok (.invokevirtual 97, 3) := by decide +kernel
theorem dX6_ifDropped_14 : decode cX6_ifDropped 14 = .ok (.aload_n 0, 1) := by decide +kernel
theorem dX6_ifDropped_15 : decode cX6_ifDropped 15 = .ok (.iload_n 1, 1) := by decide +kernel
theorem dX6_ifDropped_16 : decode cX6_ifDropped 16 = .ok (.invokevirtual 111, 3) := by decide +kernel
theorem dX6_ifDropped_19 : decode cX6_ifDropped 19 = .ok (.aload_n 0, 1) := by decide +kernel
theorem dX6_ifDropped_20 : decode cX6_ifDropped 20 = .ok (.invokevirtual 127, 3) := by decide +kernel
theorem dX6_ifDropped_23 : decode cX6_ifDropped 23 = .ok (.istore_n 2, 1) := by decide +kernel
theorem dX6_ifDropped_24 : decode cX6_ifDropped 24 = .ok (.aload_n 0, 1) := by decide +kernel
theorem dX6_ifDropped_25 : decode cX6_ifDropped 25 = .ok (.invokevirtual 153, 3) := by decide +kernel
theorem dX6_ifDropped_28 : decode cX6_ifDropped 28 = .ok (.iload_n 2, 1) := by decide +kernel
theorem dX6_ifDropped_29 : decode cX6_ifDropped 29 = .ok (.ireturn, 1) := by decide +kernel
set_option maxRecDepth 20000 in
theorem ggX6_ifMoved_X6_isRule : GoodIn wsX6_ifMoved wsX6_isRule := goodIn_r _ [5, 6, 7, 8, 4, 9, 57, 58, 59, 60, 61, 62, 63, 64, 65, 66, 67, 68, 69, 70, 71, 72, 73, 74, 75, 76] (by decide +kernel) (by decide +kernel)
set_option maxRecDepth 20000 in
theorem gX6_ifMoved_X6_isRule : GoodIn wsX6_ifMoved (wsV RX6 118 RX6 yX6_isRule wsX6_isRule) := goodIn_app (goodIn_of _ (by decide +kernel)) ggX6_ifMoved_X6_isRule
set_option maxRecDepth 20000 in
theorem ggX6_ifMoved_X6_keep : GoodIn wsX6_ifMoved wsX6_keep := goodIn_r _ [13, 14, 6, 57, 58, 59, 60, 61, 62, 63, 64, 65, 66, 67, 68, 69, 70, 71, 72, 73, 74, 75, 76] (by decide +kernel) (by decide +kernel)
set_option maxRecDepth 20000 in
theorem gX6_ifMoved_X6_keep : GoodIn wsX6_ifMoved (wsV RX6 97 RX6 yX6_keep wsX6_keep) := goodIn_app (goodIn_of _ (by decide +kernel)) ggX6_ifMoved_X6_keep
set_option maxRecDepth 20000 in
theorem ggX6_ifMoved_X6_moves : GoodIn wsX6_ifMoved wsX6_moves := goodIn_r _ [18, 6, 19, 20, 21, 4, 22, 23, 24, 25, 26, 57, 58, 59, 60, 61, 62, 63, 64, 65, 66, 67, 68, 69, 70, 71, 72, 73, 74, 75, 76] (by decide +kernel) (by decide +kernel)
set_option maxRecDepth 20000 in
theorem gX6_ifMoved_X6_moves : GoodIn wsX6_ifMoved (wsV RX6 121 RX6 yX6_moves wsX6_moves) := goodIn_app (goodIn_of _ (by decide +kernel)) ggX6_ifMoved_X6_moves
set_option maxRecDepth 20000 in
theorem ggX6_ifMoved_X6_rulesIn : GoodIn wsX6_ifMoved wsX6_rulesIn := goodIn_r _ [30, 6, 31, 32, 33, 34, 4, 35, 36, 37, 38, 39, 40, 41, 42, 43, 44, 45, 46, 47, 48, 49, 50, 51, 52, 57, 58, 59, 60, 61, 62, 63, 64, 65, 66, 67, 68, 69, 70, 71, 72, 73, 74, 75, 76] (by decide +kernel) (by decide +kernel)
set_option maxRecDepth 20000 in
theorem gX6_ifMoved_X6_rulesIn : GoodIn wsX6_ifMoved (wsV RX6 88 RX6 yX6_rulesIn wsX6_rulesIn) := goodIn_app (goodIn_of _ (by decide +kernel)) ggX6_ifMoved_X6_rulesIn
set_option maxRecDepth 20000 in
theorem ggX6_ifMoved_X6_giveBack : GoodIn wsX6_ifMoved wsX6_giveBack := goodIn_r _ [56, 6, 14, 57, 58, 59, 60, 61, 62, 63, 64, 65, 66, 67, 68, 69, 70, 71, 72, 73, 74, 75, 76] (by decide +kernel) (by decide +kernel)
set_option maxRecDepth 20000 in
theorem gX6_ifMoved_X6_giveBack : GoodIn wsX6_ifMoved (wsV RX6 153 RX6 yX6_giveBack wsX6_giveBack) := goodIn_app (goodIn_of _ (by decide +kernel)) ggX6_ifMoved_X6_giveBack
theorem dX6_ifMoved_0 : decode cX6_ifMoved 0 = .ok (.aload_n 0, 1) := by decide +kernel
theorem dX6_ifMoved_1 : decode cX6_ifMoved 1 = .ok (.iload_n 1, 1) := by decide +kernel
theorem dX6_ifMoved_2 : decode cX6_ifMoved 2 = .ok (.invokevirtual 118, 3) := by decide +kernel
theorem dX6_ifMoved_5 : decode cX6_ifMoved 5 = .ok (.ifCond .eq 11, 3) := by decide +kernel
theorem dX6_ifMoved_8 : decode cX6_ifMoved 8 = .ok (.aload_n 0, 1) := by decide +kernel
theorem dX6_ifMoved_9 : decode cX6_ifMoved 9 = .ok (.iload_n 2, 1) := by decide +kernel
theorem dX6_ifMoved_10 : decode cX6_ifMoved 10 = .ok (.invokevirtual 118, 3) := by decide +kernel
theorem dX6_ifMoved_13 : decode cX6_ifMoved 13 = .ok (.ifCond .ne 5, 3) := by decide +kernel
theorem dX6_ifMoved_16 : decode cX6_ifMoved 16 = .ok (.iconst (-1), 1) := by decide +kernel
theorem dX6_ifMoved_17 : decode cX6_ifMoved 17 = .ok (.ireturn, 1) := by decide +kernel
theorem dX6_ifMoved_18 : decode cX6_ifMoved 18 = .ok (.aload_n 0, 1) := by decide +kernel
theorem dX6_ifMoved_19 : decode cX6_ifMoved 19 = .ok (.invokevirtual 97, 3) := by decide +kernel
theorem dX6_ifMoved_22 : decode cX6_ifMoved 22 = .ok (.aload_n 0, 1) := by decide +kernel
theorem dX6_ifMoved_23 : decode cX6_ifMoved 23 = .ok (.iload_n 1, 1) := by decide +kernel
theorem dX6_ifMoved_24 : decode cX6_ifMoved 24 = .ok (.iload_n 2, 1) := by decide +kernel
theorem dX6_ifMoved_25 : decode cX6_ifMoved 25 = .ok (.invokevirtual 121, 3) := by decide +kernel
theorem dX6_ifMoved_28 : decode cX6_ifMoved 28 = .ok (.aload_n 0, 1) := by decide +kernel
theorem dX6_ifMoved_29 : decode cX6_ifMoved 29 = .ok (.iconst 2, 1) := by decide +kernel
theorem dX6_ifMoved_30 : decode cX6_ifMoved 30 = .ok (.invokevirtual 88, 3) := by decide +kernel
theorem dX6_ifMoved_33 : decode cX6_ifMoved 33 = .ok (.istore_n 3, 1) := by decide +kernel
theorem dX6_ifMoved_34 : decode cX6_ifMoved 34 = .ok (.aload_n 0, 1) := by decide +kernel
theorem dX6_ifMoved_35 : decode cX6_ifMoved 35 = .ok (.invokevirtual 153, 3) := by decide +kernel
theorem dX6_ifMoved_38 : decode cX6_ifMoved 38 = .ok (.iload_n 3, 1) := by decide +kernel
theorem dX6_ifMoved_39 : decode cX6_ifMoved 39 = .ok (.ireturn, 1) := by decide +kernel
set_option maxRecDepth 20000 in
theorem ggX6_put_X6_in : GoodIn wsX6_put wsX6_in := goodIn_r _ [9] (by decide +kernel) (by decide +kernel)
set_option maxRecDepth 20000 in
theorem gX6_put_X6_in : GoodIn wsX6_put (va_wsS RX6 61 yX6_in wsX6_in) := goodIn_app (goodIn_of _ (by decide +kernel)) ggX6_put_X6_in
theorem dX6_put_0 : decode cX6_put 0 = .ok (.iconst 0, 1) := by decide +kernel
theorem dX6_put_1 : decode cX6_put 1 = .ok (.istore_n 3, 1) := by decide +kernel
theorem dX6_put_2 : decode cX6_put 2 = .ok (.iconst 1, 1) := by decide +kernel
theorem dX6_put_3 : decode cX6_put 3 = .ok (.istore 4, 2) := by decide +kernel
theorem dX6_put_5 : decode cX6_put 5 = .ok (.lload_n 1, 1) := by decide +kernel
theorem dX6_put_6 : decode cX6_put 6 = .ok (.lstore 5, 2) := by decide +kernel
theorem dX6_put_8 : decode cX6_put 8 = .ok (.iload_n 3, 1) := by decide +kernel
theorem dX6_put_9 : decode cX6_put 9 = .ok (.bipush 8, 2) := by decide +kernel
theorem dX6_put_11 : decode cX6_put 11 = .ok (.if_icmp .ge 57, 3) := by decide +kernel
theorem dX6_put_14 : decode cX6_put 14 = .ok (.lload 5, 2) := by decide +kernel
theorem dX6_put_16 : decode cX6_put 16 = .ok (.ldc2_w 156, 3) := by decide +kernel
theorem dX6_put_19 : decode cX6_put 19 = .ok (.land, 1) := by decide +kernel
theorem dX6_put_20 : decode cX6_put 20 = .ok (.lconst 0, 1) := by decide +kernel
theorem dX6_put_21 : decode cX6_put 21 = .ok (.lcmp, 1) := by decide +kernel
theorem dX6_put_22 : decode cX6_put 22 = .ok (.ifCond .eq 46, 3) := by decide +kernel
theorem dX6_put_25 : decode cX6_put 25 = .ok (.iload 4, 2) := by decide +kernel
theorem dX6_put_27 : decode cX6_put 27 = .ok (.ifCond .eq 25, 3) := by decide +kernel
theorem dX6_put_30 : decode cX6_put 30 = .ok (.lload 5, 2) := by decide +kernel
theorem dX6_put_32 : decode cX6_put 32 = .ok (.ldc2_w 156, 3) := by decide +kernel
theorem dX6_put_35 : decode cX6_put 35 = .ok (.land, 1) := by decide +kernel
theorem dX6_put_36 : decode cX6_put 36 = .ok (.ldc2_w 158, 3) := by decide +kernel
theorem dX6_put_39 : decode cX6_put 39 = .ok (.ldc2_w 160, 3) := by decide +kernel
theorem dX6_put_42 : decode cX6_put 42 = .ok (.invokestatic 61, 3) := by decide +kernel
theorem dX6_put_45 : decode cX6_put 45 = .ok (.ifCond .eq 7, 3) := by decide +kernel
theorem dX6_put_48 : decode cX6_put 48 = .ok (.iconst 1, 1) := by decide +kernel
theorem dX6_put_49 : decode cX6_put 49 = .ok (.goto 4, 3) := by decide +kernel
theorem dX6_put_52 : decode cX6_put 52 = .ok (.iconst 0, 1) := by decide +kernel
theorem dX6_put_53 : decode cX6_put 53 = .ok (.istore 4, 2) := by decide +kernel
theorem dX6_put_55 : decode cX6_put 55 = .ok (.lload 5, 2) := by decide +kernel
theorem dX6_put_57 : decode cX6_put 57 = .ok (.bipush 8, 2) := by decide +kernel
theorem dX6_put_59 : decode cX6_put 59 = .ok (.lushr, 1) := by decide +kernel
theorem dX6_put_60 : decode cX6_put 60 = .ok (.lstore 5, 2) := by decide +kernel
theorem dX6_put_62 : decode cX6_put 62 = .ok (.iinc 3 1, 3) := by decide +kernel
theorem dX6_put_65 : decode cX6_put 65 = .ok (.goto (-57), 3) := by decide +kernel
theorem dX6_put_68 : decode cX6_put 68 = .ok (.iload_n 3, 1) := by decide +kernel
theorem dX6_put_69 : decode cX6_put 69 = .ok (.ifCond .eq 15, 3) := by decide +kernel
theorem dX6_put_72 : decode cX6_put 72 = .ok (.lload 5, 2) := by decide +kernel
theorem dX6_put_74 : decode cX6_put 74 = .ok (.lconst 0, 1) := by decide +kernel
theorem dX6_put_75 : decode cX6_put 75 = .ok (.lcmp, 1) := by decide +kernel
theorem dX6_put_76 : decode cX6_put 76 = .ok (.ifCond .ne 8, 3) := by decide +kernel
theorem dX6_put_79 : decode cX6_put 79 = .ok (.iload 4, 2) := by decide +kernel
theorem dX6_put_81 : decode cX6_put 81 = .ok (.ifCond .ne 6, 3) := by decide +kernel
theorem dX6_put_84 : decode cX6_put 84 = .ok (.bipush (-2), 2) := by decide +kernel
theorem dX6_put_86 : decode cX6_put 86 = .ok (.ireturn, 1) := by decide +kernel
theorem dX6_put_87 : decode cX6_put 87 = .ok (.aload_n 0, 1) := by decide +kernel
theorem dX6_put_88 : decode cX6_put 88 = .ok (.getfield 142, 3) := by decide +kernel
theorem dX6_put_91 : decode cX6_put 91 = .ok (.iload_n 3, 1) := by decide +kernel
theorem dX6_put_92 : decode cX6_put 92 = .ok (.iadd, 1) := by decide +kernel
theorem dX6_put_93 : decode cX6_put 93 = .ok (.bipush 80, 2) := by decide +kernel
theorem dX6_put_95 : decode cX6_put 95 = .ok (.if_icmp .le 6, 3) := by decide +kernel
theorem dX6_put_98 : decode cX6_put 98 = .ok (.bipush (-4), 2) := by decide +kernel
theorem dX6_put_100 : decode cX6_put 100 = .ok (.ireturn, 1) := by decide +kernel
theorem dX6_put_101 : decode cX6_put 101 = .ok (.iload_n 3, 1) := by decide +kernel
theorem dX6_put_102 : decode cX6_put 102 = .ok (.iconst 1, 1) := by decide +kernel
theorem dX6_put_103 : decode cX6_put 103 = .ok (.isub, 1) := by decide +kernel
theorem dX6_put_104 : decode cX6_put 104 = .ok (.istore 7, 2) := by decide +kernel
theorem dX6_put_106 : decode cX6_put 106 = .ok (.iload 7, 2) := by decide +kernel
theorem dX6_put_108 : decode cX6_put 108 = .ok (.ifCond .lt 40, 3) := by decide +kernel
theorem dX6_put_111 : decode cX6_put 111 = .ok (.aload_n 0, 1) := by decide +kernel
theorem dX6_put_112 : decode cX6_put 112 = .ok (.getfield 40, 3) := by decide +kernel
theorem dX6_put_115 : decode cX6_put 115 = .ok (.aload_n 0, 1) := by decide +kernel
theorem dX6_put_116 : decode cX6_put 116 = .ok (.getfield 142, 3) := by decide +kernel
theorem dX6_put_119 : decode cX6_put 119 = .ok (.lload_n 1, 1) := by decide +kernel
theorem dX6_put_120 : decode cX6_put 120 = .ok (.bipush 8, 2) := by decide +kernel
theorem dX6_put_122 : decode cX6_put 122 = .ok (.iload 7, 2) := by decide +kernel
theorem dX6_put_124 : decode cX6_put 124 = .ok (.imul, 1) := by decide +kernel
theorem dX6_put_125 : decode cX6_put 125 = .ok (.lushr, 1) := by decide +kernel
theorem dX6_put_126 : decode cX6_put 126 = .ok (.ldc2_w 156, 3) := by decide +kernel
theorem dX6_put_129 : decode cX6_put 129 = .ok (.land, 1) := by decide +kernel
theorem dX6_put_130 : decode cX6_put 130 = .ok (.l2i, 1) := by decide +kernel
theorem dX6_put_131 : decode cX6_put 131 = .ok (.iastore, 1) := by decide +kernel
theorem dX6_put_132 : decode cX6_put 132 = .ok (.aload_n 0, 1) := by decide +kernel
theorem dX6_put_133 : decode cX6_put 133 = .ok (.dup, 1) := by decide +kernel
theorem dX6_put_134 : decode cX6_put 134 = .ok (.getfield 142, 3) := by decide +kernel
theorem dX6_put_137 : decode cX6_put 137 = .ok (.iconst 1, 1) := by decide +kernel
theorem dX6_put_138 : decode cX6_put 138 = .ok (.iadd, 1) := by decide +kernel
theorem dX6_put_139 : decode cX6_put 139 = .ok (.putfield 142, 3) := by decide +kernel
theorem dX6_put_142 : decode cX6_put 142 = .ok (.iinc 7 (-1), 3) := by decide +kernel
theorem dX6_put_145 : decode cX6_put 145 = .ok (.goto (-39), 3) := by decide +kernel
theorem dX6_put_148 : decode cX6_put 148 = .ok (.aload_n 0, 1) := by decide +kernel
theorem dX6_put_149 : decode cX6_put 149 = .ok (.getfield 142, 3) := by decide +kernel
theorem dX6_put_152 : decode cX6_put 152 = .ok (.ireturn, 1) := by decide +kernel
theorem dX6_wipe_0 : decode cX6_wipe 0 = .ok (.aload_n 0, 1) := by decide +kernel
theorem dX6_wipe_1 : decode cX6_wipe 1 = .ok (.getfield 142, 3) := by decide +kernel
theorem dX6_wipe_4 : decode cX6_wipe 4 = .ok (.istore_n 1, 1) := by decide +kernel
theorem dX6_wipe_5 : decode cX6_wipe 5 = .ok (.aload_n 0, 1) := by decide +kernel
theorem dX6_wipe_6 : decode cX6_wipe 6 = .ok (.iconst 0, 1) := by decide +kernel
theorem dX6_wipe_7 : decode cX6_wipe 7 = .ok (.putfield 142, 3) := by decide +kernel
theorem dX6_wipe_10 : decode cX6_wipe 10 = .ok (.iload_n 1, 1) := by decide +kernel
theorem dX6_wipe_11 : decode cX6_wipe 11 = .ok (.ireturn, 1) := by decide +kernel
set_option maxRecDepth 20000 in
theorem ggX6_isHere_X6_in : GoodIn wsX6_isHere wsX6_in := goodIn_r _ [7] (by decide +kernel) (by decide +kernel)
set_option maxRecDepth 20000 in
theorem gX6_isHere_X6_in : GoodIn wsX6_isHere (va_wsS RX6 61 yX6_in wsX6_in) := goodIn_app (goodIn_of _ (by decide +kernel)) ggX6_isHere_X6_in
theorem dX6_isHere_0 : decode cX6_isHere 0 = .ok (.aload_n 0, 1) := by decide +kernel
theorem dX6_isHere_1 : decode cX6_isHere 1 = .ok (.getfield 162, 3) := by decide +kernel
theorem dX6_isHere_4 : decode cX6_isHere 4 = .ok (.aload_n 0, 1) := by decide +kernel
theorem dX6_isHere_5 : decode cX6_isHere 5 = .ok (.getfield 142, 3) := by decide +kernel
theorem dX6_isHere_8 : decode cX6_isHere 8 = .ok (.if_icmp .ge 27, 3) := by decide +kernel
theorem dX6_isHere_11 : decode cX6_isHere 11 = .ok (.aload_n 0, 1) := by decide +kernel
theorem dX6_isHere_12 : decode cX6_isHere 12 = .ok (.getfield 40, 3) := by decide +kernel
theorem dX6_isHere_15 : decode cX6_isHere 15 = .ok (.aload_n 0, 1) := by decide +kernel
theorem dX6_isHere_16 : decode cX6_isHere 16 = .ok (.getfield 162, 3) := by decide +kernel
theorem dX6_isHere_19 : decode cX6_isHere 19 = .ok (.iaload, 1) := by decide +kernel
theorem dX6_isHere_20 : decode cX6_isHere 20 = .ok (.i2l, 1) := by decide +kernel
theorem dX6_isHere_21 : decode cX6_isHere 21 = .ok (.iload_n 1, 1) := by decide +kernel
theorem dX6_isHere_22 : decode cX6_isHere 22 = .ok (.i2l, 1) := by decide +kernel
theorem dX6_isHere_23 : decode cX6_isHere 23 = .ok (.iload_n 2, 1) := by decide +kernel
theorem dX6_isHere_24 : decode cX6_isHere 24 = .ok (.i2l, 1) := by decide +kernel
theorem dX6_isHere_25 : decode cX6_isHere 25 = .ok (.invokestatic 61, 3) := by decide +kernel
theorem dX6_isHere_28 : decode cX6_isHere 28 = .ok (.ifCond .eq 7, 3) := by decide +kernel
theorem dX6_isHere_31 : decode cX6_isHere 31 = .ok (.iconst 1, 1) := by decide +kernel
theorem dX6_isHere_32 : decode cX6_isHere 32 = .ok (.goto 4, 3) := by decide +kernel
theorem dX6_isHere_35 : decode cX6_isHere 35 = .ok (.iconst 0, 1) := by decide +kernel
theorem dX6_isHere_36 : decode cX6_isHere 36 = .ok (.ireturn, 1) := by decide +kernel
set_option maxRecDepth 20000 in
theorem ggX6_takes_X6_isHere : GoodIn wsX6_takes wsX6_isHere := goodIn_r _ [6, 1, 7, 8, 9, 10, 5, 11, 12, 13, 14, 15, 16, 17, 18, 19, 20, 21, 22, 23, 24, 25, 26, 27, 28, 29, 30, 31] (by decide +kernel) (by decide +kernel)
set_option maxRecDepth 20000 in
theorem gX6_takes_X6_isHere : GoodIn wsX6_takes (wsV RX6 165 RX6 yX6_isHere wsX6_isHere) := goodIn_app (goodIn_of _ (by decide +kernel)) ggX6_takes_X6_isHere
theorem dX6_takes_0 : decode cX6_takes 0 = .ok (.aload_n 0, 1) := by decide +kernel
theorem dX6_takes_1 : decode cX6_takes 1 = .ok (.iload_n 1, 1) := by decide +kernel
theorem dX6_takes_2 : decode cX6_takes 2 = .ok (.iload_n 1, 1) := by decide +kernel
theorem dX6_takes_3 : decode cX6_takes 3 = .ok (.invokevirtual 165, 3) := by decide +kernel
theorem dX6_takes_6 : decode cX6_takes 6 = .ok (.istore_n 2, 1) := by decide +kernel
theorem dX6_takes_7 : decode cX6_takes 7 = .ok (.aload_n 0, 1) := by decide +kernel
theorem dX6_takes_8 : decode cX6_takes 8 = .ok (.dup, 1) := by decide +kernel
theorem dX6_takes_9 : decode cX6_takes 9 = .ok (.getfield 162, 3) := by decide +kernel
theorem dX6_takes_12 : decode cX6_takes 12 = .ok (.iload_n 2, 1) := by decide +kernel
theorem dX6_takes_13 : decode cX6_takes 13 = .ok (.ifCond .eq 7, 3) := by decide +kernel
theorem dX6_takes_16 : decode cX6_takes 16 = .ok (.iconst 1, 1) := by decide +kernel
theorem dX6_takes_17 : decode cX6_takes 17 = .ok (.goto 4, 3) := by decide +kernel
theorem dX6_takes_20 : decode cX6_takes 20 = .ok (.iconst 0, 1) := by decide +kernel
theorem dX6_takes_21 : decode cX6_takes 21 = .ok (.iadd, 1) := by decide +kernel
theorem dX6_takes_22 : decode cX6_takes 22 = .ok (.putfield 162, 3) := by decide +kernel
theorem dX6_takes_25 : decode cX6_takes 25 = .ok (.iload_n 2, 1) := by decide +kernel
theorem dX6_takes_26 : decode cX6_takes 26 = .ok (.ireturn, 1) := by decide +kernel
set_option maxRecDepth 20000 in
theorem ggX6_readsChoice_X6_isHere : GoodIn wsX6_readsChoice wsX6_isHere := goodIn_r _ [8, 2, 9, 1, 10, 11, 7, 12, 13, 14, 15, 16, 17, 18, 19, 20, 21, 22, 23, 24, 25, 26, 27, 28, 29, 30, 31, 32] (by decide +kernel) (by decide +kernel)
set_option maxRecDepth 20000 in
theorem gX6_readsChoice_X6_isHere : GoodIn wsX6_readsChoice (wsV RX6 165 RX6 yX6_isHere wsX6_isHere) := goodIn_app (goodIn_of _ (by decide +kernel)) ggX6_readsChoice_X6_isHere
theorem dX6_readsChoice_0 : decode cX6_readsChoice 0 = .ok (.aload_n 0, 1) := by decide +kernel
theorem dX6_readsChoice_1 : decode cX6_readsChoice 1 = .ok (.bipush 48, 2) := by decide +kernel
theorem dX6_readsChoice_3 : decode cX6_readsChoice 3 = .ok (.bipush 57, 2) := by decide +kernel
theorem dX6_readsChoice_5 : decode cX6_readsChoice 5 = .ok (.invokevirtual 165, 3) := by decide +kernel
theorem dX6_readsChoice_8 : decode cX6_readsChoice 8 = .ok (.ifCond .ne 5, 3) := by decide +kernel
theorem dX6_readsChoice_11 : decode cX6_readsChoice 11 = .ok (.iconst 0, 1) := by decide +kernel
theorem dX6_readsChoice_12 : decode cX6_readsChoice 12 = .ok (.ireturn, 1) := by decide +kernel
theorem dX6_readsChoice_13 : decode cX6_readsChoice 13 = .ok (.aload_n 0, 1) := by decide +kernel
theorem dX6_readsChoice_14 : decode cX6_readsChoice 14 = .ok (.getfield 40, 3) := by decide +kernel
theorem dX6_readsChoice_17 : decode cX6_readsChoice 17 = .ok (.aload_n 0, 1) := by decide +kernel
theorem dX6_readsChoice_18 : decode cX6_readsChoice 18 = .ok (.getfield 162, 3) := by decide +kernel
theorem dX6_readsChoice_21 : decode cX6_readsChoice 21 = .ok (.iaload, 1) := by decide +kernel
theorem dX6_readsChoice_22 : decode cX6_readsChoice 22 = .ok (.bipush 48, 2) := by decide +kernel
theorem dX6_readsChoice_24 : decode cX6_readsChoice 24 = .ok (.isub, 1) := by decide +kernel
theorem dX6_readsChoice_25 : decode cX6_readsChoice 25 = .ok (.istore_n 1, 1) := by decide +kernel
theorem dX6_readsChoice_26 : decode cX6_readsChoice 26 = .ok (.iload_n 1, 1) := by decide +kernel
theorem dX6_readsChoice_27 : decode cX6_readsChoice 27 = .ok (.iconst 1, 1) := by decide +kernel
theorem dX6_readsChoice_28 : decode cX6_readsChoice 28 = .ok (.if_icmp .ne 16, 3) := by decide +kernel
theorem dX6_readsChoice_31 : decode cX6_readsChoice 31 = .ok (.aload_n 0, 1) := by decide +kernel
theorem dX6_readsChoice_32 : decode cX6_readsChoice 32 = .ok (.getfield 168, 3) := by decide +kernel
theorem dX6_readsChoice_35 : decode cX6_readsChoice 35 = .ok (.bipush 11, 2) := by decide +kernel
theorem dX6_readsChoice_37 : decode cX6_readsChoice 37 = .ok (.if_icmp .ge 7, 3) := by decide +kernel
theorem dX6_readsChoice_40 : decode cX6_readsChoice 40 = .ok (.iconst 1, 1) := by decide +kernel
theorem dX6_readsChoice_41 : decode cX6_readsChoice 41 = .ok (.goto 4, 3) := by decide +kernel
theorem dX6_readsChoice_44 : decode cX6_readsChoice 44 = .ok (.iconst 0, 1) := by decide +kernel
theorem dX6_readsChoice_45 : decode cX6_readsChoice 45 = .ok (.istore_n 2, 1) := by decide +kernel
theorem dX6_readsChoice_46 : decode cX6_readsChoice 46 = .ok (.iload_n 1, 1) := by decide +kernel
theorem dX6_readsChoice_47 : decode cX6_readsChoice 47 = .ok (.aload_n 0, 1) := by decide +kernel
theorem dX6_readsChoice_48 : decode cX6_readsChoice 48 = .ok (.getfield 168, 3) := by decide +kernel
theorem dX6_readsChoice_51 : decode cX6_readsChoice 51 = .ok (.if_icmp .gt 9, 3) := by decide +kernel
theorem dX6_readsChoice_54 : decode cX6_readsChoice 54 = .ok (.iload_n 2, 1) := by decide +kernel
theorem dX6_readsChoice_55 : decode cX6_readsChoice 55 = .ok (.ifCond .ne 5, 3) := by decide +kernel
theorem dX6_readsChoice_58 : decode cX6_readsChoice 58 = .ok (.iconst 0, 1) := by decide +kernel
theorem dX6_readsChoice_59 : decode cX6_readsChoice 59 = .ok (.ireturn, 1) := by decide +kernel
theorem dX6_readsChoice_60 : decode cX6_readsChoice 60 = .ok (.aload_n 0, 1) := by decide +kernel
theorem dX6_readsChoice_61 : decode cX6_readsChoice 61 = .ok (.dup, 1) := by decide +kernel
theorem dX6_readsChoice_62 : decode cX6_readsChoice 62 = .ok (.getfield 162, 3) := by decide +kernel
theorem dX6_readsChoice_65 : decode cX6_readsChoice 65 = .ok (.iconst 1, 1) := by decide +kernel
theorem dX6_readsChoice_66 : decode cX6_readsChoice 66 = .ok (.iadd, 1) := by decide +kernel
theorem dX6_readsChoice_67 : decode cX6_readsChoice 67 = .ok (.putfield 162, 3) := by decide +kernel
theorem dX6_readsChoice_70 : decode cX6_readsChoice 70 = .ok (.iload_n 2, 1) := by decide +kernel
theorem dX6_readsChoice_71 : decode cX6_readsChoice 71 = .ok (.ifCond .eq 67, 3) := by decide +kernel
theorem dX6_readsChoice_74 : decode cX6_readsChoice 74 = .ok (.aload_n 0, 1) := by decide +kernel
theorem dX6_readsChoice_75 : decode cX6_readsChoice 75 = .ok (.bipush 48, 2) := by decide +kernel
theorem dX6_readsChoice_77 : decode cX6_readsChoice 77 = .ok (.bipush 49, 2) := by decide +kernel
theorem dX6_readsChoice_79 : decode cX6_readsChoice 79 = .ok (.invokevirtual 165, 3) := by decide +kernel
theorem dX6_readsChoice_82 : decode cX6_readsChoice 82 = .ok (.ifCond .eq 56, 3) := by decide +kernel
theorem dX6_readsChoice_85 : decode cX6_readsChoice 85 = .ok (.bipush 10, 2) := by decide +kernel
theorem dX6_readsChoice_87 : decode cX6_readsChoice 87 = .ok (.aload_n 0, 1) := by decide +kernel
theorem dX6_readsChoice_88 : decode cX6_readsChoice 88 = .ok (.getfield 40, 3) := by decide +kernel
theorem dX6_readsChoice_91 : decode cX6_readsChoice 91 = .ok (.aload_n 0, 1) := by decide +kernel
theorem dX6_readsChoice_92 : decode cX6_readsChoice 92 = .ok (.getfield 162, 3) := by decide +kernel
theorem dX6_readsChoice_95 : decode cX6_readsChoice 95 = .ok (.iaload, 1) := by decide +kernel
theorem dX6_readsChoice_96 : decode cX6_readsChoice 96 = .ok (.iadd, 1) := by decide +kernel
theorem dX6_readsChoice_97 : decode cX6_readsChoice 97 = .ok (.bipush 48, 2) := by decide +kernel
theorem dX6_readsChoice_99 : decode cX6_readsChoice 99 = .ok (.isub, 1) := by decide +kernel
theorem dX6_readsChoice_100 : decode cX6_readsChoice 100 = .ok (.aload_n 0, 1) := by decide +kernel
theorem dX6_readsChoice_101 : decode cX6_readsChoice 101 = .ok (.getfield 168, 3) := by decide +kernel
theorem dX6_readsChoice_104 : decode cX6_readsChoice 104 = .ok (.if_icmp .le 34, 3) := by decide +kernel
theorem dX6_readsChoice_107 : decode cX6_readsChoice 107 = .ok (.aload_n 0, 1) := by decide +kernel
theorem dX6_readsChoice_108 : decode cX6_readsChoice 108 = .ok (.bipush 10, 2) := by decide +kernel
theorem dX6_readsChoice_110 : decode cX6_readsChoice 110 = .ok (.aload_n 0, 1) := by decide +kernel
theorem dX6_readsChoice_111 : decode cX6_readsChoice 111 = .ok (.getfield 40, 3) := by decide +kernel
theorem dX6_readsChoice_114 : decode cX6_readsChoice 114 = .ok (.aload_n 0, 1) := by decide +kernel
theorem dX6_readsChoice_115 : decode cX6_readsChoice 115 = .ok (.getfield 162, 3) := by decide +kernel
theorem dX6_readsChoice_118 : decode cX6_readsChoice 118 = .ok (.iaload, 1) := by decide +kernel
theorem dX6_readsChoice_119 : decode cX6_readsChoice 119 = .ok (.iadd, 1) := by decide +kernel
theorem dX6_readsChoice_120 : decode cX6_readsChoice 120 = .ok (.bipush 48, 2) := by decide +kernel
theorem dX6_readsChoice_122 : decode cX6_readsChoice 122 = .ok (.isub, 1) := by decide +kernel
theorem dX6_readsChoice_123 : decode cX6_readsChoice 123 = .ok (.putfield 168, 3) := by decide +kernel
theorem dX6_readsChoice_126 : decode cX6_readsChoice 126 = .ok (.aload_n 0, 1) := by decide +kernel
theorem dX6_readsChoice_127 : decode cX6_readsChoice 127 = .ok (.dup, 1) := by decide +kernel
theorem dX6_readsChoice_128 : decode cX6_readsChoice 128 = .ok (.getfield 162, 3) := by decide +kernel
theorem dX6_readsChoice_131 : decode cX6_readsChoice 131 = .ok (.iconst 1, 1) := by decide +kernel
theorem dX6_readsChoice_132 : decode cX6_readsChoice 132 = .ok (.iadd, 1) := by decide +kernel
theorem dX6_readsChoice_133 : decode cX6_readsChoice 133 = .ok (.putfield 162, 3) := by decide +kernel
theorem dX6_readsChoice_136 : decode cX6_readsChoice 136 = .ok (.iconst 1, 1) := by decide +kernel
theorem dX6_readsChoice_137 : decode cX6_readsChoice 137 = .ok (.ireturn, 1) := by decide +kernel
theorem dX6_readsChoice_138 : decode cX6_readsChoice 138 = .ok (.iload_n 1, 1) := by decide +kernel
theorem dX6_readsChoice_139 : decode cX6_readsChoice 139 = .ok (.aload_n 0, 1) := by decide +kernel
theorem dX6_readsChoice_140 : decode cX6_readsChoice 140 = .ok (.getfield 168, 3) := by decide +kernel
theorem dX6_readsChoice_143 : decode cX6_readsChoice 143 = .ok (.if_icmp .le 7, 3) := by decide +kernel
theorem dX6_readsChoice_146 : decode cX6_readsChoice 146 = .ok (.iconst 1, 1) := by decide +kernel
theorem dX6_readsChoice_147 : decode cX6_readsChoice 147 = .ok (.goto 4, 3) := by decide +kernel
theorem dX6_readsChoice_150 : decode cX6_readsChoice 150 = .ok (.iconst 0, 1) := by decide +kernel
theorem dX6_readsChoice_151 : decode cX6_readsChoice 151 = .ok (.istore_n 3, 1) := by decide +kernel
theorem dX6_readsChoice_152 : decode cX6_readsChoice 152 = .ok (.aload_n 0, 1) := by decide +kernel
theorem dX6_readsChoice_153 : decode cX6_readsChoice 153 = .ok (.iload_n 1, 1) := by decide +kernel
theorem dX6_readsChoice_154 : decode cX6_readsChoice 154 = .ok (.putfield 168, 3) := by decide +kernel
theorem dX6_readsChoice_157 : decode cX6_readsChoice 157 = .ok (.iload_n 3, 1) := by decide +kernel
theorem dX6_readsChoice_158 : decode cX6_readsChoice 158 = .ok (.ireturn, 1) := by decide +kernel
set_option maxRecDepth 20000 in
theorem ggX6_readsRule_X6_readsChoice : GoodIn wsX6_readsRule wsX6_readsChoice := goodIn_r _ [11, 5, 6, 1, 12, 13, 14, 10, 15, 16, 17, 18, 19, 24, 25, 26, 27, 28, 29, 30, 31, 32, 33, 34, 35, 36, 37, 38, 39, 40, 41, 42, 43] (by decide +kernel) (by decide +kernel)
set_option maxRecDepth 20000 in
theorem gX6_readsRule_X6_readsChoice : GoodIn wsX6_readsRule (wsV RX6 171 RX6 yX6_readsChoice wsX6_readsChoice) := goodIn_app (goodIn_of _ (by decide +kernel)) ggX6_readsRule_X6_readsChoice
set_option maxRecDepth 20000 in
theorem ggX6_readsRule_X6_takes : GoodIn wsX6_readsRule wsX6_takes := goodIn_r _ [23, 6, 12, 13, 14, 10, 15, 16, 5, 17, 18, 19, 24, 25, 26, 27, 28, 29, 30, 31, 32, 33, 34, 35, 36, 37, 38, 39, 40, 41, 42, 43] (by decide +kernel) (by decide +kernel)
set_option maxRecDepth 20000 in
theorem gX6_readsRule_X6_takes : GoodIn wsX6_readsRule (wsV RX6 175 RX6 yX6_takes wsX6_takes) := goodIn_app (goodIn_of _ (by decide +kernel)) ggX6_readsRule_X6_takes
set_option maxRecDepth 20000 in
theorem ggX6_readsRule_X6_isHere : GoodIn wsX6_readsRule wsX6_isHere := goodIn_r _ [15, 6, 16, 5, 17, 18, 10, 19, 24, 25, 26, 27, 28, 29, 30, 31, 32, 33, 34, 35, 36, 37, 38, 39, 40, 41, 42, 43] (by decide +kernel) (by decide +kernel)
set_option maxRecDepth 20000 in
theorem gX6_readsRule_X6_isHere : GoodIn wsX6_readsRule (wsV RX6 165 RX6 yX6_isHere wsX6_isHere) := goodIn_app (goodIn_of _ (by decide +kernel)) ggX6_readsRule_X6_isHere
theorem dX6_readsRule_0 : decode cX6_readsRule 0 = .ok (.aload_n 0, 1) := by decide +kernel
theorem dX6_readsRule_1 : decode cX6_readsRule 1 = .ok (.iconst (-1), 1) := by decide +kernel
theorem dX6_readsRule_2 : decode cX6_readsRule 2 = .ok (.putfield 168, 3) := by decide +kernel
theorem dX6_readsRule_5 : decode cX6_readsRule 5 = .ok (.iconst 0, 1) := by decide +kernel
theorem dX6_readsRule_6 : decode cX6_readsRule 6 = .ok (.istore_n 1, 1) := by decide +kernel
theorem dX6_readsRule_7 : decode cX6_readsRule 7 = .ok (.iconst 1, 1) := by decide +kernel
theorem dX6_readsRule_8 : decode cX6_readsRule 8 = .ok (.istore_n 2, 1) := by decide +kernel
theorem dX6_readsRule_9 : decode cX6_readsRule 9 = .ok (.iload_n 2, 1) := by decide +kernel
theorem dX6_readsRule_10 : decode cX6_readsRule 10 = .ok (.ifCond .eq 48, 3) := by decide +kernel
theorem dX6_readsRule_13 : decode cX6_readsRule 13 = .ok (.aload_n 0, 1) := by decide +kernel
theorem dX6_readsRule_14 : decode cX6_readsRule 14 = .ok (.invokevirtual 171, 3) := by decide +kernel
theorem dX6_readsRule_17 : decode cX6_readsRule 17 = .ok (.ifCond .ne 5, 3) := by decide +kernel
theorem dX6_readsRule_20 : decode cX6_readsRule 20 = .ok (.iconst 0, 1) := by decide +kernel
theorem dX6_readsRule_21 : decode cX6_readsRule 21 = .ok (.ireturn, 1) := by decide +kernel
theorem dX6_readsRule_22 : decode cX6_readsRule 22 = .ok (.iload_n 1, 1) := by decide +kernel
theorem dX6_readsRule_23 : decode cX6_readsRule 23 = .ok (.iconst 1, 1) := by decide +kernel
theorem dX6_readsRule_24 : decode cX6_readsRule 24 = .ok (.aload_n 0, 1) := by decide +kernel
theorem dX6_readsRule_25 : decode cX6_readsRule 25 = .ok (.getfield 168, 3) := by decide +kernel
theorem dX6_readsRule_28 : decode cX6_readsRule 28 = .ok (.ishl, 1) := by decide +kernel
theorem dX6_readsRule_29 : decode cX6_readsRule 29 = .ok (.ior, 1) := by decide +kernel
theorem dX6_readsRule_30 : decode cX6_readsRule 30 = .ok (.istore_n 1, 1) := by decide +kernel
theorem dX6_readsRule_31 : decode cX6_readsRule 31 = .ok (.aload_n 0, 1) := by decide +kernel
theorem dX6_readsRule_32 : decode cX6_readsRule 32 = .ok (.getfield 168, 3) := by decide +kernel
theorem dX6_readsRule_35 : decode cX6_readsRule 35 = .ok (.bipush 11, 2) := by decide +kernel
theorem dX6_readsRule_37 : decode cX6_readsRule 37 = .ok (.if_icmp .ge 16, 3) := by decide +kernel
theorem dX6_readsRule_40 : decode cX6_readsRule 40 = .ok (.aload_n 0, 1) := by decide +kernel
theorem dX6_readsRule_41 : decode cX6_readsRule 41 = .ok (.bipush 43, 2) := by decide +kernel
theorem dX6_readsRule_43 : decode cX6_readsRule 43 = .ok (.invokevirtual 175, 3) := by decide +kernel
theorem dX6_readsRule_46 : decode cX6_readsRule 46 = .ok (.ifCond .eq 7, 3) := by decide +kernel
theorem dX6_readsRule_49 : decode cX6_readsRule 49 = .ok (.iconst 1, 1) := by decide +kernel
theorem dX6_readsRule_50 : decode cX6_readsRule 50 = .ok (.goto 4, 3) := by decide +kernel
theorem dX6_readsRule_53 : decode cX6_readsRule 53 = .ok (.iconst 0, 1) := by decide +kernel
theorem dX6_readsRule_54 : decode cX6_readsRule 54 = .ok (.istore_n 2, 1) := by decide +kernel
theorem dX6_readsRule_55 : decode cX6_readsRule 55 = .ok (.goto (-46), 3) := by decide +kernel
theorem dX6_readsRule_58 : decode cX6_readsRule 58 = .ok (.aload_n 0, 1) := by decide +kernel
theorem dX6_readsRule_59 : decode cX6_readsRule 59 = .ok (.bipush 61, 2) := by decide +kernel
theorem dX6_readsRule_61 : decode cX6_readsRule 61 = .ok (.invokevirtual 175, 3) := by decide +kernel
theorem dX6_readsRule_64 : decode cX6_readsRule 64 = .ok (.ifCond .eq 14, 3) := by decide +kernel
theorem dX6_readsRule_67 : decode cX6_readsRule 67 = .ok (.aload_n 0, 1) := by decide +kernel
theorem dX6_readsRule_68 : decode cX6_readsRule 68 = .ok (.bipush 48, 2) := by decide +kernel
theorem dX6_readsRule_70 : decode cX6_readsRule 70 = .ok (.bipush 49, 2) := by decide +kernel
theorem dX6_readsRule_72 : decode cX6_readsRule 72 = .ok (.invokevirtual 165, 3) := by decide +kernel
theorem dX6_readsRule_75 : decode cX6_readsRule 75 = .ok (.ifCond .ne 5, 3) := by decide +kernel
theorem dX6_readsRule_78 : decode cX6_readsRule 78 = .ok (.iconst 0, 1) := by decide +kernel
theorem dX6_readsRule_79 : decode cX6_readsRule 79 = .ok (.ireturn, 1) := by decide +kernel
theorem dX6_readsRule_80 : decode cX6_readsRule 80 = .ok (.aload_n 0, 1) := by decide +kernel
theorem dX6_readsRule_81 : decode cX6_readsRule 81 = .ok (.getfield 43, 3) := by decide +kernel
theorem dX6_readsRule_84 : decode cX6_readsRule 84 = .ok (.aload_n 0, 1) := by decide +kernel
theorem dX6_readsRule_85 : decode cX6_readsRule 85 = .ok (.getfield 178, 3) := by decide +kernel
theorem dX6_readsRule_88 : decode cX6_readsRule 88 = .ok (.iload_n 1, 1) := by decide +kernel
theorem dX6_readsRule_89 : decode cX6_readsRule 89 = .ok (.iastore, 1) := by decide +kernel
theorem dX6_readsRule_90 : decode cX6_readsRule 90 = .ok (.aload_n 0, 1) := by decide +kernel
theorem dX6_readsRule_91 : decode cX6_readsRule 91 = .ok (.getfield 46, 3) := by decide +kernel
theorem dX6_readsRule_94 : decode cX6_readsRule 94 = .ok (.aload_n 0, 1) := by decide +kernel
theorem dX6_readsRule_95 : decode cX6_readsRule 95 = .ok (.getfield 178, 3) := by decide +kernel
theorem dX6_readsRule_98 : decode cX6_readsRule 98 = .ok (.aload_n 0, 1) := by decide +kernel
theorem dX6_readsRule_99 : decode cX6_readsRule 99 = .ok (.getfield 40, 3) := by decide +kernel
theorem dX6_readsRule_102 : decode cX6_readsRule 102 = .ok (.aload_n 0, 1) := by decide +kernel
theorem dX6_readsRule_103 : decode cX6_readsRule 103 = .ok (.getfield 162, 3) := by decide +kernel
theorem dX6_readsRule_106 : decode cX6_readsRule 106 = .ok (.iaload, 1) := by decide +kernel
theorem dX6_readsRule_107 : decode cX6_readsRule 107 = .ok (.bipush 48, 2) := by decide +kernel
theorem dX6_readsRule_109 : decode cX6_readsRule 109 = .ok (.isub, 1) := by decide +kernel
theorem dX6_readsRule_110 : decode cX6_readsRule 110 = .ok (.iastore, 1) := by decide +kernel
theorem dX6_readsRule_111 : decode cX6_readsRule 111 = .ok (.aload_n 0, 1) := by decide +kernel
theorem dX6_readsRule_112 : decode cX6_readsRule 112 = .ok (.dup, 1) := by decide +kernel
theorem dX6_readsRule_113 : decode cX6_readsRule 113 = .ok (.getfield 178, 3) := by decide +kernel
theorem dX6_readsRule_116 : decode cX6_readsRule 116 = .ok (.iconst 1, 1) := by decide +kernel
theorem dX6_readsRule_117 : decode cX6_readsRule 117 = .ok (.iadd, 1) := by decide +kernel
theorem dX6_readsRule_118 : decode cX6_readsRule 118 = .ok (.putfield 178, 3) := by decide +kernel
theorem dX6_readsRule_121 : decode cX6_readsRule 121 = .ok (.aload_n 0, 1) := by decide +kernel
theorem dX6_readsRule_122 : decode cX6_readsRule 122 = .ok (.dup, 1) := by decide +kernel
theorem dX6_readsRule_123 : decode cX6_readsRule 123 = .ok (.getfield 162, 3) := by decide +kernel
theorem dX6_readsRule_126 : decode cX6_readsRule 126 = .ok (.iconst 1, 1) := by decide +kernel
theorem dX6_readsRule_127 : decode cX6_readsRule 127 = .ok (.iadd, 1) := by decide +kernel
theorem dX6_readsRule_128 : decode cX6_readsRule 128 = .ok (.putfield 162, 3) := by decide +kernel
theorem dX6_readsRule_131 : decode cX6_readsRule 131 = .ok (.iconst 1, 1) := by decide +kernel
theorem dX6_readsRule_132 : decode cX6_readsRule 132 = .ok (.ireturn, 1) := by decide +kernel
set_option maxRecDepth 20000 in
theorem ggX6_fault_X6_readsRule : GoodIn wsX6_fault wsX6_readsRule := goodIn_r _ [8, 9, 10, 2, 11, 12, 1, 13, 14, 15, 7, 16, 17, 18, 19, 20, 3, 21, 22, 23, 24, 25, 26, 27, 28, 29, 30, 31, 32, 33, 34, 35, 36, 37, 38, 39, 40, 41, 42, 43, 44, 45, 46, 47] (by decide +kernel) (by decide +kernel)
set_option maxRecDepth 20000 in
theorem gX6_fault_X6_readsRule : GoodIn wsX6_fault (wsV RX6 181 RX6 yX6_readsRule wsX6_readsRule) := goodIn_app (goodIn_of _ (by decide +kernel)) ggX6_fault_X6_readsRule
set_option maxRecDepth 20000 in
theorem ggX6_fault_X6_takes : GoodIn wsX6_fault wsX6_takes := goodIn_r _ [27, 1, 17, 18, 19, 7, 20, 3, 12, 21, 22, 23, 28, 29, 30, 31, 32, 33, 34, 35, 36, 37, 38, 39, 40, 41, 42, 43, 44, 45, 46, 47] (by decide +kernel) (by decide +kernel)
set_option maxRecDepth 20000 in
theorem gX6_fault_X6_takes : GoodIn wsX6_fault (wsV RX6 175 RX6 yX6_takes wsX6_takes) := goodIn_app (goodIn_of _ (by decide +kernel)) ggX6_fault_X6_takes
theorem dX6_fault_0 : decode cX6_fault 0 = .ok (.aload_n 0, 1) := by decide +kernel
theorem dX6_fault_1 : decode cX6_fault 1 = .ok (.iconst 0, 1) := by decide +kernel
theorem dX6_fault_2 : decode cX6_fault 2 = .ok (.putfield 162, 3) := by decide +kernel
theorem dX6_fault_5 : decode cX6_fault 5 = .ok (.aload_n 0, 1) := by decide +kernel
theorem dX6_fault_6 : decode cX6_fault 6 = .ok (.iconst 0, 1) := by decide +kernel
theorem dX6_fault_7 : decode cX6_fault 7 = .ok (.putfield 178, 3) := by decide +kernel
theorem dX6_fault_10 : decode cX6_fault 10 = .ok (.iconst 1, 1) := by decide +kernel
theorem dX6_fault_11 : decode cX6_fault 11 = .ok (.istore_n 1, 1) := by decide +kernel
theorem dX6_fault_12 : decode cX6_fault 12 = .ok (.iload_n 1, 1) := by decide +kernel
theorem dX6_fault_13 : decode cX6_fault 13 = .ok (.ifCond .eq 25, 3) := by decide +kernel
theorem dX6_fault_16 : decode cX6_fault 16 = .ok (.aload_n 0, 1) := by decide +kernel
theorem dX6_fault_17 : decode cX6_fault 17 = .ok (.invokevirtual 181, 3) := by decide +kernel
theorem dX6_fault_20 : decode cX6_fault 20 = .ok (.ifCond .ne 8, 3) := by decide +kernel
theorem dX6_fault_23 : decode cX6_fault 23 = .ok (.aload_n 0, 1) := by decide +kernel
theorem dX6_fault_24 : decode cX6_fault 24 = .ok (.getfield 162, 3) := by decide +kernel
theorem dX6_fault_27 : decode cX6_fault 27 = .ok (.ireturn, 1) := by decide +kernel
theorem dX6_fault_28 : decode cX6_fault 28 = .ok (.aload_n 0, 1) := by decide +kernel
theorem dX6_fault_29 : decode cX6_fault 29 = .ok (.bipush 59, 2) := by decide +kernel
theorem dX6_fault_31 : decode cX6_fault 31 = .ok (.invokevirtual 175, 3) := by decide +kernel
theorem dX6_fault_34 : decode cX6_fault 34 = .ok (.istore_n 1, 1) := by decide +kernel
theorem dX6_fault_35 : decode cX6_fault 35 = .ok (.goto (-23), 3) := by decide +kernel
theorem dX6_fault_38 : decode cX6_fault 38 = .ok (.aload_n 0, 1) := by decide +kernel
theorem dX6_fault_39 : decode cX6_fault 39 = .ok (.getfield 162, 3) := by decide +kernel
theorem dX6_fault_42 : decode cX6_fault 42 = .ok (.aload_n 0, 1) := by decide +kernel
theorem dX6_fault_43 : decode cX6_fault 43 = .ok (.getfield 142, 3) := by decide +kernel
theorem dX6_fault_46 : decode cX6_fault 46 = .ok (.if_icmp .ne 8, 3) := by decide +kernel
theorem dX6_fault_49 : decode cX6_fault 49 = .ok (.bipush (-6), 2) := by decide +kernel
theorem dX6_fault_51 : decode cX6_fault 51 = .ok (.goto 7, 3) := by decide +kernel
theorem dX6_fault_54 : decode cX6_fault 54 = .ok (.aload_n 0, 1) := by decide +kernel
theorem dX6_fault_55 : decode cX6_fault 55 = .ok (.getfield 162, 3) := by decide +kernel
theorem dX6_fault_58 : decode cX6_fault 58 = .ok (.ireturn, 1) := by decide +kernel
set_option maxRecDepth 20000 in
theorem ggX6_read_X6_fault : GoodIn wsX6_read wsX6_fault := goodIn_r _ [10, 11, 1, 5, 12, 13, 14, 9, 15, 16, 2, 4, 17, 18, 19, 20, 21, 22, 23, 24, 25, 26, 27, 28, 29, 30, 31, 32, 56, 57, 58, 59, 60, 61, 62, 63, 64, 65, 66, 67, 68, 69, 70, 71, 72, 73, 74, 75] (by decide +kernel) (by decide +kernel)
set_option maxRecDepth 20000 in
theorem gX6_read_X6_fault : GoodIn wsX6_read (wsV RX6 184 RX6 yX6_fault wsX6_fault) := goodIn_app (goodIn_of _ (by decide +kernel)) ggX6_read_X6_fault
set_option maxRecDepth 20000 in
theorem ggX6_read_X6_isSet : GoodIn wsX6_read wsX6_isSet := goodIn_r _ [36, 37, 38, 39, 9, 40, 3, 26, 27, 28, 56, 57, 58, 59, 60, 61, 62, 63, 64, 65, 66, 67, 68, 69, 70, 71, 72, 73, 74, 75] (by decide +kernel) (by decide +kernel)
set_option maxRecDepth 20000 in
theorem gX6_read_X6_isSet : GoodIn wsX6_read (wsV RX6 103 RX6 yX6_isSet wsX6_isSet) := goodIn_app (goodIn_of _ (by decide +kernel)) ggX6_read_X6_isSet
set_option maxRecDepth 20000 in
theorem ggX6_read_X6_keep : GoodIn wsX6_read wsX6_keep := goodIn_r _ [44, 45, 3, 56, 57, 58, 59, 60, 61, 62, 63, 64, 65, 66, 67, 68, 69, 70, 71, 72, 73, 74, 75] (by decide +kernel) (by decide +kernel)
set_option maxRecDepth 20000 in
theorem gX6_read_X6_keep : GoodIn wsX6_read (wsV RX6 97 RX6 yX6_keep wsX6_keep) := goodIn_app (goodIn_of _ (by decide +kernel)) ggX6_read_X6_keep
set_option maxRecDepth 20000 in
theorem ggX6_read_X6_adds : GoodIn wsX6_read wsX6_adds := goodIn_r _ [49, 3, 56, 57, 58, 59, 60, 61, 62, 63, 64, 65, 66, 67, 68, 69, 70, 71, 72, 73, 74, 75] (by decide +kernel) (by decide +kernel)
set_option maxRecDepth 20000 in
theorem gX6_read_X6_adds : GoodIn wsX6_read (wsV RX6 107 RX6 yX6_adds wsX6_adds) := goodIn_app (goodIn_of _ (by decide +kernel)) ggX6_read_X6_adds
set_option maxRecDepth 20000 in
theorem ggX6_read_X6_changed : GoodIn wsX6_read wsX6_changed := goodIn_r _ [53, 54, 55, 45, 56, 57, 58, 59, 60, 61, 62, 63, 64, 65, 66, 67, 68, 69, 70, 71, 72, 73, 74, 75] (by decide +kernel) (by decide +kernel)
set_option maxRecDepth 20000 in
theorem gX6_read_X6_changed : GoodIn wsX6_read (wsV RX6 100 RX6 yX6_changed wsX6_changed) := goodIn_app (goodIn_of _ (by decide +kernel)) ggX6_read_X6_changed
theorem dX6_read_0 : decode cX6_read 0 = .ok (.aload_n 0, 1) := by decide +kernel
theorem dX6_read_1 : decode cX6_read 1 = .ok (.invokevirtual 184, 3) := by decide +kernel
theorem dX6_read_4 : decode cX6_read 4 = .ok (.bipush (-6), 2) := by decide +kernel
theorem dX6_read_6 : decode cX6_read 6 = .ok (.if_icmp .eq 6, 3) := by decide +kernel
theorem dX6_read_9 : decode cX6_read 9 = .ok (.bipush (-3), 2) := by decide +kernel
theorem dX6_read_11 : decode cX6_read 11 = .ok (.ireturn, 1) := by decide +kernel
theorem dX6_read_12 : decode cX6_read 12 = .ok (.iconst 0, 1) := by decide +kernel
theorem dX6_read_13 : decode cX6_read 13 = .ok (.istore_n 1, 1) := by decide +kernel
theorem dX6_read_14 : decode cX6_read 14 = .ok (.iload_n 1, 1) := by decide +kernel
theorem dX6_read_15 : decode cX6_read 15 = .ok (.aload_n 0, 1) := by decide +kernel
theorem dX6_read_16 : decode cX6_read 16 = .ok (.getfield 178, 3) := by decide +kernel
theorem dX6_read_19 : decode cX6_read 19 = .ok (.if_icmp .ge 25, 3) := by decide +kernel
theorem dX6_read_22 : decode cX6_read 22 = .ok (.aload_n 0, 1) := by decide +kernel
theorem dX6_read_23 : decode cX6_read 23 = .ok (.aload_n 0, 1) := by decide +kernel
theorem dX6_read_24 : decode cX6_read 24 = .ok (.getfield 43, 3) := by decide +kernel
theorem dX6_read_27 : decode cX6_read 27 = .ok (.iload_n 1, 1) := by decide +kernel
theorem dX6_read_28 : decode cX6_read 28 = .ok (.iaload, 1) := by decide +kernel
theorem dX6_read_29 : decode cX6_read 29 = .ok (.invokevirtual 103, 3) := by decide +kernel
theorem dX6_read_32 : decode cX6_read 32 = .ok (.ifCond .ne 6, 3) := by decide +kernel
theorem dX6_read_35 : decode cX6_read 35 = .ok (.bipush (-2), 2) := by decide +kernel
theorem dX6_read_37 : decode cX6_read 37 = .ok (.ireturn, 1) := by decide +kernel
theorem dX6_read_38 : decode cX6_read 38 = .ok (.iinc 1 1, 3) := by decide +kernel
theorem dX6_read_41 : decode cX6_read 41 = .ok (.goto (-27), 3) := by decide +kernel
theorem dX6_read_44 : decode cX6_read 44 = .ok (.aload_n 0, 1) := by decide +kernel
theorem dX6_read_45 : decode cX6_read 45 = .ok (.getfield 7, 3) := by decide +kernel
theorem dX6_read_48 : decode cX6_read 48 = .ok (.iconst 1, 1) := by decide +kernel
theorem dX6_read_49 : decode cX6_read 49 = .ok (.iaload, 1) := by decide +kernel
theorem dX6_read_50 : decode cX6_read 50 = .ok (.aload_n 0, 1) := by decide +kernel
theorem dX6_read_51 : decode cX6_read 51 = .ok (.getfield 178, 3) := by decide +kernel
theorem dX6_read_54 : decode cX6_read 54 = .ok (.iadd, 1) := by decide +kernel
theorem dX6_read_55 : decode cX6_read 55 = .ok (.bipush 20, 2) := by decide +kernel
theorem dX6_read_57 : decode cX6_read 57 = .ok (.if_icmp .le 6, 3) := by decide +kernel
theorem dX6_read_60 : decode cX6_read 60 = .ok (.bipush (-4), 2) := by decide +kernel
theorem dX6_read_62 : decode cX6_read 62 = .ok (.ireturn, 1) := by decide +kernel
theorem dX6_read_63 : decode cX6_read 63 = .ok (.aload_n 0, 1) := by decide +kernel
theorem dX6_read_64 : decode cX6_read 64 = .ok (.invokevirtual 97, 3) := by decide +kernel
theorem dX6_read_67 : decode cX6_read 67 = .ok (.iconst 0, 1) := by decide +kernel
theorem dX6_read_68 : decode cX6_read 68 = .ok (.istore_n 1, 1) := by decide +kernel
theorem dX6_read_69 : decode cX6_read 69 = .ok (.iload_n 1, 1) := by decide +kernel
theorem dX6_read_70 : decode cX6_read 70 = .ok (.aload_n 0, 1) := by decide +kernel
theorem dX6_read_71 : decode cX6_read 71 = .ok (.getfield 178, 3) := by decide +kernel
theorem dX6_read_74 : decode cX6_read 74 = .ok (.if_icmp .ge 25, 3) := by decide +kernel
theorem dX6_read_77 : decode cX6_read 77 = .ok (.aload_n 0, 1) := by decide +kernel
theorem dX6_read_78 : decode cX6_read 78 = .ok (.aload_n 0, 1) := by decide +kernel
theorem dX6_read_79 : decode cX6_read 79 = .ok (.getfield 43, 3) := by decide +kernel
theorem dX6_read_82 : decode cX6_read 82 = .ok (.iload_n 1, 1) := by decide +kernel
theorem dX6_read_83 : decode cX6_read 83 = .ok (.iaload, 1) := by decide +kernel
theorem dX6_read_84 : decode cX6_read 84 = .ok (.aload_n 0, 1) := by decide +kernel
theorem dX6_read_85 : decode cX6_read 85 = .ok (.getfield 46, 3) := by decide +kernel
theorem dX6_read_88 : decode cX6_read 88 = .ok (.iload_n 1, 1) := by decide +kernel
theorem dX6_read_89 : decode cX6_read 89 = .ok (.iaload, 1) := by decide +kernel
theorem dX6_read_90 : decode cX6_read 90 = .ok (.invokevirtual 107, 3) := by decide +kernel
theorem dX6_read_93 : decode cX6_read 93 = .ok (.iinc 1 1, 3) := by decide +kernel
theorem dX6_read_96 : decode cX6_read 96 = .ok (.goto (-27), 3) := by decide +kernel
theorem dX6_read_99 : decode cX6_read 99 = .ok (.aload_n 0, 1) := by decide +kernel
theorem dX6_read_100 : decode cX6_read 100 = .ok (.iconst 0, 1) := by decide +kernel
theorem dX6_read_101 : decode cX6_read 101 = .ok (.putfield 142, 3) := by decide +kernel
theorem dX6_read_104 : decode cX6_read 104 = .ok (.aload_n 0, 1) := by decide +kernel
theorem dX6_read_105 : decode cX6_read 105 = .ok (.aload_n 0, 1) := by decide +kernel
theorem dX6_read_106 : decode cX6_read 106 = .ok (.getfield 7, 3) := by decide +kernel
theorem dX6_read_109 : decode cX6_read 109 = .ok (.iconst 1, 1) := by decide +kernel
theorem dX6_read_110 : decode cX6_read 110 = .ok (.iaload, 1) := by decide +kernel
theorem dX6_read_111 : decode cX6_read 111 = .ok (.invokevirtual 100, 3) := by decide +kernel
theorem dX6_read_114 : decode cX6_read 114 = .ok (.ireturn, 1) := by decide +kernel
theorem dX6_undo_0 : decode cX6_undo 0 = .ok (.aload_n 0, 1) := by decide +kernel
theorem dX6_undo_1 : decode cX6_undo 1 = .ok (.getfield 49, 3) := by decide +kernel
theorem dX6_undo_4 : decode cX6_undo 4 = .ok (.ifCond .ne 6, 3) := by decide +kernel
theorem dX6_undo_7 : decode cX6_undo 7 = .ok (.bipush (-5), 2) := by decide +kernel
theorem dX6_undo_9 : decode cX6_undo 9 = .ok (.ireturn, 1) := by decide +kernel
theorem dX6_undo_10 : decode cX6_undo 10 = .ok (.aload_n 0, 1) := by decide +kernel
theorem dX6_undo_11 : decode cX6_undo 11 = .ok (.dup, 1) := by decide +kernel
theorem dX6_undo_12 : decode cX6_undo 12 = .ok (.getfield 49, 3) := by decide +kernel
theorem dX6_undo_15 : decode cX6_undo 15 = .ok (.iconst 1, 1) := by decide +kernel
theorem dX6_undo_16 : decode cX6_undo 16 = .ok (.isub, 1) := by decide +kernel
theorem dX6_undo_17 : decode cX6_undo 17 = .ok (.putfield 49, 3) := by decide +kernel
theorem dX6_undo_20 : decode cX6_undo 20 = .ok (.iconst 0, 1) := by decide +kernel
theorem dX6_undo_21 : decode cX6_undo 21 = .ok (.istore_n 1, 1) := by decide +kernel
theorem dX6_undo_22 : decode cX6_undo 22 = .ok (.iload_n 1, 1) := by decide +kernel
theorem dX6_undo_23 : decode cX6_undo 23 = .ok (.bipush 42, 2) := by decide +kernel
theorem dX6_undo_25 : decode cX6_undo 25 = .ok (.if_icmp .ge 29, 3) := by decide +kernel
theorem dX6_undo_28 : decode cX6_undo 28 = .ok (.aload_n 0, 1) := by decide +kernel
theorem dX6_undo_29 : decode cX6_undo 29 = .ok (.getfield 7, 3) := by decide +kernel
theorem dX6_undo_32 : decode cX6_undo 32 = .ok (.iload_n 1, 1) := by decide +kernel
theorem dX6_undo_33 : decode cX6_undo 33 = .ok (.aload_n 0, 1) := by decide +kernel
theorem dX6_undo_34 : decode cX6_undo 34 = .ok (.getfield 16, 3) := by decide +kernel
theorem dX6_undo_37 : decode cX6_undo 37 = .ok (.bipush 42, 2) := by decide +kernel
theorem dX6_undo_39 : decode cX6_undo 39 = .ok (.aload_n 0, 1) := by decide +kernel
theorem dX6_undo_40 : decode cX6_undo 40 = .ok (.getfield 49, 3) := by decide +kernel
theorem dX6_undo_43 : decode cX6_undo 43 = .ok (.imul, 1) := by decide +kernel
theorem dX6_undo_44 : decode cX6_undo 44 = .ok (.iload_n 1, 1) := by decide +kernel
theorem dX6_undo_45 : decode cX6_undo 45 = .ok (.iadd, 1) := by decide +kernel
theorem dX6_undo_46 : decode cX6_undo 46 = .ok (.iaload, 1) := by decide +kernel
theorem dX6_undo_47 : decode cX6_undo 47 = .ok (.iastore, 1) := by decide +kernel
theorem dX6_undo_48 : decode cX6_undo 48 = .ok (.iinc 1 1, 3) := by decide +kernel
theorem dX6_undo_51 : decode cX6_undo 51 = .ok (.goto (-29), 3) := by decide +kernel
theorem dX6_undo_54 : decode cX6_undo 54 = .ok (.aload_n 0, 1) := by decide +kernel
theorem dX6_undo_55 : decode cX6_undo 55 = .ok (.getfield 49, 3) := by decide +kernel
theorem dX6_undo_58 : decode cX6_undo 58 = .ok (.ireturn, 1) := by decide +kernel
set_option maxRecDepth 20000 in
theorem ggX6_save_X6_in : GoodIn wsX6_save wsX6_in := goodIn_r _ [7] (by decide +kernel) (by decide +kernel)
set_option maxRecDepth 20000 in
theorem gX6_save_X6_in : GoodIn wsX6_save (va_wsS RX6 61 yX6_in wsX6_in) := goodIn_app (goodIn_of _ (by decide +kernel)) ggX6_save_X6_in
theorem dX6_save_0 : decode cX6_save 0 = .ok (.iload_n 1, 1) := by decide +kernel
theorem dX6_save_1 : decode cX6_save 1 = .ok (.i2l, 1) := by decide +kernel
theorem dX6_save_2 : decode cX6_save 2 = .ok (.lconst 0, 1) := by decide +kernel
theorem dX6_save_3 : decode cX6_save 3 = .ok (.lconst 1, 1) := by decide +kernel
theorem dX6_save_4 : decode cX6_save 4 = .ok (.invokestatic 61, 3) := by decide +kernel
theorem dX6_save_7 : decode cX6_save 7 = .ok (.ifCond .ne 6, 3) := by decide +kernel
theorem dX6_save_10 : decode cX6_save 10 = .ok (.bipush (-2), 2) := by decide +kernel
theorem dX6_save_12 : decode cX6_save 12 = .ok (.ireturn, 1) := by decide +kernel
theorem dX6_save_13 : decode cX6_save 13 = .ok (.iconst 0, 1) := by decide +kernel
theorem dX6_save_14 : decode cX6_save 14 = .ok (.istore_n 2, 1) := by decide +kernel
theorem dX6_save_15 : decode cX6_save 15 = .ok (.iload_n 2, 1) := by decide +kernel
theorem dX6_save_16 : decode cX6_save 16 = .ok (.bipush 42, 2) := by decide +kernel
theorem dX6_save_18 : decode cX6_save 18 = .ok (.if_icmp .ge 26, 3) := by decide +kernel
theorem dX6_save_21 : decode cX6_save 21 = .ok (.aload_n 0, 1) := by decide +kernel
theorem dX6_save_22 : decode cX6_save 22 = .ok (.getfield 19, 3) := by decide +kernel
theorem dX6_save_25 : decode cX6_save 25 = .ok (.bipush 42, 2) := by decide +kernel
theorem dX6_save_27 : decode cX6_save 27 = .ok (.iload_n 1, 1) := by decide +kernel
theorem dX6_save_28 : decode cX6_save 28 = .ok (.imul, 1) := by decide +kernel
theorem dX6_save_29 : decode cX6_save 29 = .ok (.iload_n 2, 1) := by decide +kernel
theorem dX6_save_30 : decode cX6_save 30 = .ok (.iadd, 1) := by decide +kernel
theorem dX6_save_31 : decode cX6_save 31 = .ok (.aload_n 0, 1) := by decide +kernel
theorem dX6_save_32 : decode cX6_save 32 = .ok (.getfield 7, 3) := by decide +kernel
theorem dX6_save_35 : decode cX6_save 35 = .ok (.iload_n 2, 1) := by decide +kernel
theorem dX6_save_36 : decode cX6_save 36 = .ok (.iaload, 1) := by decide +kernel
theorem dX6_save_37 : decode cX6_save 37 = .ok (.iastore, 1) := by decide +kernel
theorem dX6_save_38 : decode cX6_save 38 = .ok (.iinc 2 1, 3) := by decide +kernel
theorem dX6_save_41 : decode cX6_save 41 = .ok (.goto (-26), 3) := by decide +kernel
theorem dX6_save_44 : decode cX6_save 44 = .ok (.aload_n 0, 1) := by decide +kernel
theorem dX6_save_45 : decode cX6_save 45 = .ok (.getfield 22, 3) := by decide +kernel
theorem dX6_save_48 : decode cX6_save 48 = .ok (.iload_n 1, 1) := by decide +kernel
theorem dX6_save_49 : decode cX6_save 49 = .ok (.iconst 1, 1) := by decide +kernel
theorem dX6_save_50 : decode cX6_save 50 = .ok (.iastore, 1) := by decide +kernel
theorem dX6_save_51 : decode cX6_save 51 = .ok (.aload_n 0, 1) := by decide +kernel
theorem dX6_save_52 : decode cX6_save 52 = .ok (.getfield 7, 3) := by decide +kernel
theorem dX6_save_55 : decode cX6_save 55 = .ok (.iconst 1, 1) := by decide +kernel
theorem dX6_save_56 : decode cX6_save 56 = .ok (.iaload, 1) := by decide +kernel
theorem dX6_save_57 : decode cX6_save 57 = .ok (.ireturn, 1) := by decide +kernel
set_option maxRecDepth 20000 in
theorem ggX6_restore_X6_in : GoodIn wsX6_restore wsX6_in := goodIn_r _ [7] (by decide +kernel) (by decide +kernel)
set_option maxRecDepth 20000 in
theorem gX6_restore_X6_in : GoodIn wsX6_restore (va_wsS RX6 61 yX6_in wsX6_in) := goodIn_app (goodIn_of _ (by decide +kernel)) ggX6_restore_X6_in
set_option maxRecDepth 20000 in
theorem ggX6_restore_X6_keep : GoodIn wsX6_restore wsX6_keep := goodIn_r _ [11, 12, 2, 19, 20, 21, 22, 23, 24, 25, 26, 27, 28, 29, 30, 31, 32, 33, 34, 35, 36, 37, 38] (by decide +kernel) (by decide +kernel)
set_option maxRecDepth 20000 in
theorem gX6_restore_X6_keep : GoodIn wsX6_restore (wsV RX6 97 RX6 yX6_keep wsX6_keep) := goodIn_app (goodIn_of _ (by decide +kernel)) ggX6_restore_X6_keep
set_option maxRecDepth 20000 in
theorem ggX6_restore_X6_changed : GoodIn wsX6_restore wsX6_changed := goodIn_r _ [16, 17, 18, 12, 19, 20, 21, 22, 23, 24, 25, 26, 27, 28, 29, 30, 31, 32, 33, 34, 35, 36, 37, 38] (by decide +kernel) (by decide +kernel)
set_option maxRecDepth 20000 in
theorem gX6_restore_X6_changed : GoodIn wsX6_restore (wsV RX6 100 RX6 yX6_changed wsX6_changed) := goodIn_app (goodIn_of _ (by decide +kernel)) ggX6_restore_X6_changed
theorem dX6_restore_0 : decode cX6_restore 0 = .ok (.iload_n 1, 1) := by decide +kernel
theorem dX6_restore_1 : decode cX6_restore 1 = .ok (.i2l, 1) := by decide +kernel
theorem dX6_restore_2 : decode cX6_restore 2 = .ok (.lconst 0, 1) := by decide +kernel
theorem dX6_restore_3 : decode cX6_restore 3 = .ok (.lconst 1, 1) := by decide +kernel
theorem dX6_restore_4 : decode cX6_restore 4 = .ok (.invokestatic 61, 3) := by decide +kernel
theorem dX6_restore_7 : decode cX6_restore 7 = .ok (.ifCond .ne 6, 3) := by decide +kernel
theorem dX6_restore_10 : decode cX6_restore 10 = .ok (.bipush (-2), 2) := by decide +kernel
theorem dX6_restore_12 : decode cX6_restore 12 = .ok (.ireturn, 1) := by decide +kernel
theorem dX6_restore_13 : decode cX6_restore 13 = .ok (.aload_n 0, 1) := by decide +kernel
theorem dX6_restore_14 : decode cX6_restore 14 = .ok (.getfield 22, 3) := by decide +kernel
theorem dX6_restore_17 : decode cX6_restore 17 = .ok (.iload_n 1, 1) := by decide +kernel
theorem dX6_restore_18 : decode cX6_restore 18 = .ok (.iaload, 1) := by decide +kernel
theorem dX6_restore_19 : decode cX6_restore 19 = .ok (.ifCond .ne 6, 3) := by decide +kernel
theorem dX6_restore_22 : decode cX6_restore 22 = .ok (.bipush (-5), 2) := by decide +kernel
theorem dX6_restore_24 : decode cX6_restore 24 = .ok (.ireturn, 1) := by decide +kernel
theorem dX6_restore_25 : decode cX6_restore 25 = .ok (.aload_n 0, 1) := by decide +kernel
theorem dX6_restore_26 : decode cX6_restore 26 = .ok (.invokevirtual 97, 3) := by decide +kernel
theorem dX6_restore_29 : decode cX6_restore 29 = .ok (.iconst 0, 1) := by decide +kernel
theorem dX6_restore_30 : decode cX6_restore 30 = .ok (.istore_n 2, 1) := by decide +kernel
theorem dX6_restore_31 : decode cX6_restore 31 = .ok (.iload_n 2, 1) := by decide +kernel
theorem dX6_restore_32 : decode cX6_restore 32 = .ok (.bipush 42, 2) := by decide +kernel
theorem dX6_restore_34 : decode cX6_restore 34 = .ok (.if_icmp .ge 26, 3) := by decide +kernel
theorem dX6_restore_37 : decode cX6_restore 37 = .ok (.aload_n 0, 1) := by decide +kernel
theorem dX6_restore_38 : decode cX6_restore 38 = .ok (.getfield 7, 3) := by decide +kernel
theorem dX6_restore_41 : decode cX6_restore 41 = .ok (.iload_n 2, 1) := by decide +kernel
theorem dX6_restore_42 : decode cX6_restore 42 = .ok (.aload_n 0, 1) := by decide +kernel
theorem dX6_restore_43 : decode cX6_restore 43 = .ok (.getfield 19, 3) := by decide +kernel
theorem dX6_restore_46 : decode cX6_restore 46 = .ok (.bipush 42, 2) := by decide +kernel
theorem dX6_restore_48 : decode cX6_restore 48 = .ok (.iload_n 1, 1) := by decide +kernel
theorem dX6_restore_49 : decode cX6_restore 49 = .ok (.imul, 1) := by decide +kernel
theorem dX6_restore_50 : decode cX6_restore 50 = .ok (.iload_n 2, 1) := by decide +kernel
theorem dX6_restore_51 : decode cX6_restore 51 = .ok (.iadd, 1) := by decide +kernel
theorem dX6_restore_52 : decode cX6_restore 52 = .ok (.iaload, 1) := by decide +kernel
theorem dX6_restore_53 : decode cX6_restore 53 = .ok (.iastore, 1) := by decide +kernel
theorem dX6_restore_54 : decode cX6_restore 54 = .ok (.iinc 2 1, 3) := by decide +kernel
theorem dX6_restore_57 : decode cX6_restore 57 = .ok (.goto (-26), 3) := by decide +kernel
theorem dX6_restore_60 : decode cX6_restore 60 = .ok (.aload_n 0, 1) := by decide +kernel
theorem dX6_restore_61 : decode cX6_restore 61 = .ok (.aload_n 0, 1) := by decide +kernel
theorem dX6_restore_62 : decode cX6_restore 62 = .ok (.getfield 7, 3) := by decide +kernel
theorem dX6_restore_65 : decode cX6_restore 65 = .ok (.iconst 1, 1) := by decide +kernel
theorem dX6_restore_66 : decode cX6_restore 66 = .ok (.iaload, 1) := by decide +kernel
theorem dX6_restore_67 : decode cX6_restore 67 = .ok (.invokevirtual 100, 3) := by decide +kernel
theorem dX6_restore_70 : decode cX6_restore 70 = .ok (.ireturn, 1) := by decide +kernel
theorem dJ6_bitCount_0f7a4_0 : decode cJ6_bitCount_0f7a4 0 = .ok (.iload_n 0, 1) := by decide +kernel
theorem dJ6_bitCount_0f7a4_1 : decode cJ6_bitCount_0f7a4 1 = .ok (.iload_n 0, 1) := by decide +kernel
theorem dJ6_bitCount_0f7a4_2 : decode cJ6_bitCount_0f7a4 2 = .ok (.iconst 1, 1) := by decide +kernel
theorem dJ6_bitCount_0f7a4_3 : decode cJ6_bitCount_0f7a4 3 = .ok (.iushr, 1) := by decide +kernel
theorem dJ6_bitCount_0f7a4_4 : decode cJ6_bitCount_0f7a4 4 = .ok (.ldc_w 265, 3) := by decide +kernel
theorem dJ6_bitCount_0f7a4_7 : decode cJ6_bitCount_0f7a4 7 = .ok (.iand, 1) := by decide +kernel
theorem dJ6_bitCount_0f7a4_8 : decode cJ6_bitCount_0f7a4 8 = .ok (.isub, 1) := by decide +kernel
theorem dJ6_bitCount_0f7a4_9 : decode cJ6_bitCount_0f7a4 9 = .ok (.istore_n 0, 1) := by decide +kernel
theorem dJ6_bitCount_0f7a4_10 : decode cJ6_bitCount_0f7a4 10 = .ok (.iload_n 0, 1) := by decide +kernel
theorem dJ6_bitCount_0f7a4_11 : decode cJ6_bitCount_0f7a4 11 = .ok (.ldc_w 266, 3) := by decide +kernel
theorem dJ6_bitCount_0f7a4_14 : decode cJ6_bitCount_0f7a4 14 = .ok (.iand, 1) := by decide +kernel
theorem dJ6_bitCount_0f7a4_15 : decode cJ6_bitCount_0f7a4 15 = .ok (.iload_n 0, 1) := by decide +kernel
theorem dJ6_bitCount_0f7a4_16 : decode cJ6_bitCount_0f7a4 16 = .ok (.iconst 2, 1) := by decide +kernel
theorem dJ6_bitCount_0f7a4_17 : decode cJ6_bitCount_0f7a4 17 = .ok (.iushr, 1) := by decide +kernel
theorem dJ6_bitCount_0f7a4_18 : decode cJ6_bitCount_0f7a4 18 = .ok (.ldc_w 266, 3) := by decide +kernel
theorem dJ6_bitCount_0f7a4_21 : decode cJ6_bitCount_0f7a4 21 = .ok (.iand, 1) := by decide +kernel
theorem dJ6_bitCount_0f7a4_22 : decode cJ6_bitCount_0f7a4 22 = .ok (.iadd, 1) := by decide +kernel
theorem dJ6_bitCount_0f7a4_23 : decode cJ6_bitCount_0f7a4 23 = .ok (.istore_n 0, 1) := by decide +kernel
theorem dJ6_bitCount_0f7a4_24 : decode cJ6_bitCount_0f7a4 24 = .ok (.iload_n 0, 1) := by decide +kernel
theorem dJ6_bitCount_0f7a4_25 : decode cJ6_bitCount_0f7a4 25 = .ok (.iload_n 0, 1) := by decide +kernel
theorem dJ6_bitCount_0f7a4_26 : decode cJ6_bitCount_0f7a4 26 = .ok (.iconst 4, 1) := by decide +kernel
theorem dJ6_bitCount_0f7a4_27 : decode cJ6_bitCount_0f7a4 27 = .ok (.iushr, 1) := by decide +kernel
theorem dJ6_bitCount_0f7a4_28 : decode cJ6_bitCount_0f7a4 28 = .ok (.iadd, 1) := by decide +kernel
theorem dJ6_bitCount_0f7a4_29 : decode cJ6_bitCount_0f7a4 29 = .ok (.ldc_w 267, 3) := by decide +kernel
theorem dJ6_bitCount_0f7a4_32 : decode cJ6_bitCount_0f7a4 32 = .ok (.iand, 1) := by decide +kernel
theorem dJ6_bitCount_0f7a4_33 : decode cJ6_bitCount_0f7a4 33 = .ok (.istore_n 0, 1) := by decide +kernel
theorem dJ6_bitCount_0f7a4_34 : decode cJ6_bitCount_0f7a4 34 = .ok (.iload_n 0, 1) := by decide +kernel
theorem dJ6_bitCount_0f7a4_35 : decode cJ6_bitCount_0f7a4 35 = .ok (.iload_n 0, 1) := by decide +kernel
theorem dJ6_bitCount_0f7a4_36 : decode cJ6_bitCount_0f7a4 36 = .ok (.bipush 8, 2) := by decide +kernel
theorem dJ6_bitCount_0f7a4_38 : decode cJ6_bitCount_0f7a4 38 = .ok (.iushr, 1) := by decide +kernel
theorem dJ6_bitCount_0f7a4_39 : decode cJ6_bitCount_0f7a4 39 = .ok (.iadd, 1) := by decide +kernel
theorem dJ6_bitCount_0f7a4_40 : decode cJ6_bitCount_0f7a4 40 = .ok (.istore_n 0, 1) := by decide +kernel
theorem dJ6_bitCount_0f7a4_41 : decode cJ6_bitCount_0f7a4 41 = .ok (.iload_n 0, 1) := by decide +kernel
theorem dJ6_bitCount_0f7a4_42 : decode cJ6_bitCount_0f7a4 42 = .ok (.iload_n 0, 1) := by decide +kernel
theorem dJ6_bitCount_0f7a4_43 : decode cJ6_bitCount_0f7a4 43 = .ok (.bipush 16, 2) := by decide +kernel
theorem dJ6_bitCount_0f7a4_45 : decode cJ6_bitCount_0f7a4 45 = .ok (.iushr, 1) := by decide +kernel
theorem dJ6_bitCount_0f7a4_46 : decode cJ6_bitCount_0f7a4 46 = .ok (.iadd, 1) := by decide +kernel
theorem dJ6_bitCount_0f7a4_47 : decode cJ6_bitCount_0f7a4 47 = .ok (.istore_n 0, 1) := by decide +kernel
theorem dJ6_bitCount_0f7a4_48 : decode cJ6_bitCount_0f7a4 48 = .ok (.iload_n 0, 1) := by decide +kernel
theorem dJ6_bitCount_0f7a4_49 : decode cJ6_bitCount_0f7a4 49 = .ok (.bipush 63, 2) := by decide +kernel
theorem dJ6_bitCount_0f7a4_51 : decode cJ6_bitCount_0f7a4 51 = .ok (.iand, 1) := by decide +kernel
theorem dJ6_bitCount_0f7a4_52 : decode cJ6_bitCount_0f7a4 52 = .ok (.ireturn, 1) := by decide +kernel
