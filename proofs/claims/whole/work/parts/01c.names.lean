theorem dX7_copyFrom_98 : decode cX7_copyFrom 98 = .ok (.aload_n 1, 1) := by decide +kernel
theorem dX7_copyFrom_99 : decode cX7_copyFrom 99 = .ok (.getfield 33, 3) := by decide +kernel
theorem dX7_copyFrom_102 : decode cX7_copyFrom 102 = .ok (.iconst 0, 1) := by decide +kernel
theorem dX7_copyFrom_103 : decode cX7_copyFrom 103 = .ok (.aload_n 0, 1) := by decide +kernel
theorem dX7_copyFrom_104 : decode cX7_copyFrom 104 = .ok (.getfield 33, 3) := by decide +kernel
theorem dX7_copyFrom_107 : decode cX7_copyFrom 107 = .ok (.iconst 0, 1) := by decide +kernel
theorem dX7_copyFrom_108 : decode cX7_copyFrom 108 = .ok (.iload_n 3, 1) := by decide +kernel
theorem dX7_copyFrom_109 : decode cX7_copyFrom 109 = .ok (.invokestatic 39, 3) := by decide +kernel
theorem dX7_copyFrom_112 : decode cX7_copyFrom 112 = .ok (.aload_n 1, 1) := by decide +kernel
theorem dX7_copyFrom_113 : decode cX7_copyFrom 113 = .ok (.getfield 36, 3) := by decide +kernel
theorem dX7_copyFrom_116 : decode cX7_copyFrom 116 = .ok (.iconst 0, 1) := by decide +kernel
theorem dX7_copyFrom_117 : decode cX7_copyFrom 117 = .ok (.aload_n 0, 1) := by decide +kernel
theorem dX7_copyFrom_118 : decode cX7_copyFrom 118 = .ok (.getfield 36, 3) := by decide +kernel
theorem dX7_copyFrom_121 : decode cX7_copyFrom 121 = .ok (.iconst 0, 1) := by decide +kernel
theorem dX7_copyFrom_122 : decode cX7_copyFrom 122 = .ok (.iload_n 3, 1) := by decide +kernel
theorem dX7_copyFrom_123 : decode cX7_copyFrom 123 = .ok (.invokestatic 39, 3) := by decide +kernel
theorem dX7_copyFrom_126 : decode cX7_copyFrom 126 = .ok (.return_, 1) := by decide +kernel
set_option maxRecDepth 20000 in
theorem ggX8_init_X7_init : GoodIn wsX8_init wsX7_init := goodIn_r _ [13, 14, 2, 3, 15, 16, 17, 18, 19, 20, 21, 22, 23, 24, 37, 38, 39, 40, 41, 42, 43, 44, 45] (by decide +kernel) (by decide +kernel)
set_option maxRecDepth 20000 in
theorem gX8_init_X7_init_n9 : GoodIn wsX8_init (wsX7_init) := ggX8_init_X7_init
set_option maxRecDepth 20000 in
theorem ggX8_init_X9_init : GoodIn wsX8_init wsX9_init := goodIn_r _ [26, 27, 2, 3, 15, 28, 29, 30, 31, 32, 33, 34, 35, 36, 49, 50, 51, 52, 53, 54, 55, 56, 57, 58, 59, 60, 61, 62] (by decide +kernel) (by decide +kernel)
set_option maxRecDepth 20000 in
theorem gX8_init_X9_init_n18 : GoodIn wsX8_init (wsX9_init) := ggX8_init_X9_init
theorem dX8_init_0 : decode cX8_init 0 = .ok (.aload_n 0, 1) := by decide +kernel
theorem dX8_init_1 : decode cX8_init 1 = .ok (.invokespecial 1, 3) := by decide +kernel
theorem dX8_init_4 : decode cX8_init 4 = .ok (.aload_n 0, 1) := by decide +kernel
theorem dX8_init_5 : decode cX8_init 5 = .ok (.new 7, 3) := by decide +kernel
theorem dX8_init_8 : decode cX8_init 8 = .ok (.dup, 1) := by decide +kernel
theorem dX8_init_9 : decode cX8_init 9 = .ok (.invokespecial 9, 3) := by decide +kernel
theorem dX8_init_12 : decode cX8_init 12 = .ok (.putfield 10, 3) := by decide +kernel
theorem dX8_init_15 : decode cX8_init 15 = .ok (.aload_n 0, 1) := by decide +kernel
theorem dX8_init_16 : decode cX8_init 16 = .ok (.new 16, 3) := by decide +kernel
theorem dX8_init_19 : decode cX8_init 19 = .ok (.dup, 1) := by decide +kernel
theorem dX8_init_20 : decode cX8_init 20 = .ok (.invokespecial 18, 3) := by decide +kernel
theorem dX8_init_23 : decode cX8_init 23 = .ok (.putfield 19, 3) := by decide +kernel
theorem dX8_init_26 : decode cX8_init 26 = .ok (.return_, 1) := by decide +kernel
set_option maxRecDepth 20000 in
theorem ggX8_keep_X9_copyFrom : GoodIn wsX8_keep wsX9_copyFrom := goodIn_r _ [12, 13, 14, 15, 16, 17, 18, 19, 20, 21, 22, 23, 24, 25, 26, 27, 28, 29, 30, 52, 53, 54, 55, 56, 57, 58, 59, 60, 61, 62, 63, 64, 65] (by decide +kernel) (by decide +kernel)
set_option maxRecDepth 20000 in
theorem gX8_keep_X9_copyFrom : GoodIn wsX8_keep (wsV RX8 28 RX9 yX9_copyFrom wsX9_copyFrom) := goodIn_app (goodIn_of _ (by decide +kernel)) ggX8_keep_X9_copyFrom
set_option maxRecDepth 20000 in
theorem ggX8_keep_X7_copyFrom : GoodIn wsX8_keep wsX7_copyFrom := goodIn_r _ [35, 36, 37, 21, 22, 23, 38, 39, 40, 41, 42, 43, 44, 45, 66, 67, 68, 69, 70, 71, 72, 73, 74] (by decide +kernel) (by decide +kernel)
set_option maxRecDepth 20000 in
theorem gX8_keep_X7_copyFrom : GoodIn wsX8_keep (wsV RX8 40 RX7 yX7_copyFrom wsX7_copyFrom) := goodIn_app (goodIn_of _ (by decide +kernel)) ggX8_keep_X7_copyFrom
theorem dX8_keep_0 : decode cX8_keep 0 = .ok (.aload_n 0, 1) := by decide +kernel
theorem dX8_keep_1 : decode cX8_keep 1 = .ok (.getfield 19, 3) := by decide +kernel
theorem dX8_keep_4 : decode cX8_keep 4 = .ok (.aload_n 1, 1) := by decide +kernel
theorem dX8_keep_5 : decode cX8_keep 5 = .ok (.getfield 23, 3) := by decide +kernel
theorem dX8_keep_8 : decode cX8_keep 8 = .ok (.invokevirtual 28, 3) := by decide +kernel
theorem dX8_keep_11 : decode cX8_keep 11 = .ok (.aload_n 0, 1) := by decide +kernel
theorem dX8_keep_12 : decode cX8_keep 12 = .ok (.getfield 10, 3) := by decide +kernel
theorem dX8_keep_15 : decode cX8_keep 15 = .ok (.aload_n 1, 1) := by decide +kernel
theorem dX8_keep_16 : decode cX8_keep 16 = .ok (.getfield 32, 3) := by decide +kernel
theorem dX8_keep_19 : decode cX8_keep 19 = .ok (.aload_n 0, 1) := by decide +kernel
theorem dX8_keep_20 : decode cX8_keep 20 = .ok (.getfield 19, 3) := by decide +kernel
theorem dX8_keep_23 : decode cX8_keep 23 = .ok (.getfield 33, 3) := by decide +kernel
theorem dX8_keep_26 : decode cX8_keep 26 = .ok (.aload_n 0, 1) := by decide +kernel
theorem dX8_keep_27 : decode cX8_keep 27 = .ok (.getfield 19, 3) := by decide +kernel
theorem dX8_keep_30 : decode cX8_keep 30 = .ok (.getfield 37, 3) := by decide +kernel
theorem dX8_keep_33 : decode cX8_keep 33 = .ok (.invokevirtual 40, 3) := by decide +kernel
theorem dX8_keep_36 : decode cX8_keep 36 = .ok (.aload_n 0, 1) := by decide +kernel
theorem dX8_keep_37 : decode cX8_keep 37 = .ok (.iconst 1, 1) := by decide +kernel
theorem dX8_keep_38 : decode cX8_keep 38 = .ok (.putfield 43, 3) := by decide +kernel
theorem dX8_keep_41 : decode cX8_keep 41 = .ok (.return_, 1) := by decide +kernel
set_option maxRecDepth 20000 in
theorem ggX8_giveBack_X9_copyFrom : GoodIn wsX8_giveBack wsX9_copyFrom := goodIn_r _ [11, 12, 13, 14, 15, 16, 17, 18, 19, 20, 21, 22, 23, 24, 25, 26, 27, 28, 29, 51, 52, 53, 54, 55, 56, 57, 58, 59, 60, 61, 62, 63, 64] (by decide +kernel) (by decide +kernel)
set_option maxRecDepth 20000 in
theorem gX8_giveBack_X9_copyFrom : GoodIn wsX8_giveBack (wsV RX8 28 RX9 yX9_copyFrom wsX9_copyFrom) := goodIn_app (goodIn_of _ (by decide +kernel)) ggX8_giveBack_X9_copyFrom
set_option maxRecDepth 20000 in
theorem ggX8_giveBack_X7_copyFrom : GoodIn wsX8_giveBack wsX7_copyFrom := goodIn_r _ [34, 35, 36, 20, 21, 22, 37, 38, 39, 40, 41, 42, 43, 44, 65, 66, 67, 68, 69, 70, 71, 72, 73] (by decide +kernel) (by decide +kernel)
set_option maxRecDepth 20000 in
theorem gX8_giveBack_X7_copyFrom : GoodIn wsX8_giveBack (wsV RX8 40 RX7 yX7_copyFrom wsX7_copyFrom) := goodIn_app (goodIn_of _ (by decide +kernel)) ggX8_giveBack_X7_copyFrom
theorem dX8_giveBack_0 : decode cX8_giveBack 0 = .ok (.aload_n 1, 1) := by decide +kernel
theorem dX8_giveBack_1 : decode cX8_giveBack 1 = .ok (.getfield 23, 3) := by decide +kernel
theorem dX8_giveBack_4 : decode cX8_giveBack 4 = .ok (.aload_n 0, 1) := by decide +kernel
theorem dX8_giveBack_5 : decode cX8_giveBack 5 = .ok (.getfield 19, 3) := by decide +kernel
theorem dX8_giveBack_8 : decode cX8_giveBack 8 = .ok (.invokevirtual 28, 3) := by decide +kernel
theorem dX8_giveBack_11 : decode cX8_giveBack 11 = .ok (.aload_n 1, 1) := by decide +kernel
theorem dX8_giveBack_12 : decode cX8_giveBack 12 = .ok (.getfield 32, 3) := by decide +kernel
theorem dX8_giveBack_15 : decode cX8_giveBack 15 = .ok (.aload_n 0, 1) := by decide +kernel
theorem dX8_giveBack_16 : decode cX8_giveBack 16 = .ok (.getfield 10, 3) := by decide +kernel
theorem dX8_giveBack_19 : decode cX8_giveBack 19 = .ok (.aload_n 0, 1) := by decide +kernel
theorem dX8_giveBack_20 : decode cX8_giveBack 20 = .ok (.getfield 19, 3) := by decide +kernel
theorem dX8_giveBack_23 : decode cX8_giveBack 23 = .ok (.getfield 33, 3) := by decide +kernel
theorem dX8_giveBack_26 : decode cX8_giveBack 26 = .ok (.aload_n 0, 1) := by decide +kernel
theorem dX8_giveBack_27 : decode cX8_giveBack 27 = .ok (.getfield 19, 3) := by decide +kernel
theorem dX8_giveBack_30 : decode cX8_giveBack 30 = .ok (.getfield 37, 3) := by decide +kernel
theorem dX8_giveBack_33 : decode cX8_giveBack 33 = .ok (.invokevirtual 40, 3) := by decide +kernel
theorem dX8_giveBack_36 : decode cX8_giveBack 36 = .ok (.return_, 1) := by decide +kernel
theorem dX9_init_0 : decode cX9_init 0 = .ok (.aload_n 0, 1) := by decide +kernel
theorem dX9_init_1 : decode cX9_init 1 = .ok (.invokespecial 3, 3) := by decide +kernel
theorem dX9_init_4 : decode cX9_init 4 = .ok (.aload_n 0, 1) := by decide +kernel
theorem dX9_init_5 : decode cX9_init 5 = .ok (.bipush 100, 2) := by decide +kernel
theorem dX9_init_7 : decode cX9_init 7 = .ok (.newarray .int, 2) := by decide +kernel
theorem dX9_init_9 : decode cX9_init 9 = .ok (.putfield 9, 3) := by decide +kernel
theorem dX9_init_12 : decode cX9_init 12 = .ok (.aload_n 0, 1) := by decide +kernel
theorem dX9_init_13 : decode cX9_init 13 = .ok (.bipush 100, 2) := by decide +kernel
theorem dX9_init_15 : decode cX9_init 15 = .ok (.newarray .int, 2) := by decide +kernel
theorem dX9_init_17 : decode cX9_init 17 = .ok (.putfield 15, 3) := by decide +kernel
theorem dX9_init_20 : decode cX9_init 20 = .ok (.aload_n 0, 1) := by decide +kernel
theorem dX9_init_21 : decode cX9_init 21 = .ok (.bipush 100, 2) := by decide +kernel
theorem dX9_init_23 : decode cX9_init 23 = .ok (.newarray .int, 2) := by decide +kernel
theorem dX9_init_25 : decode cX9_init 25 = .ok (.putfield 18, 3) := by decide +kernel
theorem dX9_init_28 : decode cX9_init 28 = .ok (.aload_n 0, 1) := by decide +kernel
theorem dX9_init_29 : decode cX9_init 29 = .ok (.bipush 100, 2) := by decide +kernel
theorem dX9_init_31 : decode cX9_init 31 = .ok (.newarray .long, 2) := by decide +kernel
theorem dX9_init_33 : decode cX9_init 33 = .ok (.putfield 21, 3) := by decide +kernel
theorem dX9_init_36 : decode cX9_init 36 = .ok (.aload_n 0, 1) := by decide +kernel
theorem dX9_init_37 : decode cX9_init 37 = .ok (.bipush 100, 2) := by decide +kernel
theorem dX9_init_39 : decode cX9_init 39 = .ok (.newarray .long, 2) := by decide +kernel
theorem dX9_init_41 : decode cX9_init 41 = .ok (.putfield 25, 3) := by decide +kernel
theorem dX9_init_44 : decode cX9_init 44 = .ok (.aload_n 0, 1) := by decide +kernel
theorem dX9_init_45 : decode cX9_init 45 = .ok (.bipush 100, 2) := by decide +kernel
theorem dX9_init_47 : decode cX9_init 47 = .ok (.newarray .int, 2) := by decide +kernel
theorem dX9_init_49 : decode cX9_init 49 = .ok (.putfield 28, 3) := by decide +kernel
theorem dX9_init_52 : decode cX9_init 52 = .ok (.aload_n 0, 1) := by decide +kernel
theorem dX9_init_53 : decode cX9_init 53 = .ok (.iconst 4, 1) := by decide +kernel
theorem dX9_init_54 : decode cX9_init 54 = .ok (.newarray .int, 2) := by decide +kernel
theorem dX9_init_56 : decode cX9_init 56 = .ok (.putfield 31, 3) := by decide +kernel
theorem dX9_init_59 : decode cX9_init 59 = .ok (.aload_n 0, 1) := by decide +kernel
theorem dX9_init_60 : decode cX9_init 60 = .ok (.bipush 6, 2) := by decide +kernel
theorem dX9_init_62 : decode cX9_init 62 = .ok (.newarray .long, 2) := by decide +kernel
theorem dX9_init_64 : decode cX9_init 64 = .ok (.putfield 34, 3) := by decide +kernel
theorem dX9_init_67 : decode cX9_init 67 = .ok (.return_, 1) := by decide +kernel
theorem dX9_startWith_0 : decode cX9_startWith 0 = .ok (.aload_n 0, 1) := by decide +kernel
theorem dX9_startWith_1 : decode cX9_startWith 1 = .ok (.iconst 0, 1) := by decide +kernel
theorem dX9_startWith_2 : decode cX9_startWith 2 = .ok (.putfield 37, 3) := by decide +kernel
theorem dX9_startWith_5 : decode cX9_startWith 5 = .ok (.aload_n 0, 1) := by decide +kernel
theorem dX9_startWith_6 : decode cX9_startWith 6 = .ok (.iconst 0, 1) := by decide +kernel
theorem dX9_startWith_7 : decode cX9_startWith 7 = .ok (.putfield 41, 3) := by decide +kernel
theorem dX9_startWith_10 : decode cX9_startWith 10 = .ok (.aload_n 0, 1) := by decide +kernel
theorem dX9_startWith_11 : decode cX9_startWith 11 = .ok (.aload_n 1, 1) := by decide +kernel
theorem dX9_startWith_12 : decode cX9_startWith 12 = .ok (.getfield 44, 3) := by decide +kernel
theorem dX9_startWith_15 : decode cX9_startWith 15 = .ok (.putfield 49, 3) := by decide +kernel
theorem dX9_startWith_18 : decode cX9_startWith 18 = .ok (.aload_n 0, 1) := by decide +kernel
theorem dX9_startWith_19 : decode cX9_startWith 19 = .ok (.lconst 0, 1) := by decide +kernel
theorem dX9_startWith_20 : decode cX9_startWith 20 = .ok (.putfield 50, 3) := by decide +kernel
theorem dX9_startWith_23 : decode cX9_startWith 23 = .ok (.aload_n 0, 1) := by decide +kernel
theorem dX9_startWith_24 : decode cX9_startWith 24 = .ok (.lconst 0, 1) := by decide +kernel
theorem dX9_startWith_25 : decode cX9_startWith 25 = .ok (.putfield 54, 3) := by decide +kernel
theorem dX9_startWith_28 : decode cX9_startWith 28 = .ok (.aload_n 0, 1) := by decide +kernel
theorem dX9_startWith_29 : decode cX9_startWith 29 = .ok (.lconst 0, 1) := by decide +kernel
theorem dX9_startWith_30 : decode cX9_startWith 30 = .ok (.putfield 57, 3) := by decide +kernel
theorem dX9_startWith_33 : decode cX9_startWith 33 = .ok (.aload_n 1, 1) := by decide +kernel
theorem dX9_startWith_34 : decode cX9_startWith 34 = .ok (.getfield 60, 3) := by decide +kernel
theorem dX9_startWith_37 : decode cX9_startWith 37 = .ok (.iconst 0, 1) := by decide +kernel
theorem dX9_startWith_38 : decode cX9_startWith 38 = .ok (.aload_n 0, 1) := by decide +kernel
theorem dX9_startWith_39 : decode cX9_startWith 39 = .ok (.getfield 31, 3) := by decide +kernel
theorem dX9_startWith_42 : decode cX9_startWith 42 = .ok (.iconst 0, 1) := by decide +kernel
theorem dX9_startWith_43 : decode cX9_startWith 43 = .ok (.iconst 4, 1) := by decide +kernel
theorem dX9_startWith_44 : decode cX9_startWith 44 = .ok (.invokestatic 63, 3) := by decide +kernel
theorem dX9_startWith_47 : decode cX9_startWith 47 = .ok (.iconst 0, 1) := by decide +kernel
theorem dX9_startWith_48 : decode cX9_startWith 48 = .ok (.istore_n 2, 1) := by decide +kernel
theorem dX9_startWith_49 : decode cX9_startWith 49 = .ok (.iload_n 2, 1) := by decide +kernel
theorem dX9_startWith_50 : decode cX9_startWith 50 = .ok (.bipush 6, 2) := by decide +kernel
theorem dX9_startWith_52 : decode cX9_startWith 52 = .ok (.if_icmp .ge 16, 3) := by decide +kernel
theorem dX9_startWith_55 : decode cX9_startWith 55 = .ok (.aload_n 0, 1) := by decide +kernel
theorem dX9_startWith_56 : decode cX9_startWith 56 = .ok (.getfield 34, 3) := by decide +kernel
theorem dX9_startWith_59 : decode cX9_startWith 59 = .ok (.iload_n 2, 1) := by decide +kernel
theorem dX9_startWith_60 : decode cX9_startWith 60 = .ok (.lconst 0, 1) := by decide +kernel
theorem dX9_startWith_61 : decode cX9_startWith 61 = .ok (.lastore, 1) := by decide +kernel
theorem dX9_startWith_62 : decode cX9_startWith 62 = .ok (.iinc 2 1, 3) := by decide +kernel
theorem dX9_startWith_65 : decode cX9_startWith 65 = .ok (.goto (-16), 3) := by decide +kernel
theorem dX9_startWith_68 : decode cX9_startWith 68 = .ok (.return_, 1) := by decide +kernel
theorem dX9_putPair_0 : decode cX9_putPair 0 = .ok (.aload_n 0, 1) := by decide +kernel
theorem dX9_putPair_1 : decode cX9_putPair 1 = .ok (.getfield 18, 3) := by decide +kernel
theorem dX9_putPair_4 : decode cX9_putPair 4 = .ok (.iload_n 1, 1) := by decide +kernel
theorem dX9_putPair_5 : decode cX9_putPair 5 = .ok (.iload_n 2, 1) := by decide +kernel
theorem dX9_putPair_6 : decode cX9_putPair 6 = .ok (.iastore, 1) := by decide +kernel
theorem dX9_putPair_7 : decode cX9_putPair 7 = .ok (.aload_n 0, 1) := by decide +kernel
theorem dX9_putPair_8 : decode cX9_putPair 8 = .ok (.getfield 15, 3) := by decide +kernel
theorem dX9_putPair_11 : decode cX9_putPair 11 = .ok (.iload_n 1, 1) := by decide +kernel
theorem dX9_putPair_12 : decode cX9_putPair 12 = .ok (.iload_n 3, 1) := by decide +kernel
theorem dX9_putPair_13 : decode cX9_putPair 13 = .ok (.iastore, 1) := by decide +kernel
theorem dX9_putPair_14 : decode cX9_putPair 14 = .ok (.return_, 1) := by decide +kernel
theorem dX9_copyFrom_0 : decode cX9_copyFrom 0 = .ok (.aload_n 0, 1) := by decide +kernel
theorem dX9_copyFrom_1 : decode cX9_copyFrom 1 = .ok (.aload_n 1, 1) := by decide +kernel
theorem dX9_copyFrom_2 : decode cX9_copyFrom 2 = .ok (.getfield 37, 3) := by decide +kernel
theorem dX9_copyFrom_5 : decode cX9_copyFrom 5 = .ok (.putfield 37, 3) := by decide +kernel
theorem dX9_copyFrom_8 : decode cX9_copyFrom 8 = .ok (.aload_n 0, 1) := by decide +kernel
theorem dX9_copyFrom_9 : decode cX9_copyFrom 9 = .ok (.aload_n 1, 1) := by decide +kernel
theorem dX9_copyFrom_10 : decode cX9_copyFrom 10 = .ok (.getfield 41, 3) := by decide +kernel
theorem dX9_copyFrom_13 : decode cX9_copyFrom 13 = .ok (.putfield 41, 3) := by decide +kernel
theorem dX9_copyFrom_16 : decode cX9_copyFrom 16 = .ok (.aload_n 0, 1) := by decide +kernel
theorem dX9_copyFrom_17 : decode cX9_copyFrom 17 = .ok (.aload_n 1, 1) := by decide +kernel
theorem dX9_copyFrom_18 : decode cX9_copyFrom 18 = .ok (.getfield 49, 3) := by decide +kernel
theorem dX9_copyFrom_21 : decode cX9_copyFrom 21 = .ok (.putfield 49, 3) := by decide +kernel
theorem dX9_copyFrom_24 : decode cX9_copyFrom 24 = .ok (.aload_n 0, 1) := by decide +kernel
theorem dX9_copyFrom_25 : decode cX9_copyFrom 25 = .ok (.aload_n 1, 1) := by decide +kernel
theorem dX9_copyFrom_26 : decode cX9_copyFrom 26 = .ok (.getfield 50, 3) := by decide +kernel
theorem dX9_copyFrom_29 : decode cX9_copyFrom 29 = .ok (.putfield 50, 3) := by decide +kernel
theorem dX9_copyFrom_32 : decode cX9_copyFrom 32 = .ok (.aload_n 0, 1) := by decide +kernel
theorem dX9_copyFrom_33 : decode cX9_copyFrom 33 = .ok (.aload_n 1, 1) := by decide +kernel
theorem dX9_copyFrom_34 : decode cX9_copyFrom 34 = .ok (.getfield 54, 3) := by decide +kernel
theorem dX9_copyFrom_37 : decode cX9_copyFrom 37 = .ok (.putfield 54, 3) := by decide +kernel
theorem dX9_copyFrom_40 : decode cX9_copyFrom 40 = .ok (.aload_n 0, 1) := by decide +kernel
theorem dX9_copyFrom_41 : decode cX9_copyFrom 41 = .ok (.aload_n 1, 1) := by decide +kernel
theorem dX9_copyFrom_42 : decode cX9_copyFrom 42 = .ok (.getfield 57, 3) := by decide +kernel
theorem dX9_copyFrom_45 : decode cX9_copyFrom 45 = .ok (.putfield 57, 3) := by decide +kernel
theorem dX9_copyFrom_48 : decode cX9_copyFrom 48 = .ok (.aload_n 1, 1) := by decide +kernel
theorem dX9_copyFrom_49 : decode cX9_copyFrom 49 = .ok (.getfield 9, 3) := by decide +kernel
theorem dX9_copyFrom_52 : decode cX9_copyFrom 52 = .ok (.iconst 0, 1) := by decide +kernel
theorem dX9_copyFrom_53 : decode cX9_copyFrom 53 = .ok (.aload_n 0, 1) := by decide +kernel
theorem dX9_copyFrom_54 : decode cX9_copyFrom 54 = .ok (.getfield 9, 3) := by decide +kernel
theorem dX9_copyFrom_57 : decode cX9_copyFrom 57 = .ok (.iconst 0, 1) := by decide +kernel
theorem dX9_copyFrom_58 : decode cX9_copyFrom 58 = .ok (.aload_n 0, 1) := by decide +kernel
theorem dX9_copyFrom_59 : decode cX9_copyFrom 59 = .ok (.getfield 37, 3) := by decide +kernel
theorem dX9_copyFrom_62 : decode cX9_copyFrom 62 = .ok (.invokestatic 63, 3) := by decide +kernel
theorem dX9_copyFrom_65 : decode cX9_copyFrom 65 = .ok (.aload_n 1, 1) := by decide +kernel
theorem dX9_copyFrom_66 : decode cX9_copyFrom 66 = .ok (.getfield 15, 3) := by decide +kernel
theorem dX9_copyFrom_69 : decode cX9_copyFrom 69 = .ok (.iconst 0, 1) := by decide +kernel
theorem dX9_copyFrom_70 : decode cX9_copyFrom 70 = .ok (.aload_n 0, 1) := by decide +kernel
theorem dX9_copyFrom_71 : decode cX9_copyFrom 71 = .ok (.getfield 15, 3) := by decide +kernel
theorem dX9_copyFrom_74 : decode cX9_copyFrom 74 = .ok (.iconst 0, 1) := by decide +kernel
theorem dX9_copyFrom_75 : decode cX9_copyFrom 75 = .ok (.aload_n 0, 1) := by decide +kernel
theorem dX9_copyFrom_76 : decode cX9_copyFrom 76 = .ok (.getfield 37, 3) := by decide +kernel
theorem dX9_copyFrom_79 : decode cX9_copyFrom 79 = .ok (.invokestatic 63, 3) := by decide +kernel
theorem dX9_copyFrom_82 : decode cX9_copyFrom 82 = .ok (.aload_n 1, 1) := by decide +kernel
theorem dX9_copyFrom_83 : decode cX9_copyFrom 83 = .ok (.getfield 18, 3) := by decide +kernel
theorem dX9_copyFrom_86 : decode cX9_copyFrom 86 = .ok (.iconst 0, 1) := by decide +kernel
theorem dX9_copyFrom_87 : decode cX9_copyFrom 87 = .ok (.aload_n 0, 1) := by decide +kernel
theorem dX9_copyFrom_88 : decode cX9_copyFrom 88 = .ok (.getfield 18, 3) := by decide +kernel
theorem dX9_copyFrom_91 : decode cX9_copyFrom 91 = .ok (.iconst 0, 1) := by decide +kernel
theorem dX9_copyFrom_92 : decode cX9_copyFrom 92 = .ok (.aload_n 0, 1) := by decide +kernel
theorem dX9_copyFrom_93 : decode cX9_copyFrom 93 = .ok (.getfield 37, 3) := by decide +kernel
theorem dX9_copyFrom_96 : decode cX9_copyFrom 96 = .ok (.invokestatic 63, 3) := by decide +kernel
theorem dX9_copyFrom_99 : decode cX9_copyFrom 99 = .ok (.aload_n 1, 1) := by decide +kernel
theorem dX9_copyFrom_100 : decode cX9_copyFrom 100 = .ok (.getfield 21, 3) := by decide +kernel
theorem dX9_copyFrom_103 : decode cX9_copyFrom 103 = .ok (.iconst 0, 1) := by decide +kernel
theorem dX9_copyFrom_104 : decode cX9_copyFrom 104 = .ok (.aload_n 0, 1) := by decide +kernel
theorem dX9_copyFrom_105 : decode cX9_copyFrom 105 = .ok (.getfield 21, 3) := by decide +kernel
theorem dX9_copyFrom_108 : decode cX9_copyFrom 108 = .ok (.iconst 0, 1) := by decide +kernel
theorem dX9_copyFrom_109 : decode cX9_copyFrom 109 = .ok (.aload_n 0, 1) := by decide +kernel
theorem dX9_copyFrom_110 : decode cX9_copyFrom 110 = .ok (.getfield 37, 3) := by decide +kernel
theorem dX9_copyFrom_113 : decode cX9_copyFrom 113 = .ok (.invokestatic 63, 3) := by decide +kernel
theorem dX9_copyFrom_116 : decode cX9_copyFrom 116 = .ok (.aload_n 1, 1) := by decide +kernel
theorem dX9_copyFrom_117 : decode cX9_copyFrom 117 = .ok (.getfield 25, 3) := by decide +kernel
theorem dX9_copyFrom_120 : decode cX9_copyFrom 120 = .ok (.iconst 0, 1) := by decide +kernel
theorem dX9_copyFrom_121 : decode cX9_copyFrom 121 = .ok (.aload_n 0, 1) := by decide +kernel
theorem dX9_copyFrom_122 : decode cX9_copyFrom 122 = .ok (.getfield 25, 3) := by decide +kernel
theorem dX9_copyFrom_125 : decode cX9_copyFrom 125 = .ok (.iconst 0, 1) := by decide +kernel
theorem dX9_copyFrom_126 : decode cX9_copyFrom 126 = .ok (.aload_n 0, 1) := by decide +kernel
theorem dX9_copyFrom_127 : decode cX9_copyFrom 127 = .ok (.getfield 37, 3) := by decide +kernel
theorem dX9_copyFrom_130 : decode cX9_copyFrom 130 = .ok (.invokestatic 63, 3) := by decide +kernel
theorem dX9_copyFrom_133 : decode cX9_copyFrom 133 = .ok (.aload_n 1, 1) := by decide +kernel
theorem dX9_copyFrom_134 : decode cX9_copyFrom 134 = .ok (.getfield 28, 3) := by decide +kernel
theorem dX9_copyFrom_137 : decode cX9_copyFrom 137 = .ok (.iconst 0, 1) := by decide +kernel
theorem dX9_copyFrom_138 : decode cX9_copyFrom 138 = .ok (.aload_n 0, 1) := by decide +kernel
theorem dX9_copyFrom_139 : decode cX9_copyFrom 139 = .ok (.getfield 28, 3) := by decide +kernel
theorem dX9_copyFrom_142 : decode cX9_copyFrom 142 = .ok (.iconst 0, 1) := by decide +kernel
theorem dX9_copyFrom_143 : decode cX9_copyFrom 143 = .ok (.aload_n 0, 1) := by decide +kernel
theorem dX9_copyFrom_144 : decode cX9_copyFrom 144 = .ok (.getfield 41, 3) := by decide +kernel
theorem dX9_copyFrom_147 : decode cX9_copyFrom 147 = .ok (.invokestatic 63, 3) := by decide +kernel
theorem dX9_copyFrom_150 : decode cX9_copyFrom 150 = .ok (.aload_n 1, 1) := by decide +kernel
theorem dX9_copyFrom_151 : decode cX9_copyFrom 151 = .ok (.getfield 31, 3) := by decide +kernel
theorem dX9_copyFrom_154 : decode cX9_copyFrom 154 = .ok (.iconst 0, 1) := by decide +kernel
theorem dX9_copyFrom_155 : decode cX9_copyFrom 155 = .ok (.aload_n 0, 1) := by decide +kernel
theorem dX9_copyFrom_156 : decode cX9_copyFrom 156 = .ok (.getfield 31, 3) := by decide +kernel
theorem dX9_copyFrom_159 : decode cX9_copyFrom 159 = .ok (.iconst 0, 1) := by decide +kernel
theorem dX9_copyFrom_160 : decode cX9_copyFrom 160 = .ok (.iconst 4, 1) := by decide +kernel
theorem dX9_copyFrom_161 : decode cX9_copyFrom 161 = .ok (.invokestatic 63, 3) := by decide +kernel
theorem dX9_copyFrom_164 : decode cX9_copyFrom 164 = .ok (.aload_n 1, 1) := by decide +kernel
theorem dX9_copyFrom_165 : decode cX9_copyFrom 165 = .ok (.getfield 34, 3) := by decide +kernel
theorem dX9_copyFrom_168 : decode cX9_copyFrom 168 = .ok (.iconst 0, 1) := by decide +kernel
theorem dX9_copyFrom_169 : decode cX9_copyFrom 169 = .ok (.aload_n 0, 1) := by decide +kernel
theorem dX9_copyFrom_170 : decode cX9_copyFrom 170 = .ok (.getfield 34, 3) := by decide +kernel
theorem dX9_copyFrom_173 : decode cX9_copyFrom 173 = .ok (.iconst 0, 1) := by decide +kernel
theorem dX9_copyFrom_174 : decode cX9_copyFrom 174 = .ok (.bipush 6, 2) := by decide +kernel
theorem dX9_copyFrom_176 : decode cX9_copyFrom 176 = .ok (.invokestatic 63, 3) := by decide +kernel
theorem dX9_copyFrom_179 : decode cX9_copyFrom 179 = .ok (.return_, 1) := by decide +kernel
set_option maxRecDepth 20000 in
theorem ggX10_init_X3_init : GoodIn wsX10_init wsX3_init := goodIn_r _ [33, 34, 2, 3, 35, 36, 37, 38, 39, 40, 41, 42, 43, 44, 45, 46, 47, 48, 49, 50, 145, 146, 147, 148, 149, 150, 151, 152, 153, 154, 155, 156, 114, 115, 116, 117, 118, 119, 120, 121, 122, 123, 124] (by decide +kernel) (by decide +kernel)
set_option maxRecDepth 20000 in
theorem gX10_init_X3_init_n9 : GoodIn wsX10_init (wsX3_init) := ggX10_init_X3_init
set_option maxRecDepth 20000 in
theorem ggX10_init_X0_init : GoodIn wsX10_init wsX0_init := goodIn_r _ [52, 53, 2, 3, 54, 36, 37, 55, 56, 57, 58, 59, 60, 61, 62, 63, 41, 42, 43, 44, 45, 46, 47, 48, 49, 50, 64, 65, 66, 67, 68, 69, 70, 71, 72, 73, 74, 75, 76, 77, 78, 79, 80, 81, 82, 83, 84, 85, 86, 87, 145, 146, 147, 148, 149, 150, 151, 152, 153, 154, 155, 156, 132, 133, 134, 157, 158, 159, 160, 161, 162, 163, 164, 165, 166, 167, 168, 169, 170, 171, 172, 173, 174, 175, 176, 177, 178, 179] (by decide +kernel) (by decide +kernel)
set_option maxRecDepth 20000 in
theorem gX10_init_X0_init_n18 : GoodIn wsX10_init (wsX0_init) := ggX10_init_X0_init
set_option maxRecDepth 20000 in
theorem ggX10_init_X5_init : GoodIn wsX10_init wsX5_init := goodIn_r _ [89, 90, 2, 3, 44, 91, 135] (by decide +kernel) (by decide +kernel)
set_option maxRecDepth 20000 in
theorem gX10_init_X5_init_n25 : GoodIn wsX10_init (wsX5_init) := ggX10_init_X5_init
set_option maxRecDepth 20000 in
theorem ggX10_init_X6_init : GoodIn wsX10_init wsX6_init := goodIn_r _ [93, 94, 2, 3, 82, 95, 96, 44, 97, 136, 137, 138] (by decide +kernel) (by decide +kernel)
set_option maxRecDepth 20000 in
theorem gX10_init_X6_init_n32 : GoodIn wsX10_init (wsX6_init) := ggX10_init_X6_init
set_option maxRecDepth 20000 in
theorem ggX10_init_X1_init : GoodIn wsX10_init wsX1_init := goodIn_r _ [99, 100, 2, 3] (by decide +kernel) (by decide +kernel)
set_option maxRecDepth 20000 in
theorem gX10_init_X1_init_n39 : GoodIn wsX10_init (wsX1_init) := ggX10_init_X1_init
set_option maxRecDepth 20000 in
theorem ggX10_init_X4_init : GoodIn wsX10_init wsX4_init := goodIn_r _ [103, 104, 2, 3, 105, 106, 61, 62, 76, 77, 78, 44, 79, 80, 81, 82, 83, 84, 85, 86, 87, 139, 140, 141, 166, 167, 168, 169, 170, 171, 172, 173, 174, 175, 176, 177, 178, 179] (by decide +kernel) (by decide +kernel)
set_option maxRecDepth 20000 in
theorem gX10_init_X4_init : GoodIn wsX10_init (wsX4_init) := ggX10_init_X4_init
set_option maxRecDepth 20000 in
theorem ggX10_init_X8_init : GoodIn wsX10_init wsX8_init := goodIn_r _ [108, 109, 2, 3, 110, 57, 58, 111, 112, 61, 62, 113, 64, 65, 66, 44, 67, 68, 69, 70, 71, 72, 73, 74, 75, 76, 77, 78, 79, 80, 81, 82, 83, 84, 85, 86, 87, 157, 158, 159, 160, 161, 162, 163, 164, 165, 142, 143, 144, 166, 167, 168, 169, 170, 171, 172, 173, 174, 175, 176, 177, 178, 179] (by decide +kernel) (by decide +kernel)
set_option maxRecDepth 20000 in
theorem gX10_init_X8_init_n57 : GoodIn wsX10_init (wsX8_init) := ggX10_init_X8_init
theorem dX10_init_0 : decode cX10_init 0 = .ok (.aload_n 0, 1) := by decide +kernel
theorem dX10_init_1 : decode cX10_init 1 = .ok (.invokespecial 1, 3) := by decide +kernel
theorem dX10_init_4 : decode cX10_init 4 = .ok (.aload_n 0, 1) := by decide +kernel
theorem dX10_init_5 : decode cX10_init 5 = .ok (.new 7, 3) := by decide +kernel
theorem dX10_init_8 : decode cX10_init 8 = .ok (.dup, 1) := by decide +kernel
theorem dX10_init_9 : decode cX10_init 9 = .ok (.invokespecial 9, 3) := by decide +kernel
theorem dX10_init_12 : decode cX10_init 12 = .ok (.putfield 10, 3) := by decide +kernel
theorem dX10_init_15 : decode cX10_init 15 = .ok (.aload_n 0, 1) := by decide +kernel
theorem dX10_init_16 : decode cX10_init 16 = .ok (.new 16, 3) := by decide +kernel
theorem dX10_init_19 : decode cX10_init 19 = .ok (.dup, 1) := by decide +kernel
theorem dX10_init_20 : decode cX10_init 20 = .ok (.invokespecial 18, 3) := by decide +kernel
theorem dX10_init_23 : decode cX10_init 23 = .ok (.putfield 19, 3) := by decide +kernel
theorem dX10_init_26 : decode cX10_init 26 = .ok (.aload_n 0, 1) := by decide +kernel
theorem dX10_init_27 : decode cX10_init 27 = .ok (.new 23, 3) := by decide +kernel
theorem dX10_init_30 : decode cX10_init 30 = .ok (.dup, 1) := by decide +kernel
theorem dX10_init_31 : decode cX10_init 31 = .ok (.invokespecial 25, 3) := by decide +kernel
theorem dX10_init_34 : decode cX10_init 34 = .ok (.putfield 26, 3) := by decide +kernel
theorem dX10_init_37 : decode cX10_init 37 = .ok (.aload_n 0, 1) := by decide +kernel
theorem dX10_init_38 : decode cX10_init 38 = .ok (.new 30, 3) := by decide +kernel
theorem dX10_init_41 : decode cX10_init 41 = .ok (.dup, 1) := by decide +kernel
theorem dX10_init_42 : decode cX10_init 42 = .ok (.invokespecial 32, 3) := by decide +kernel
theorem dX10_init_45 : decode cX10_init 45 = .ok (.putfield 33, 3) := by decide +kernel
theorem dX10_init_48 : decode cX10_init 48 = .ok (.aload_n 0, 1) := by decide +kernel
theorem dX10_init_49 : decode cX10_init 49 = .ok (.new 37, 3) := by decide +kernel
theorem dX10_init_52 : decode cX10_init 52 = .ok (.dup, 1) := by decide +kernel
theorem dX10_init_53 : decode cX10_init 53 = .ok (.invokespecial 39, 3) := by decide +kernel
theorem dX10_init_56 : decode cX10_init 56 = .ok (.putfield 40, 3) := by decide +kernel
theorem dX10_init_59 : decode cX10_init 59 = .ok (.aload_n 0, 1) := by decide +kernel
theorem dX10_init_60 : decode cX10_init 60 = .ok (.new 44, 3) := by decide +kernel
theorem dX10_init_63 : decode cX10_init 63 = .ok (.dup, 1) := by decide +kernel
theorem dX10_init_64 : decode cX10_init 64 = .ok (.invokespecial 46, 3) := by decide +kernel
theorem dX10_init_67 : decode cX10_init 67 = .ok (.putfield 47, 3) := by decide +kernel
theorem dX10_init_70 : decode cX10_init 70 = .ok (.aload_n 0, 1) := by decide +kernel
theorem dX10_init_71 : decode cX10_init 71 = .ok (.iconst 2, 1) := by decide +kernel
theorem dX10_init_72 : decode cX10_init 72 = .ok (.anewarray 51, 3) := by decide +kernel
theorem dX10_init_75 : decode cX10_init 75 = .ok (.putfield 53, 3) := by decide +kernel
theorem dX10_init_78 : decode cX10_init 78 = .ok (.iconst 0, 1) := by decide +kernel
theorem dX10_init_79 : decode cX10_init 79 = .ok (.istore_n 1, 1) := by decide +kernel
theorem dX10_init_80 : decode cX10_init 80 = .ok (.iload_n 1, 1) := by decide +kernel
theorem dX10_init_81 : decode cX10_init 81 = .ok (.iconst 2, 1) := by decide +kernel
theorem dX10_init_82 : decode cX10_init 82 = .ok (.if_icmp .ge 22, 3) := by decide +kernel
theorem dX10_init_85 : decode cX10_init 85 = .ok (.aload_n 0, 1) := by decide +kernel
theorem dX10_init_86 : decode cX10_init 86 = .ok (.getfield 53, 3) := by decide +kernel
theorem dX10_init_89 : decode cX10_init 89 = .ok (.iload_n 1, 1) := by decide +kernel
theorem dX10_init_90 : decode cX10_init 90 = .ok (.new 51, 3) := by decide +kernel
theorem dX10_init_93 : decode cX10_init 93 = .ok (.dup, 1) := by decide +kernel
theorem dX10_init_94 : decode cX10_init 94 = .ok (.invokespecial 57, 3) := by decide +kernel
theorem dX10_init_97 : decode cX10_init 97 = .ok (.aastore, 1) := by decide +kernel
theorem dX10_init_98 : decode cX10_init 98 = .ok (.iinc 1 1, 3) := by decide +kernel
theorem dX10_init_101 : decode cX10_init 101 = .ok (.goto (-21), 3) := by decide +kernel
theorem dX10_init_104 : decode cX10_init 104 = .ok (.return_, 1) := by decide +kernel
set_option maxRecDepth 20000 in
theorem ggX10_append_X3_addTwenty : GoodIn wsX10_append wsX3_addTwenty := goodIn_r _ [6, 7, 8, 9, 10, 5, 11, 12, 20, 21, 22, 23, 24, 25, 26, 27, 28, 29, 30] (by decide +kernel) (by decide +kernel)
set_option maxRecDepth 20000 in
theorem gX10_append_X3_addTwenty : GoodIn wsX10_append (wsV RX10 58 RX3 yX3_addTwenty wsX3_addTwenty) := goodIn_app (goodIn_of _ (by decide +kernel)) ggX10_append_X3_addTwenty
theorem dX10_append_0 : decode cX10_append 0 = .ok (.aload_n 0, 1) := by decide +kernel
theorem dX10_append_1 : decode cX10_append 1 = .ok (.getfield 10, 3) := by decide +kernel
theorem dX10_append_4 : decode cX10_append 4 = .ok (.iload_n 1, 1) := by decide +kernel
theorem dX10_append_5 : decode cX10_append 5 = .ok (.iload_n 2, 1) := by decide +kernel
theorem dX10_append_6 : decode cX10_append 6 = .ok (.iload_n 3, 1) := by decide +kernel
theorem dX10_append_7 : decode cX10_append 7 = .ok (.iload 4, 2) := by decide +kernel
theorem dX10_append_9 : decode cX10_append 9 = .ok (.iload 5, 2) := by decide +kernel
theorem dX10_append_11 : decode cX10_append 11 = .ok (.invokevirtual 58, 3) := by decide +kernel
theorem dX10_append_14 : decode cX10_append 14 = .ok (.ireturn, 1) := by decide +kernel
set_option maxRecDepth 20000 in
theorem ggX10_parse_X3_readGroup : GoodIn wsX10_parse wsX3_readGroup := goodIn_r _ [16, 17, 18, 19, 20, 21, 22, 23, 24, 25, 26, 27, 28, 29, 30, 31, 32, 33, 34, 35, 36, 37, 38, 15, 39, 40, 41, 42, 43, 44, 45, 46, 47, 48, 49, 50, 51, 52, 53, 54, 55, 56, 57, 58, 59, 60, 61, 62, 63, 64, 65, 66, 67, 68, 69, 70, 71, 72, 73, 74, 75, 76, 77, 78, 79, 80, 81, 82, 83, 84, 85, 86, 87, 88, 89, 90, 91, 92, 93, 94, 95, 96, 97, 98, 99, 100, 101, 102, 103, 104, 105, 106, 107, 108, 109, 110, 111, 112, 113, 114, 115, 116, 117, 118, 119, 120, 121, 122, 123, 124, 125, 126, 127, 128, 129, 130, 131, 132, 133, 134, 135, 136, 137, 138, 139, 140, 141, 142, 143, 144, 145, 146, 147, 148, 149, 150, 151, 152, 153, 154, 155, 156, 157, 158, 159, 160, 161, 162, 163, 164, 165, 166, 211, 212, 213, 214, 215, 216, 217, 218, 219, 220, 221, 228, 229, 230, 231, 232, 233, 234, 235, 236, 237, 238, 239] (by decide +kernel) (by decide +kernel)
set_option maxRecDepth 20000 in
theorem gX10_parse_X3_readGroup : GoodIn wsX10_parse (wsV RX10 73 RX3 yX3_readGroup wsX3_readGroup) := goodIn_app (goodIn_of _ (by decide +kernel)) ggX10_parse_X3_readGroup
set_option maxRecDepth 20000 in
theorem ggX10_parse_X0_startWith : GoodIn wsX10_parse wsX0_startWith := goodIn_r _ [171, 172, 173, 174, 175, 176, 28, 177, 30, 31, 32, 33, 34, 35, 128, 178, 179, 180, 181, 138, 148, 149, 150, 151, 182, 183, 184, 185, 186, 187, 188, 189, 190, 191, 192, 193, 194, 195, 196, 197, 225, 226, 227, 228, 229, 230, 231, 232, 233, 234, 235, 236, 237, 238, 239, 240, 241, 242, 243, 244, 245, 246, 247, 248, 249, 250, 251, 252, 253] (by decide +kernel) (by decide +kernel)
set_option maxRecDepth 20000 in
theorem gX10_parse_X0_startWith : GoodIn wsX10_parse (wsV RX10 81 RX0 yX0_startWith wsX0_startWith) := goodIn_app (goodIn_of _ (by decide +kernel)) ggX10_parse_X0_startWith
set_option maxRecDepth 20000 in
theorem ggX10_parse_X4_forget : GoodIn wsX10_parse wsX4_forget := goodIn_r _ [202, 203, 254, 255, 256] (by decide +kernel) (by decide +kernel)
set_option maxRecDepth 20000 in
theorem gX10_parse_X4_forget : GoodIn wsX10_parse (wsV RX10 85 RX4 yX4_forget wsX4_forget) := goodIn_app (goodIn_of _ (by decide +kernel)) ggX10_parse_X4_forget
theorem dX10_parse_0 : decode cX10_parse 0 = .ok (.iload_n 1, 1) := by decide +kernel
theorem dX10_parse_1 : decode cX10_parse 1 = .ok (.ifCond .lt 14, 3) := by decide +kernel
theorem dX10_parse_4 : decode cX10_parse 4 = .ok (.iload_n 1, 1) := by decide +kernel
theorem dX10_parse_5 : decode cX10_parse 5 = .ok (.aload_n 0, 1) := by decide +kernel
theorem dX10_parse_6 : decode cX10_parse 6 = .ok (.getfield 10, 3) := by decide +kernel
theorem dX10_parse_9 : decode cX10_parse 9 = .ok (.getfield 62, 3) := by decide +kernel
theorem dX10_parse_12 : decode cX10_parse 12 = .ok (.if_icmp .le 13, 3) := by decide +kernel
theorem dX10_parse_15 : decode cX10_parse 15 = .ok (.new 66, 3) := by decide +kernel
theorem dX10_parse_18 : decode cX10_parse 18 = .ok (.dup, 1) := by decide +kernel
theorem dX10_parse_19 : decode cX10_parse 19 = .ok (.ldc 68, 2) := by decide +kernel
theorem dX10_parse_21 : decode cX10_parse 21 = .ok (.invokespecial 70, 3) := by decide +kernel
theorem dX10_parse_24 : decode cX10_parse 24 = .ok (.athrow, 1) := by decide +kernel
theorem dX10_parse_25 : decode cX10_parse 25 = .ok (.aload_n 0, 1) := by decide +kernel
theorem dX10_parse_26 : decode cX10_parse 26 = .ok (.getfield 10, 3) := by decide +kernel
theorem dX10_parse_29 : decode cX10_parse 29 = .ok (.iload_n 1, 1) := by decide +kernel
theorem dX10_parse_30 : decode cX10_parse 30 = .ok (.invokevirtual 73, 3) := by decide +kernel
theorem dX10_parse_33 : decode cX10_parse 33 = .ok (.istore_n 2, 1) := by decide +kernel
theorem dX10_parse_34 : decode cX10_parse 34 = .ok (.aload_n 0, 1) := by decide +kernel
theorem dX10_parse_35 : decode cX10_parse 35 = .ok (.getfield 10, 3) := by decide +kernel
theorem dX10_parse_38 : decode cX10_parse 38 = .ok (.iconst 0, 1) := by decide +kernel
theorem dX10_parse_39 : decode cX10_parse 39 = .ok (.putfield 62, 3) := by decide +kernel
theorem dX10_parse_42 : decode cX10_parse 42 = .ok (.iload_n 2, 1) := by decide +kernel
theorem dX10_parse_43 : decode cX10_parse 43 = .ok (.ifCond .eq 5, 3) := by decide +kernel
theorem dX10_parse_46 : decode cX10_parse 46 = .ok (.iload_n 2, 1) := by decide +kernel
theorem dX10_parse_47 : decode cX10_parse 47 = .ok (.ireturn, 1) := by decide +kernel
theorem dX10_parse_48 : decode cX10_parse 48 = .ok (.aload_n 0, 1) := by decide +kernel
theorem dX10_parse_49 : decode cX10_parse 49 = .ok (.getfield 19, 3) := by decide +kernel
theorem dX10_parse_52 : decode cX10_parse 52 = .ok (.aload_n 0, 1) := by decide +kernel
theorem dX10_parse_53 : decode cX10_parse 53 = .ok (.getfield 10, 3) := by decide +kernel
theorem dX10_parse_56 : decode cX10_parse 56 = .ok (.getfield 77, 3) := by decide +kernel
theorem dX10_parse_59 : decode cX10_parse 59 = .ok (.invokevirtual 81, 3) := by decide +kernel
theorem dX10_parse_62 : decode cX10_parse 62 = .ok (.aload_n 0, 1) := by decide +kernel
theorem dX10_parse_63 : decode cX10_parse 63 = .ok (.getfield 47, 3) := by decide +kernel
theorem dX10_parse_66 : decode cX10_parse 66 = .ok (.invokevirtual 85, 3) := by decide +kernel
theorem dX10_parse_69 : decode cX10_parse 69 = .ok (.iconst 0, 1) := by decide +kernel
theorem dX10_parse_70 : decode cX10_parse 70 = .ok (.istore_n 3, 1) := by decide +kernel
theorem dX10_parse_71 : decode cX10_parse 71 = .ok (.iload_n 3, 1) := by decide +kernel
theorem dX10_parse_72 : decode cX10_parse 72 = .ok (.iconst 2, 1) := by decide +kernel
theorem dX10_parse_73 : decode cX10_parse 73 = .ok (.if_icmp .ge 19, 3) := by decide +kernel
theorem dX10_parse_76 : decode cX10_parse 76 = .ok (.aload_n 0, 1) := by decide +kernel
theorem dX10_parse_77 : decode cX10_parse 77 = .ok (.getfield 53, 3) := by decide +kernel
theorem dX10_parse_80 : decode cX10_parse 80 = .ok (.iload_n 3, 1) := by decide +kernel
theorem dX10_parse_81 : decode cX10_parse 81 = .ok (.aaload, 1) := by decide +kernel
theorem dX10_parse_82 : decode cX10_parse 82 = .ok (.iconst 0, 1) := by decide +kernel
theorem dX10_parse_83 : decode cX10_parse 83 = .ok (.putfield 88, 3) := by decide +kernel
theorem dX10_parse_86 : decode cX10_parse 86 = .ok (.iinc 3 1, 3) := by decide +kernel
theorem dX10_parse_89 : decode cX10_parse 89 = .ok (.goto (-18), 3) := by decide +kernel
theorem dX10_parse_92 : decode cX10_parse 92 = .ok (.aload_n 0, 1) := by decide +kernel
theorem dX10_parse_93 : decode cX10_parse 93 = .ok (.getfield 19, 3) := by decide +kernel
theorem dX10_parse_96 : decode cX10_parse 96 = .ok (.getfield 91, 3) := by decide +kernel
theorem dX10_parse_99 : decode cX10_parse 99 = .ok (.getfield 94, 3) := by decide +kernel
theorem dX10_parse_102 : decode cX10_parse 102 = .ok (.ireturn, 1) := by decide +kernel
theorem dX10_size_0 : decode cX10_size 0 = .ok (.iload_n 1, 1) := by decide +kernel
theorem dX10_size_1 : decode cX10_size 1 = .ok (.tableswitch 90 0 4 #[35, 46, 57, 68, 79], 35) := by decide +kernel
theorem dX10_size_36 : decode cX10_size 36 = .ok (.aload_n 0, 1) := by decide +kernel
theorem dX10_size_37 : decode cX10_size 37 = .ok (.getfield 19, 3) := by decide +kernel
theorem dX10_size_40 : decode cX10_size 40 = .ok (.getfield 91, 3) := by decide +kernel
theorem dX10_size_43 : decode cX10_size 43 = .ok (.getfield 99, 3) := by decide +kernel
theorem dX10_size_46 : decode cX10_size 46 = .ok (.ireturn, 1) := by decide +kernel
theorem dX10_size_47 : decode cX10_size 47 = .ok (.aload_n 0, 1) := by decide +kernel
theorem dX10_size_48 : decode cX10_size 48 = .ok (.getfield 19, 3) := by decide +kernel
theorem dX10_size_51 : decode cX10_size 51 = .ok (.getfield 91, 3) := by decide +kernel
theorem dX10_size_54 : decode cX10_size 54 = .ok (.getfield 94, 3) := by decide +kernel
theorem dX10_size_57 : decode cX10_size 57 = .ok (.ireturn, 1) := by decide +kernel
theorem dX10_size_58 : decode cX10_size 58 = .ok (.aload_n 0, 1) := by decide +kernel
theorem dX10_size_59 : decode cX10_size 59 = .ok (.getfield 19, 3) := by decide +kernel
theorem dX10_size_62 : decode cX10_size 62 = .ok (.getfield 91, 3) := by decide +kernel
theorem dX10_size_65 : decode cX10_size 65 = .ok (.getfield 102, 3) := by decide +kernel
theorem dX10_size_68 : decode cX10_size 68 = .ok (.ireturn, 1) := by decide +kernel
theorem dX10_size_69 : decode cX10_size 69 = .ok (.aload_n 0, 1) := by decide +kernel
theorem dX10_size_70 : decode cX10_size 70 = .ok (.getfield 19, 3) := by decide +kernel
theorem dX10_size_73 : decode cX10_size 73 = .ok (.getfield 105, 3) := by decide +kernel
theorem dX10_size_76 : decode cX10_size 76 = .ok (.getfield 109, 3) := by decide +kernel
theorem dX10_size_79 : decode cX10_size 79 = .ok (.ireturn, 1) := by decide +kernel
theorem dX10_size_80 : decode cX10_size 80 = .ok (.aload_n 0, 1) := by decide +kernel
theorem dX10_size_81 : decode cX10_size 81 = .ok (.getfield 19, 3) := by decide +kernel
theorem dX10_size_84 : decode cX10_size 84 = .ok (.getfield 105, 3) := by decide +kernel
theorem dX10_size_87 : decode cX10_size 87 = .ok (.getfield 114, 3) := by decide +kernel
theorem dX10_size_90 : decode cX10_size 90 = .ok (.ireturn, 1) := by decide +kernel
theorem dX10_size_91 : decode cX10_size 91 = .ok (.new 66, 3) := by decide +kernel
theorem dX10_size_94 : decode cX10_size 94 = .ok (.dup, 1) := by decide +kernel
theorem dX10_size_95 : decode cX10_size 95 = .ok (.ldc 117, 2) := by decide +kernel
theorem dX10_size_97 : decode cX10_size 97 = .ok (.invokespecial 70, 3) := by decide +kernel
theorem dX10_size_100 : decode cX10_size 100 = .ok (.athrow, 1) := by decide +kernel
set_option maxRecDepth 20000 in
theorem ggX10_rate_X10_requireCurrency : GoodIn wsX10_rate wsX10_requireCurrency := goodIn_ca (goodIn_r _ [8, 9, 10, 1, 11, 12, 13, 14, 15, 16, 17, 18, 19, 20, 21, 22, 37, 38, 39, 40, 41, 42, 43, 44, 45, 46, 47, 48] (by decide +kernel) (by decide +kernel)) (goodIn_sub (fun _ h => List.mem_cons_of_mem _ (List.mem_append_right _ h)) (by decide +kernel))
set_option maxRecDepth 20000 in
theorem gX10_rate_X10_requireCurrency : GoodIn wsX10_rate (wsV RX10 119 RX10 yX10_requireCurrency wsX10_requireCurrency) := goodIn_app (goodIn_of _ (by decide +kernel)) ggX10_rate_X10_requireCurrency
theorem dX10_rate_0 : decode cX10_rate 0 = .ok (.aload_n 0, 1) := by decide +kernel
theorem dX10_rate_1 : decode cX10_rate 1 = .ok (.iload_n 1, 1) := by decide +kernel
theorem dX10_rate_2 : decode cX10_rate 2 = .ok (.invokevirtual 119, 3) := by decide +kernel
theorem dX10_rate_5 : decode cX10_rate 5 = .ok (.aload_n 0, 1) := by decide +kernel
theorem dX10_rate_6 : decode cX10_rate 6 = .ok (.getfield 19, 3) := by decide +kernel
theorem dX10_rate_9 : decode cX10_rate 9 = .ok (.getfield 105, 3) := by decide +kernel
theorem dX10_rate_12 : decode cX10_rate 12 = .ok (.getfield 123, 3) := by decide +kernel
theorem dX10_rate_15 : decode cX10_rate 15 = .ok (.iload_n 1, 1) := by decide +kernel
theorem dX10_rate_16 : decode cX10_rate 16 = .ok (.iaload, 1) := by decide +kernel
theorem dX10_rate_17 : decode cX10_rate 17 = .ok (.ireturn, 1) := by decide +kernel
set_option maxRecDepth 20000 in
theorem ggX10_currencyOf_X10_requireCompany : GoodIn wsX10_currencyOf wsX10_requireCompany := goodIn_ca (goodIn_r _ [8, 9, 10, 1, 2, 11, 12, 13, 14, 15, 16, 17, 18, 19, 20, 21, 22, 23, 24, 25, 26, 27, 28, 29, 30, 31, 32, 33] (by decide +kernel) (by decide +kernel)) (goodIn_sub (fun _ h => List.mem_cons_of_mem _ (List.mem_append_right _ h)) (by decide +kernel))
set_option maxRecDepth 20000 in
theorem gX10_currencyOf_X10_requireCompany : GoodIn wsX10_currencyOf (wsV RX10 127 RX10 yX10_requireCompany wsX10_requireCompany) := goodIn_app (goodIn_of _ (by decide +kernel)) ggX10_currencyOf_X10_requireCompany
theorem dX10_currencyOf_0 : decode cX10_currencyOf 0 = .ok (.aload_n 0, 1) := by decide +kernel
theorem dX10_currencyOf_1 : decode cX10_currencyOf 1 = .ok (.iload_n 1, 1) := by decide +kernel
theorem dX10_currencyOf_2 : decode cX10_currencyOf 2 = .ok (.invokevirtual 127, 3) := by decide +kernel
theorem dX10_currencyOf_5 : decode cX10_currencyOf 5 = .ok (.aload_n 0, 1) := by decide +kernel
theorem dX10_currencyOf_6 : decode cX10_currencyOf 6 = .ok (.getfield 19, 3) := by decide +kernel
theorem dX10_currencyOf_9 : decode cX10_currencyOf 9 = .ok (.getfield 91, 3) := by decide +kernel
theorem dX10_currencyOf_12 : decode cX10_currencyOf 12 = .ok (.getfield 130, 3) := by decide +kernel
theorem dX10_currencyOf_15 : decode cX10_currencyOf 15 = .ok (.iload_n 1, 1) := by decide +kernel
theorem dX10_currencyOf_16 : decode cX10_currencyOf 16 = .ok (.iaload, 1) := by decide +kernel
theorem dX10_currencyOf_17 : decode cX10_currencyOf 17 = .ok (.ireturn, 1) := by decide +kernel
set_option maxRecDepth 20000 in
theorem ggX10_product_X10_requireProduct : GoodIn wsX10_product wsX10_requireProduct := goodIn_ca (goodIn_r _ [13, 14, 15, 3, 4, 16, 17, 18, 19, 20, 21, 22, 23, 24, 25, 26, 27, 28, 29, 30, 31, 32, 33, 34, 35, 36, 37, 38] (by decide +kernel) (by decide +kernel)) (goodIn_sub (fun _ h => List.mem_cons_of_mem _ (List.mem_append_right _ h)) (by decide +kernel))
set_option maxRecDepth 20000 in
theorem gX10_product_X10_requireProduct : GoodIn wsX10_product (wsV RX10 133 RX10 yX10_requireProduct wsX10_requireProduct) := goodIn_app (goodIn_of _ (by decide +kernel)) ggX10_product_X10_requireProduct
theorem dX10_product_0 : decode cX10_product 0 = .ok (.aload_n 0, 1) := by decide +kernel
theorem dX10_product_1 : decode cX10_product 1 = .ok (.iload_n 1, 1) := by decide +kernel
theorem dX10_product_2 : decode cX10_product 2 = .ok (.invokevirtual 133, 3) := by decide +kernel
theorem dX10_product_5 : decode cX10_product 5 = .ok (.iload_n 2, 1) := by decide +kernel
theorem dX10_product_6 : decode cX10_product 6 = .ok (.tableswitch 82 0 3 #[30, 43, 56, 69], 30) := by decide +kernel
theorem dX10_product_36 : decode cX10_product 36 = .ok (.aload_n 0, 1) := by decide +kernel
theorem dX10_product_37 : decode cX10_product 37 = .ok (.getfield 19, 3) := by decide +kernel
theorem dX10_product_40 : decode cX10_product 40 = .ok (.getfield 91, 3) := by decide +kernel
theorem dX10_product_43 : decode cX10_product 43 = .ok (.getfield 136, 3) := by decide +kernel
theorem dX10_product_46 : decode cX10_product 46 = .ok (.iload_n 1, 1) := by decide +kernel
theorem dX10_product_47 : decode cX10_product 47 = .ok (.iaload, 1) := by decide +kernel
theorem dX10_product_48 : decode cX10_product 48 = .ok (.ireturn, 1) := by decide +kernel
theorem dX10_product_49 : decode cX10_product 49 = .ok (.aload_n 0, 1) := by decide +kernel
theorem dX10_product_50 : decode cX10_product 50 = .ok (.getfield 19, 3) := by decide +kernel
theorem dX10_product_53 : decode cX10_product 53 = .ok (.getfield 91, 3) := by decide +kernel
theorem dX10_product_56 : decode cX10_product 56 = .ok (.getfield 139, 3) := by decide +kernel
theorem dX10_product_59 : decode cX10_product 59 = .ok (.iload_n 1, 1) := by decide +kernel
theorem dX10_product_60 : decode cX10_product 60 = .ok (.iaload, 1) := by decide +kernel
theorem dX10_product_61 : decode cX10_product 61 = .ok (.ireturn, 1) := by decide +kernel
theorem dX10_product_62 : decode cX10_product 62 = .ok (.aload_n 0, 1) := by decide +kernel
theorem dX10_product_63 : decode cX10_product 63 = .ok (.getfield 19, 3) := by decide +kernel
theorem dX10_product_66 : decode cX10_product 66 = .ok (.getfield 91, 3) := by decide +kernel
theorem dX10_product_69 : decode cX10_product 69 = .ok (.getfield 142, 3) := by decide +kernel
theorem dX10_product_72 : decode cX10_product 72 = .ok (.iload_n 1, 1) := by decide +kernel
theorem dX10_product_73 : decode cX10_product 73 = .ok (.iaload, 1) := by decide +kernel
theorem dX10_product_74 : decode cX10_product 74 = .ok (.ireturn, 1) := by decide +kernel
theorem dX10_product_75 : decode cX10_product 75 = .ok (.aload_n 0, 1) := by decide +kernel
theorem dX10_product_76 : decode cX10_product 76 = .ok (.getfield 19, 3) := by decide +kernel
theorem dX10_product_79 : decode cX10_product 79 = .ok (.getfield 91, 3) := by decide +kernel
theorem dX10_product_82 : decode cX10_product 82 = .ok (.getfield 145, 3) := by decide +kernel
theorem dX10_product_85 : decode cX10_product 85 = .ok (.iload_n 1, 1) := by decide +kernel
theorem dX10_product_86 : decode cX10_product 86 = .ok (.iaload, 1) := by decide +kernel
theorem dX10_product_87 : decode cX10_product 87 = .ok (.ireturn, 1) := by decide +kernel
theorem dX10_product_88 : decode cX10_product 88 = .ok (.new 66, 3) := by decide +kernel
theorem dX10_product_91 : decode cX10_product 91 = .ok (.dup, 1) := by decide +kernel
theorem dX10_product_92 : decode cX10_product 92 = .ok (.ldc 117, 2) := by decide +kernel
theorem dX10_product_94 : decode cX10_product 94 = .ok (.invokespecial 70, 3) := by decide +kernel
theorem dX10_product_97 : decode cX10_product 97 = .ok (.athrow, 1) := by decide +kernel
set_option maxRecDepth 20000 in
theorem ggX10_item_X10_requireItem : GoodIn wsX10_item wsX10_requireItem := goodIn_ca (goodIn_r _ [16, 17, 18, 3, 9, 19, 20, 21, 22, 23, 24, 25, 26, 27, 28, 29, 39, 40, 41, 42, 43, 44, 45, 46, 47, 48, 49, 50, 51, 52] (by decide +kernel) (by decide +kernel)) (goodIn_sub (fun _ h => List.mem_cons_of_mem _ (List.mem_append_right _ h)) (by decide +kernel))
set_option maxRecDepth 20000 in
theorem gX10_item_X10_requireItem : GoodIn wsX10_item (wsV RX10 148 RX10 yX10_requireItem wsX10_requireItem) := goodIn_app (goodIn_of _ (by decide +kernel)) ggX10_item_X10_requireItem
theorem dX10_item_0 : decode cX10_item 0 = .ok (.aload_n 0, 1) := by decide +kernel
theorem dX10_item_1 : decode cX10_item 1 = .ok (.iload_n 1, 1) := by decide +kernel
theorem dX10_item_2 : decode cX10_item 2 = .ok (.invokevirtual 148, 3) := by decide +kernel
theorem dX10_item_5 : decode cX10_item 5 = .ok (.iload_n 2, 1) := by decide +kernel
theorem dX10_item_6 : decode cX10_item 6 = .ok (.tableswitch 116 0 5 #[38, 51, 64, 77, 90, 103], 38) := by decide +kernel
theorem dX10_item_44 : decode cX10_item 44 = .ok (.aload_n 0, 1) := by decide +kernel
theorem dX10_item_45 : decode cX10_item 45 = .ok (.getfield 19, 3) := by decide +kernel
theorem dX10_item_48 : decode cX10_item 48 = .ok (.getfield 151, 3) := by decide +kernel
theorem dX10_item_51 : decode cX10_item 51 = .ok (.getfield 155, 3) := by decide +kernel
theorem dX10_item_54 : decode cX10_item 54 = .ok (.iload_n 1, 1) := by decide +kernel
theorem dX10_item_55 : decode cX10_item 55 = .ok (.iaload, 1) := by decide +kernel
theorem dX10_item_56 : decode cX10_item 56 = .ok (.ireturn, 1) := by decide +kernel
theorem dX10_item_57 : decode cX10_item 57 = .ok (.aload_n 0, 1) := by decide +kernel
theorem dX10_item_58 : decode cX10_item 58 = .ok (.getfield 19, 3) := by decide +kernel
theorem dX10_item_61 : decode cX10_item 61 = .ok (.getfield 151, 3) := by decide +kernel
theorem dX10_item_64 : decode cX10_item 64 = .ok (.getfield 160, 3) := by decide +kernel
theorem dX10_item_67 : decode cX10_item 67 = .ok (.iload_n 1, 1) := by decide +kernel
theorem dX10_item_68 : decode cX10_item 68 = .ok (.iaload, 1) := by decide +kernel
theorem dX10_item_69 : decode cX10_item 69 = .ok (.ireturn, 1) := by decide +kernel
theorem dX10_item_70 : decode cX10_item 70 = .ok (.aload_n 0, 1) := by decide +kernel
theorem dX10_item_71 : decode cX10_item 71 = .ok (.getfield 19, 3) := by decide +kernel
theorem dX10_item_74 : decode cX10_item 74 = .ok (.getfield 151, 3) := by decide +kernel
theorem dX10_item_77 : decode cX10_item 77 = .ok (.getfield 163, 3) := by decide +kernel
theorem dX10_item_80 : decode cX10_item 80 = .ok (.iload_n 1, 1) := by decide +kernel
theorem dX10_item_81 : decode cX10_item 81 = .ok (.iaload, 1) := by decide +kernel
theorem dX10_item_82 : decode cX10_item 82 = .ok (.ireturn, 1) := by decide +kernel
theorem dX10_item_83 : decode cX10_item 83 = .ok (.aload_n 0, 1) := by decide +kernel
theorem dX10_item_84 : decode cX10_item 84 = .ok (.getfield 19, 3) := by decide +kernel
theorem dX10_item_87 : decode cX10_item 87 = .ok (.getfield 151, 3) := by decide +kernel
theorem dX10_item_90 : decode cX10_item 90 = .ok (.getfield 166, 3) := by decide +kernel
theorem dX10_item_93 : decode cX10_item 93 = .ok (.iload_n 1, 1) := by decide +kernel
theorem dX10_item_94 : decode cX10_item 94 = .ok (.iaload, 1) := by decide +kernel
theorem dX10_item_95 : decode cX10_item 95 = .ok (.ireturn, 1) := by decide +kernel
theorem dX10_item_96 : decode cX10_item 96 = .ok (.aload_n 0, 1) := by decide +kernel
theorem dX10_item_97 : decode cX10_item 97 = .ok (.getfield 19, 3) := by decide +kernel
theorem dX10_item_100 : decode cX10_item 100 = .ok (.getfield 105, 3) := by decide +kernel
theorem dX10_item_103 : decode cX10_item 103 = .ok (.getfield 169, 3) := by decide +kernel
theorem dX10_item_106 : decode cX10_item 106 = .ok (.iload_n 1, 1) := by decide +kernel
theorem dX10_item_107 : decode cX10_item 107 = .ok (.iaload, 1) := by decide +kernel
theorem dX10_item_108 : decode cX10_item 108 = .ok (.ireturn, 1) := by decide +kernel
theorem dX10_item_109 : decode cX10_item 109 = .ok (.aload_n 0, 1) := by decide +kernel
theorem dX10_item_110 : decode cX10_item 110 = .ok (.getfield 19, 3) := by decide +kernel
theorem dX10_item_113 : decode cX10_item 113 = .ok (.getfield 105, 3) := by decide +kernel
theorem dX10_item_116 : decode cX10_item 116 = .ok (.getfield 172, 3) := by decide +kernel
theorem dX10_item_119 : decode cX10_item 119 = .ok (.iload_n 1, 1) := by decide +kernel
theorem dX10_item_120 : decode cX10_item 120 = .ok (.iaload, 1) := by decide +kernel
theorem dX10_item_121 : decode cX10_item 121 = .ok (.ireturn, 1) := by decide +kernel
theorem dX10_item_122 : decode cX10_item 122 = .ok (.new 66, 3) := by decide +kernel
theorem dX10_item_125 : decode cX10_item 125 = .ok (.dup, 1) := by decide +kernel
theorem dX10_item_126 : decode cX10_item 126 = .ok (.ldc 117, 2) := by decide +kernel
theorem dX10_item_128 : decode cX10_item 128 = .ok (.invokespecial 70, 3) := by decide +kernel
theorem dX10_item_131 : decode cX10_item 131 = .ok (.athrow, 1) := by decide +kernel
set_option maxRecDepth 20000 in
theorem ggX10_amount_X10_requireItem : GoodIn wsX10_amount wsX10_requireItem := goodIn_ca (goodIn_r _ [8, 9, 10, 1, 2, 11, 12, 13, 14, 15, 16, 17, 18, 19, 20, 21, 22, 23, 24, 25, 26, 27, 28, 29, 30, 31, 32, 33, 34, 35] (by decide +kernel) (by decide +kernel)) (goodIn_sub (fun _ h => List.mem_cons_of_mem _ (List.mem_append_right _ h)) (by decide +kernel))
set_option maxRecDepth 20000 in
theorem gX10_amount_X10_requireItem : GoodIn wsX10_amount (wsV RX10 148 RX10 yX10_requireItem wsX10_requireItem) := goodIn_app (goodIn_of _ (by decide +kernel)) ggX10_amount_X10_requireItem
theorem dX10_amount_0 : decode cX10_amount 0 = .ok (.aload_n 0, 1) := by decide +kernel
theorem dX10_amount_1 : decode cX10_amount 1 = .ok (.iload_n 1, 1) := by decide +kernel
theorem dX10_amount_2 : decode cX10_amount 2 = .ok (.invokevirtual 148, 3) := by decide +kernel
theorem dX10_amount_5 : decode cX10_amount 5 = .ok (.aload_n 0, 1) := by decide +kernel
theorem dX10_amount_6 : decode cX10_amount 6 = .ok (.getfield 19, 3) := by decide +kernel
theorem dX10_amount_9 : decode cX10_amount 9 = .ok (.getfield 105, 3) := by decide +kernel
theorem dX10_amount_12 : decode cX10_amount 12 = .ok (.getfield 175, 3) := by decide +kernel
theorem dX10_amount_15 : decode cX10_amount 15 = .ok (.iload_n 1, 1) := by decide +kernel
theorem dX10_amount_16 : decode cX10_amount 16 = .ok (.iaload, 1) := by decide +kernel
theorem dX10_amount_17 : decode cX10_amount 17 = .ok (.i2l, 1) := by decide +kernel
theorem dX10_amount_18 : decode cX10_amount 18 = .ok (.lreturn, 1) := by decide +kernel
set_option maxRecDepth 20000 in
theorem ggX10_value_X10_requireItem : GoodIn wsX10_value wsX10_requireItem := goodIn_ca (goodIn_r _ [6, 7, 8, 1, 9, 10, 30, 31, 32, 33, 34, 35, 36, 37, 38, 39, 40, 41, 42, 43, 44, 45, 46, 47, 48, 49, 50, 51, 52, 53] (by decide +kernel) (by decide +kernel)) (goodIn_sub (fun _ h => List.mem_cons_of_mem _ (List.mem_append_right _ h)) (by decide +kernel))
set_option maxRecDepth 20000 in
theorem gX10_value_X10_requireItem : GoodIn wsX10_value (wsV RX10 148 RX10 yX10_requireItem wsX10_requireItem) := goodIn_app (goodIn_of _ (by decide +kernel)) ggX10_value_X10_requireItem
set_option maxRecDepth 20000 in
theorem ggX10_value_X0_valueOf : GoodIn wsX10_value wsX0_valueOf := goodIn_r _ [15, 16, 17, 18, 19, 20, 21, 22, 23, 14, 24, 25, 26, 27, 28, 29, 37, 38, 39, 40, 41, 42, 43, 44, 45, 46, 47, 48, 49, 50, 51, 52, 53, 54, 55, 56, 57, 58, 59, 60, 61, 62, 63, 64, 65, 66, 67, 68, 69, 70, 71, 72, 73, 74] (by decide +kernel) (by decide +kernel)
set_option maxRecDepth 20000 in
theorem gX10_value_X0_valueOf : GoodIn wsX10_value (wsV RX10 178 RX0 yX0_valueOf wsX0_valueOf) := goodIn_app (goodIn_of _ (by decide +kernel)) ggX10_value_X0_valueOf
theorem dX10_value_0 : decode cX10_value 0 = .ok (.aload_n 0, 1) := by decide +kernel
theorem dX10_value_1 : decode cX10_value 1 = .ok (.iload_n 1, 1) := by decide +kernel
theorem dX10_value_2 : decode cX10_value 2 = .ok (.invokevirtual 148, 3) := by decide +kernel
theorem dX10_value_5 : decode cX10_value 5 = .ok (.aload_n 0, 1) := by decide +kernel
theorem dX10_value_6 : decode cX10_value 6 = .ok (.getfield 19, 3) := by decide +kernel
theorem dX10_value_9 : decode cX10_value 9 = .ok (.iload_n 1, 1) := by decide +kernel
theorem dX10_value_10 : decode cX10_value 10 = .ok (.invokevirtual 178, 3) := by decide +kernel
theorem dX10_value_13 : decode cX10_value 13 = .ok (.lreturn, 1) := by decide +kernel
set_option maxRecDepth 20000 in
theorem ggX10_currencyDifference_X10_requireItem : GoodIn wsX10_currencyDifference wsX10_requireItem := goodIn_ca (goodIn_r _ [9, 10, 11, 1, 2, 12, 32, 33, 34, 35, 36, 37, 38, 39, 40, 41, 42, 43, 44, 45, 46, 47, 48, 49, 50, 51, 52, 53, 54, 55] (by decide +kernel) (by decide +kernel)) (goodIn_sub (fun _ h => List.mem_cons_of_mem _ (List.mem_append_right _ h)) (by decide +kernel))
set_option maxRecDepth 20000 in
theorem gX10_currencyDifference_X10_requireItem : GoodIn wsX10_currencyDifference (wsV RX10 148 RX10 yX10_requireItem wsX10_requireItem) := goodIn_app (goodIn_of _ (by decide +kernel)) ggX10_currencyDifference_X10_requireItem
set_option maxRecDepth 20000 in
theorem ggX10_currencyDifference_X0_valueOf : GoodIn wsX10_currencyDifference wsX0_valueOf := goodIn_r _ [17, 18, 19, 20, 21, 22, 23, 24, 25, 16, 26, 27, 28, 29, 30, 31, 39, 40, 41, 42, 43, 44, 45, 46, 47, 48, 49, 50, 51, 52, 53, 54, 55, 56, 57, 58, 59, 60, 61, 62, 63, 64, 65, 66, 67, 68, 69, 70, 71, 72, 73, 74, 75, 76] (by decide +kernel) (by decide +kernel)
set_option maxRecDepth 20000 in
theorem gX10_currencyDifference_X0_valueOf : GoodIn wsX10_currencyDifference (wsV RX10 178 RX0 yX0_valueOf wsX0_valueOf) := goodIn_app (goodIn_of _ (by decide +kernel)) ggX10_currencyDifference_X0_valueOf
theorem dX10_currencyDifference_0 : decode cX10_currencyDifference 0 = .ok (.aload_n 0, 1) := by decide +kernel
theorem dX10_currencyDifference_1 : decode cX10_currencyDifference 1 = .ok (.iload_n 1, 1) := by decide +kernel
theorem dX10_currencyDifference_2 : decode cX10_currencyDifference 2 = .ok (.invokevirtual 148, 3) := by decide +kernel
theorem dX10_currencyDifference_5 : decode cX10_currencyDifference 5 = .ok (.aload_n 0, 1) := by decide +kernel
theorem dX10_currencyDifference_6 : decode cX10_currencyDifference 6 = .ok (.getfield 19, 3) := by decide +kernel
theorem dX10_currencyDifference_9 : decode cX10_currencyDifference 9 = .ok (.getfield 105, 3) := by decide +kernel
theorem dX10_currencyDifference_12 : decode cX10_currencyDifference 12 = .ok (.getfield 169, 3) := by decide +kernel
theorem dX10_currencyDifference_15 : decode cX10_currencyDifference 15 = .ok (.iload_n 1, 1) := by decide +kernel
theorem dX10_currencyDifference_16 : decode cX10_currencyDifference 16 = .ok (.iaload, 1) := by decide +kernel
theorem dX10_currencyDifference_17 : decode cX10_currencyDifference 17 = .ok (.iconst 4, 1) := by decide +kernel
theorem dX10_currencyDifference_18 : decode cX10_currencyDifference 18 = .ok (.if_icmp .ne 5, 3) := by decide +kernel
theorem dX10_currencyDifference_21 : decode cX10_currencyDifference 21 = .ok (.lconst 0, 1) := by decide +kernel
theorem dX10_currencyDifference_22 : decode cX10_currencyDifference 22 = .ok (.lreturn, 1) := by decide +kernel
theorem dX10_currencyDifference_23 : decode cX10_currencyDifference 23 = .ok (.aload_n 0, 1) := by decide +kernel
theorem dX10_currencyDifference_24 : decode cX10_currencyDifference 24 = .ok (.getfield 19, 3) := by decide +kernel
theorem dX10_currencyDifference_27 : decode cX10_currencyDifference 27 = .ok (.iload_n 1, 1) := by decide +kernel
theorem dX10_currencyDifference_28 : decode cX10_currencyDifference 28 = .ok (.invokevirtual 178, 3) := by decide +kernel
theorem dX10_currencyDifference_31 : decode cX10_currencyDifference 31 = .ok (.aload_n 0, 1) := by decide +kernel
theorem dX10_currencyDifference_32 : decode cX10_currencyDifference 32 = .ok (.getfield 19, 3) := by decide +kernel
theorem dX10_currencyDifference_35 : decode cX10_currencyDifference 35 = .ok (.getfield 105, 3) := by decide +kernel
theorem dX10_currencyDifference_38 : decode cX10_currencyDifference 38 = .ok (.getfield 182, 3) := by decide +kernel
theorem dX10_currencyDifference_41 : decode cX10_currencyDifference 41 = .ok (.iload_n 1, 1) := by decide +kernel
theorem dX10_currencyDifference_42 : decode cX10_currencyDifference 42 = .ok (.laload, 1) := by decide +kernel
theorem dX10_currencyDifference_43 : decode cX10_currencyDifference 43 = .ok (.lsub, 1) := by decide +kernel
theorem dX10_currencyDifference_44 : decode cX10_currencyDifference 44 = .ok (.lreturn, 1) := by decide +kernel
set_option maxRecDepth 20000 in
theorem ggX10_pairDifference_X10_requireItem : GoodIn wsX10_pairDifference wsX10_requireItem := goodIn_ca (goodIn_r _ [12, 13, 14, 3, 4, 15, 35, 36, 37, 38, 39, 40, 41, 42, 43, 44, 45, 46, 47, 48, 49, 50, 51, 52, 53, 54, 55, 56, 57, 58] (by decide +kernel) (by decide +kernel)) (goodIn_sub (fun _ h => List.mem_cons_of_mem _ (List.mem_append_right _ h)) (by decide +kernel))
set_option maxRecDepth 20000 in
theorem gX10_pairDifference_X10_requireItem : GoodIn wsX10_pairDifference (wsV RX10 148 RX10 yX10_requireItem wsX10_requireItem) := goodIn_app (goodIn_of _ (by decide +kernel)) ggX10_pairDifference_X10_requireItem
set_option maxRecDepth 20000 in
theorem ggX10_pairDifference_X0_valueOf : GoodIn wsX10_pairDifference wsX0_valueOf := goodIn_r _ [20, 21, 22, 23, 24, 25, 26, 27, 28, 19, 29, 30, 31, 32, 33, 34, 42, 43, 44, 45, 46, 47, 48, 49, 50, 51, 52, 53, 54, 55, 56, 57, 58, 68, 69, 70, 71, 72, 73, 74, 75, 76, 77, 78, 79, 59, 60, 61, 62, 63, 64, 65, 66, 67] (by decide +kernel) (by decide +kernel)
set_option maxRecDepth 20000 in
theorem gX10_pairDifference_X0_valueOf : GoodIn wsX10_pairDifference (wsV RX10 178 RX0 yX0_valueOf wsX0_valueOf) := goodIn_app (goodIn_of _ (by decide +kernel)) ggX10_pairDifference_X0_valueOf
theorem dX10_pairDifference_0 : decode cX10_pairDifference 0 = .ok (.aload_n 0, 1) := by decide +kernel
theorem dX10_pairDifference_1 : decode cX10_pairDifference 1 = .ok (.iload_n 1, 1) := by decide +kernel
theorem dX10_pairDifference_2 : decode cX10_pairDifference 2 = .ok (.invokevirtual 148, 3) := by decide +kernel
theorem dX10_pairDifference_5 : decode cX10_pairDifference 5 = .ok (.aload_n 0, 1) := by decide +kernel
theorem dX10_pairDifference_6 : decode cX10_pairDifference 6 = .ok (.getfield 19, 3) := by decide +kernel
theorem dX10_pairDifference_9 : decode cX10_pairDifference 9 = .ok (.getfield 105, 3) := by decide +kernel
theorem dX10_pairDifference_12 : decode cX10_pairDifference 12 = .ok (.getfield 172, 3) := by decide +kernel
theorem dX10_pairDifference_15 : decode cX10_pairDifference 15 = .ok (.iload_n 1, 1) := by decide +kernel
theorem dX10_pairDifference_16 : decode cX10_pairDifference 16 = .ok (.iaload, 1) := by decide +kernel
theorem dX10_pairDifference_17 : decode cX10_pairDifference 17 = .ok (.istore_n 2, 1) := by decide +kernel
theorem dX10_pairDifference_18 : decode cX10_pairDifference 18 = .ok (.iload_n 2, 1) := by decide +kernel
theorem dX10_pairDifference_19 : decode cX10_pairDifference 19 = .ok (.ifCond .ge 13, 3) := by decide +kernel
theorem dX10_pairDifference_22 : decode cX10_pairDifference 22 = .ok (.new 186, 3) := by decide +kernel
theorem dX10_pairDifference_25 : decode cX10_pairDifference 25 = .ok (.dup, 1) := by decide +kernel
theorem dX10_pairDifference_26 : decode cX10_pairDifference 26 = .ok (.ldc 188, 2) := by decide +kernel
theorem dX10_pairDifference_28 : decode cX10_pairDifference 28 = .ok (.invokespecial 190, 3) := by decide +kernel
theorem dX10_pairDifference_31 : decode cX10_pairDifference 31 = .ok (.athrow, 1) := by decide +kernel
theorem dX10_pairDifference_32 : decode cX10_pairDifference 32 = .ok (.aload_n 0, 1) := by decide +kernel
theorem dX10_pairDifference_33 : decode cX10_pairDifference 33 = .ok (.getfield 19, 3) := by decide +kernel
theorem dX10_pairDifference_36 : decode cX10_pairDifference 36 = .ok (.iload_n 1, 1) := by decide +kernel
theorem dX10_pairDifference_37 : decode cX10_pairDifference 37 = .ok (.invokevirtual 178, 3) := by decide +kernel
theorem dX10_pairDifference_40 : decode cX10_pairDifference 40 = .ok (.aload_n 0, 1) := by decide +kernel
theorem dX10_pairDifference_41 : decode cX10_pairDifference 41 = .ok (.getfield 19, 3) := by decide +kernel
theorem dX10_pairDifference_44 : decode cX10_pairDifference 44 = .ok (.iload_n 2, 1) := by decide +kernel
theorem dX10_pairDifference_45 : decode cX10_pairDifference 45 = .ok (.invokevirtual 178, 3) := by decide +kernel
theorem dX10_pairDifference_48 : decode cX10_pairDifference 48 = .ok (.lsub, 1) := by decide +kernel
theorem dX10_pairDifference_49 : decode cX10_pairDifference 49 = .ok (.lstore_n 3, 1) := by decide +kernel
theorem dX10_pairDifference_50 : decode cX10_pairDifference 50 = .ok (.aload_n 0, 1) := by decide +kernel
theorem dX10_pairDifference_51 : decode cX10_pairDifference 51 = .ok (.getfield 19, 3) := by decide +kernel
theorem dX10_pairDifference_54 : decode cX10_pairDifference 54 = .ok (.getfield 151, 3) := by decide +kernel
theorem dX10_pairDifference_57 : decode cX10_pairDifference 57 = .ok (.getfield 163, 3) := by decide +kernel
theorem dX10_pairDifference_60 : decode cX10_pairDifference 60 = .ok (.iload_n 1, 1) := by decide +kernel
theorem dX10_pairDifference_61 : decode cX10_pairDifference 61 = .ok (.iaload, 1) := by decide +kernel
theorem dX10_pairDifference_62 : decode cX10_pairDifference 62 = .ok (.ifCond .ne 7, 3) := by decide +kernel
theorem dX10_pairDifference_65 : decode cX10_pairDifference 65 = .ok (.lload_n 3, 1) := by decide +kernel
theorem dX10_pairDifference_66 : decode cX10_pairDifference 66 = .ok (.goto 5, 3) := by decide +kernel
theorem dX10_pairDifference_69 : decode cX10_pairDifference 69 = .ok (.lload_n 3, 1) := by decide +kernel
theorem dX10_pairDifference_70 : decode cX10_pairDifference 70 = .ok (.lneg, 1) := by decide +kernel
theorem dX10_pairDifference_71 : decode cX10_pairDifference 71 = .ok (.lreturn, 1) := by decide +kernel
set_option maxRecDepth 20000 in
theorem ggX10_candidates_X10_requireItem : GoodIn wsX10_candidates wsX10_requireItem := goodIn_ca (goodIn_r _ [7, 8, 9, 2, 10, 11, 28, 29, 30, 31, 32, 33, 34, 35, 36, 37, 38, 39, 40, 41, 42, 43, 44, 45, 46, 47, 48, 49, 50, 51] (by decide +kernel) (by decide +kernel)) (goodIn_sub (fun _ h => List.mem_cons_of_mem _ (List.mem_append_right _ h)) (by decide +kernel))
set_option maxRecDepth 20000 in
theorem gX10_candidates_X10_requireItem : GoodIn wsX10_candidates (wsV RX10 148 RX10 yX10_requireItem wsX10_requireItem) := goodIn_app (goodIn_of _ (by decide +kernel)) ggX10_candidates_X10_requireItem
set_option maxRecDepth 20000 in
theorem ggX10_candidates_X5_openMirrors : GoodIn wsX10_candidates wsX5_openMirrors := goodIn_r _ [16, 17, 18, 19, 20, 21, 22, 15, 23, 24, 25, 26, 27, 35, 36, 37, 38, 39, 40, 41, 42, 43, 44, 45, 46, 47, 48, 49, 50, 51, 52, 53, 54, 55, 56, 57, 58, 59, 60] (by decide +kernel) (by decide +kernel)
set_option maxRecDepth 20000 in
theorem gX10_candidates_X5_openMirrors : GoodIn wsX10_candidates (wsV RX10 191 RX5 yX5_openMirrors wsX5_openMirrors) := goodIn_app (goodIn_of _ (by decide +kernel)) ggX10_candidates_X5_openMirrors
theorem dX10_candidates_0 : decode cX10_candidates 0 = .ok (.aload_n 0, 1) := by decide +kernel
theorem dX10_candidates_1 : decode cX10_candidates 1 = .ok (.iload_n 1, 1) := by decide +kernel
theorem dX10_candidates_2 : decode cX10_candidates 2 = .ok (.invokevirtual 148, 3) := by decide +kernel
theorem dX10_candidates_5 : decode cX10_candidates 5 = .ok (.aload_n 0, 1) := by decide +kernel
theorem dX10_candidates_6 : decode cX10_candidates 6 = .ok (.getfield 26, 3) := by decide +kernel
theorem dX10_candidates_9 : decode cX10_candidates 9 = .ok (.aload_n 0, 1) := by decide +kernel
theorem dX10_candidates_10 : decode cX10_candidates 10 = .ok (.getfield 19, 3) := by decide +kernel
theorem dX10_candidates_13 : decode cX10_candidates 13 = .ok (.iload_n 1, 1) := by decide +kernel
theorem dX10_candidates_14 : decode cX10_candidates 14 = .ok (.invokevirtual 191, 3) := by decide +kernel
theorem dX10_candidates_17 : decode cX10_candidates 17 = .ok (.ireturn, 1) := by decide +kernel
set_option maxRecDepth 20000 in
theorem ggX10_wouldPair_X10_requireItem : GoodIn wsX10_wouldPair wsX10_requireItem := goodIn_ca (goodIn_r _ [14, 15, 16, 3, 6, 17, 70, 71, 72, 73, 74, 75, 76, 77, 78, 79, 89, 90, 91, 92, 93, 94, 95, 96, 97, 98, 99, 100, 101, 102] (by decide +kernel) (by decide +kernel)) (goodIn_sub (fun _ h => List.mem_cons_of_mem _ (List.mem_append_right _ h)) (by decide +kernel))
set_option maxRecDepth 20000 in
theorem gX10_wouldPair_X10_requireItem : GoodIn wsX10_wouldPair (wsV RX10 148 RX10 yX10_requireItem wsX10_requireItem) := goodIn_app (goodIn_of _ (by decide +kernel)) ggX10_wouldPair_X10_requireItem
set_option maxRecDepth 20000 in
theorem ggX10_wouldPair_X5_planRun : GoodIn wsX10_wouldPair wsX5_planRun := goodIn_r _ [22, 23, 24, 25, 26, 27, 28, 29, 30, 31, 32, 33, 34, 35, 36, 37, 21, 38, 39, 40, 41, 42, 43, 44, 45, 46, 47, 48, 49, 50, 51, 52, 53, 54, 55, 56, 57, 58, 59, 60, 61, 62, 63, 64, 65, 66, 67, 68, 69, 77, 78, 79, 89, 90, 91, 92, 93, 94, 95, 96, 97, 98, 99, 100, 101, 102, 103, 80, 81, 82, 83, 84, 85, 86, 87, 88, 104, 105, 106, 107, 108, 109, 110, 111, 112, 113, 114, 115] (by decide +kernel) (by decide +kernel)
set_option maxRecDepth 20000 in
theorem gX10_wouldPair_X5_planRun : GoodIn wsX10_wouldPair (wsV RX10 197 RX5 yX5_planRun wsX5_planRun) := goodIn_app (goodIn_of _ (by decide +kernel)) ggX10_wouldPair_X5_planRun
theorem dX10_wouldPair_0 : decode cX10_wouldPair 0 = .ok (.aload_n 0, 1) := by decide +kernel
theorem dX10_wouldPair_1 : decode cX10_wouldPair 1 = .ok (.iload_n 1, 1) := by decide +kernel
theorem dX10_wouldPair_2 : decode cX10_wouldPair 2 = .ok (.invokevirtual 148, 3) := by decide +kernel
theorem dX10_wouldPair_5 : decode cX10_wouldPair 5 = .ok (.aload_n 0, 1) := by decide +kernel
theorem dX10_wouldPair_6 : decode cX10_wouldPair 6 = .ok (.getfield 19, 3) := by decide +kernel
theorem dX10_wouldPair_9 : decode cX10_wouldPair 9 = .ok (.getfield 151, 3) := by decide +kernel
theorem dX10_wouldPair_12 : decode cX10_wouldPair 12 = .ok (.getfield 163, 3) := by decide +kernel
theorem dX10_wouldPair_15 : decode cX10_wouldPair 15 = .ok (.iload_n 1, 1) := by decide +kernel
theorem dX10_wouldPair_16 : decode cX10_wouldPair 16 = .ok (.iaload, 1) := by decide +kernel
theorem dX10_wouldPair_17 : decode cX10_wouldPair 17 = .ok (.ifCond .ne 18, 3) := by decide +kernel
theorem dX10_wouldPair_20 : decode cX10_wouldPair 20 = .ok (.aload_n 0, 1) := by decide +kernel
theorem dX10_wouldPair_21 : decode cX10_wouldPair 21 = .ok (.getfield 19, 3) := by decide +kernel
theorem dX10_wouldPair_24 : decode cX10_wouldPair 24 = .ok (.getfield 105, 3) := by decide +kernel
theorem dX10_wouldPair_27 : decode cX10_wouldPair 27 = .ok (.getfield 169, 3) := by decide +kernel
theorem dX10_wouldPair_30 : decode cX10_wouldPair 30 = .ok (.iload_n 1, 1) := by decide +kernel
theorem dX10_wouldPair_31 : decode cX10_wouldPair 31 = .ok (.iaload, 1) := by decide +kernel
theorem dX10_wouldPair_32 : decode cX10_wouldPair 32 = .ok (.ifCond .eq 13, 3) := by decide +kernel
theorem dX10_wouldPair_35 : decode cX10_wouldPair 35 = .ok (.new 186, 3) := by decide +kernel
theorem dX10_wouldPair_38 : decode cX10_wouldPair 38 = .ok (.dup, 1) := by decide +kernel
theorem dX10_wouldPair_39 : decode cX10_wouldPair 39 = .ok (.ldc 195, 2) := by decide +kernel
theorem dX10_wouldPair_41 : decode cX10_wouldPair 41 = .ok (.invokespecial 190, 3) := by decide +kernel
theorem dX10_wouldPair_44 : decode cX10_wouldPair 44 = .ok (.athrow, 1) := by decide +kernel
theorem dX10_wouldPair_45 : decode cX10_wouldPair 45 = .ok (.aload_n 0, 1) := by decide +kernel
theorem dX10_wouldPair_46 : decode cX10_wouldPair 46 = .ok (.getfield 26, 3) := by decide +kernel
theorem dX10_wouldPair_49 : decode cX10_wouldPair 49 = .ok (.aload_n 0, 1) := by decide +kernel
theorem dX10_wouldPair_50 : decode cX10_wouldPair 50 = .ok (.getfield 19, 3) := by decide +kernel
theorem dX10_wouldPair_53 : decode cX10_wouldPair 53 = .ok (.invokevirtual 197, 3) := by decide +kernel
theorem dX10_wouldPair_56 : decode cX10_wouldPair 56 = .ok (.aload_n 0, 1) := by decide +kernel
theorem dX10_wouldPair_57 : decode cX10_wouldPair 57 = .ok (.getfield 26, 3) := by decide +kernel
theorem dX10_wouldPair_60 : decode cX10_wouldPair 60 = .ok (.getfield 201, 3) := by decide +kernel
theorem dX10_wouldPair_63 : decode cX10_wouldPair 63 = .ok (.iload_n 1, 1) := by decide +kernel
theorem dX10_wouldPair_64 : decode cX10_wouldPair 64 = .ok (.iaload, 1) := by decide +kernel
theorem dX10_wouldPair_65 : decode cX10_wouldPair 65 = .ok (.ireturn, 1) := by decide +kernel
set_option maxRecDepth 20000 in
theorem ggX10_toleranceNeeded_X5_planRun : GoodIn wsX10_toleranceNeeded wsX5_planRun := goodIn_r _ [7, 8, 9, 10, 11, 12, 13, 14, 15, 16, 17, 18, 19, 20, 21, 22, 6, 23, 24, 25, 26, 27, 28, 29, 30, 31, 32, 33, 34, 35, 36, 37, 38, 39, 40, 41, 42, 43, 44, 45, 46, 47, 48, 49, 50, 51, 52, 53, 54, 70, 71, 72, 73, 74, 75, 76, 77, 78, 79, 80, 81, 82, 83, 84, 85, 86, 87, 88, 89, 90, 91, 92, 93, 94, 95, 96, 97, 98, 99, 100, 101, 102, 103, 104, 105, 106, 107, 108] (by decide +kernel) (by decide +kernel)
set_option maxRecDepth 20000 in
theorem gX10_toleranceNeeded_X5_planRun : GoodIn wsX10_toleranceNeeded (wsV RX10 197 RX5 yX5_planRun wsX5_planRun) := goodIn_app (goodIn_of _ (by decide +kernel)) ggX10_toleranceNeeded_X5_planRun
set_option maxRecDepth 20000 in
theorem ggX10_toleranceNeeded_X5_widestPlanned : GoodIn wsX10_toleranceNeeded wsX5_widestPlanned := goodIn_r _ [58, 59, 8, 9, 10, 60, 61, 38, 62, 33, 34, 6, 35, 36, 37, 39, 40, 41, 42, 14, 43, 18, 19, 44, 45, 46, 47, 48, 49, 50, 51, 52, 53, 16, 54, 70, 71, 72, 73, 74, 75, 76, 77, 78, 79, 80, 81, 82, 83, 84, 85, 86, 87, 97, 98, 99, 100, 101, 102, 103, 104, 105, 106, 107, 108, 88, 89, 90, 91, 92, 93, 94, 95, 96] (by decide +kernel) (by decide +kernel)
set_option maxRecDepth 20000 in
theorem gX10_toleranceNeeded_X5_widestPlanned : GoodIn wsX10_toleranceNeeded (wsV RX10 204 RX5 yX5_widestPlanned wsX5_widestPlanned) := goodIn_app (goodIn_of _ (by decide +kernel)) ggX10_toleranceNeeded_X5_widestPlanned
theorem dX10_toleranceNeeded_0 : decode cX10_toleranceNeeded 0 = .ok (.aload_n 0, 1) := by decide +kernel
theorem dX10_toleranceNeeded_1 : decode cX10_toleranceNeeded 1 = .ok (.getfield 26, 3) := by decide +kernel
theorem dX10_toleranceNeeded_4 : decode cX10_toleranceNeeded 4 = .ok (.aload_n 0, 1) := by decide +kernel
theorem dX10_toleranceNeeded_5 : decode cX10_toleranceNeeded 5 = .ok (.getfield 19, 3) := by decide +kernel
theorem dX10_toleranceNeeded_8 : decode cX10_toleranceNeeded 8 = .ok (.invokevirtual 197, 3) := by decide +kernel
theorem dX10_toleranceNeeded_11 : decode cX10_toleranceNeeded 11 = .ok (.aload_n 0, 1) := by decide +kernel
theorem dX10_toleranceNeeded_12 : decode cX10_toleranceNeeded 12 = .ok (.getfield 26, 3) := by decide +kernel
theorem dX10_toleranceNeeded_15 : decode cX10_toleranceNeeded 15 = .ok (.aload_n 0, 1) := by decide +kernel
theorem dX10_toleranceNeeded_16 : decode cX10_toleranceNeeded 16 = .ok (.getfield 19, 3) := by decide +kernel
theorem dX10_toleranceNeeded_19 : decode cX10_toleranceNeeded 19 = .ok (.invokevirtual 204, 3) := by decide +kernel
theorem dX10_toleranceNeeded_22 : decode cX10_toleranceNeeded 22 = .ok (.lreturn, 1) := by decide +kernel
set_option maxRecDepth 20000 in
theorem ggX10_matchRate_X0_receivablesIn : GoodIn wsX10_matchRate wsX0_receivablesIn := goodIn_r _ [6, 7, 8, 9, 10, 11, 5, 12, 13, 14, 15, 23, 24, 25, 26, 27, 28, 29, 30, 31, 32, 33, 34, 35, 36, 37, 38, 39, 40, 41, 42, 43, 44, 45, 46, 47, 48] (by decide +kernel) (by decide +kernel)
set_option maxRecDepth 20000 in
theorem gX10_matchRate_X0_receivablesIn : GoodIn wsX10_matchRate (wsV RX10 208 RX0 yX0_receivablesIn wsX0_receivablesIn) := goodIn_app (goodIn_of _ (by decide +kernel)) ggX10_matchRate_X0_receivablesIn
theorem dX10_matchRate_0 : decode cX10_matchRate 0 = .ok (.aload_n 0, 1) := by decide +kernel
theorem dX10_matchRate_1 : decode cX10_matchRate 1 = .ok (.getfield 19, 3) := by decide +kernel
theorem dX10_matchRate_4 : decode cX10_matchRate 4 = .ok (.iconst 1, 1) := by decide +kernel
theorem dX10_matchRate_5 : decode cX10_matchRate 5 = .ok (.invokevirtual 208, 3) := by decide +kernel
theorem dX10_matchRate_8 : decode cX10_matchRate 8 = .ok (.aload_n 0, 1) := by decide +kernel
theorem dX10_matchRate_9 : decode cX10_matchRate 9 = .ok (.getfield 19, 3) := by decide +kernel
theorem dX10_matchRate_12 : decode cX10_matchRate 12 = .ok (.iconst 3, 1) := by decide +kernel
theorem dX10_matchRate_13 : decode cX10_matchRate 13 = .ok (.invokevirtual 208, 3) := by decide +kernel
theorem dX10_matchRate_16 : decode cX10_matchRate 16 = .ok (.iadd, 1) := by decide +kernel
theorem dX10_matchRate_17 : decode cX10_matchRate 17 = .ok (.istore_n 1, 1) := by decide +kernel
theorem dX10_matchRate_18 : decode cX10_matchRate 18 = .ok (.iload_n 1, 1) := by decide +kernel
theorem dX10_matchRate_19 : decode cX10_matchRate 19 = .ok (.aload_n 0, 1) := by decide +kernel
theorem dX10_matchRate_20 : decode cX10_matchRate 20 = .ok (.getfield 19, 3) := by decide +kernel
theorem dX10_matchRate_23 : decode cX10_matchRate 23 = .ok (.iconst 2, 1) := by decide +kernel
theorem dX10_matchRate_24 : decode cX10_matchRate 24 = .ok (.invokevirtual 208, 3) := by decide +kernel
theorem dX10_matchRate_27 : decode cX10_matchRate 27 = .ok (.iadd, 1) := by decide +kernel
theorem dX10_matchRate_28 : decode cX10_matchRate 28 = .ok (.istore_n 2, 1) := by decide +kernel
theorem dX10_matchRate_29 : decode cX10_matchRate 29 = .ok (.iload_n 2, 1) := by decide +kernel
theorem dX10_matchRate_30 : decode cX10_matchRate 30 = .ok (.ifCond .ne 5, 3) := by decide +kernel
theorem dX10_matchRate_33 : decode cX10_matchRate 33 = .ok (.fconst 0, 1) := by decide +kernel
theorem dX10_matchRate_34 : decode cX10_matchRate 34 = .ok (.freturn, 1) := by decide +kernel
theorem dX10_matchRate_35 : decode cX10_matchRate 35 = .ok (.iload_n 1, 1) := by decide +kernel
theorem dX10_matchRate_36 : decode cX10_matchRate 36 = .ok (.i2f, 1) := by decide +kernel
theorem dX10_matchRate_37 : decode cX10_matchRate 37 = .ok (.iload_n 2, 1) := by decide +kernel
theorem dX10_matchRate_38 : decode cX10_matchRate 38 = .ok (.i2f, 1) := by decide +kernel
theorem dX10_matchRate_39 : decode cX10_matchRate 39 = .ok (.fdiv, 1) := by decide +kernel
theorem dX10_matchRate_40 : decode cX10_matchRate 40 = .ok (.freturn, 1) := by decide +kernel
set_option maxRecDepth 20000 in
theorem ggX10_balance_X10_requireCompany : GoodIn wsX10_balance wsX10_requireCompany := goodIn_ca (goodIn_r _ [6, 7, 8, 1, 9, 10, 37, 38, 39, 40, 41, 42, 43, 44, 45, 46, 47, 48, 49, 50, 51, 52, 53, 54, 55, 56, 57, 58] (by decide +kernel) (by decide +kernel)) (goodIn_sub (fun _ h => List.mem_cons_of_mem _ (List.mem_append_right _ h)) (by decide +kernel))
set_option maxRecDepth 20000 in
theorem gX10_balance_X10_requireCompany : GoodIn wsX10_balance (wsV RX10 127 RX10 yX10_requireCompany wsX10_requireCompany) := goodIn_app (goodIn_of _ (by decide +kernel)) ggX10_balance_X10_requireCompany
set_option maxRecDepth 20000 in
theorem ggX10_balance_X0_balanceBetween : GoodIn wsX10_balance wsX0_balanceBetween := goodIn_r _ [15, 16, 17, 18, 19, 20, 21, 22, 23, 24, 25, 14, 26, 27, 28, 29, 30, 31, 32, 33, 34, 35, 36, 44, 45, 46, 59, 60, 61, 62, 63, 64, 65, 66, 67, 68, 69, 70, 71, 72, 73, 74, 75, 76, 77, 78, 79, 80, 81, 47, 48, 49, 50, 51, 52, 53, 54, 55, 56, 57, 58] (by decide +kernel) (by decide +kernel)
set_option maxRecDepth 20000 in
theorem gX10_balance_X0_balanceBetween : GoodIn wsX10_balance (wsV RX10 211 RX0 yX0_balanceBetween wsX0_balanceBetween) := goodIn_app (goodIn_of _ (by decide +kernel)) ggX10_balance_X0_balanceBetween
theorem dX10_balance_0 : decode cX10_balance 0 = .ok (.aload_n 0, 1) := by decide +kernel
theorem dX10_balance_1 : decode cX10_balance 1 = .ok (.iload_n 1, 1) := by decide +kernel
theorem dX10_balance_2 : decode cX10_balance 2 = .ok (.invokevirtual 127, 3) := by decide +kernel
theorem dX10_balance_5 : decode cX10_balance 5 = .ok (.aload_n 0, 1) := by decide +kernel
theorem dX10_balance_6 : decode cX10_balance 6 = .ok (.iload_n 2, 1) := by decide +kernel
theorem dX10_balance_7 : decode cX10_balance 7 = .ok (.invokevirtual 127, 3) := by decide +kernel
theorem dX10_balance_10 : decode cX10_balance 10 = .ok (.aload_n 0, 1) := by decide +kernel
theorem dX10_balance_11 : decode cX10_balance 11 = .ok (.getfield 19, 3) := by decide +kernel
theorem dX10_balance_14 : decode cX10_balance 14 = .ok (.iload_n 1, 1) := by decide +kernel
theorem dX10_balance_15 : decode cX10_balance 15 = .ok (.iload_n 2, 1) := by decide +kernel
theorem dX10_balance_16 : decode cX10_balance 16 = .ok (.invokevirtual 211, 3) := by decide +kernel
theorem dX10_balance_19 : decode cX10_balance 19 = .ok (.lreturn, 1) := by decide +kernel
set_option maxRecDepth 20000 in
theorem ggX10_total_X0_netOfStates : GoodIn wsX10_total wsX0_netOfStates := goodIn_r _ [13, 14, 15, 16, 17, 18, 19, 20, 21, 12, 22, 23, 24, 25, 26, 27, 28, 29, 30, 31, 32, 33, 60, 61, 62, 63, 64, 65, 66, 67, 68, 69, 70, 71, 72, 73, 74, 75, 76, 77, 78, 79, 80, 81, 82, 83, 84, 85, 86, 87, 88, 89, 90, 91, 92, 93, 94, 95, 96, 97] (by decide +kernel) (by decide +kernel)
set_option maxRecDepth 20000 in
theorem gX10_total_X0_netOfStates : GoodIn wsX10_total (wsV RX10 215 RX0 yX0_netOfStates wsX0_netOfStates) := goodIn_app (goodIn_of _ (by decide +kernel)) ggX10_total_X0_netOfStates
set_option maxRecDepth 20000 in
theorem ggX10_total_X1_profitOfAll : GoodIn wsX10_total wsX1_profitOfAll := goodIn_r _ [38, 39, 40, 41, 42, 43, 37, 44, 45, 46, 47, 48, 49, 50, 51, 52, 60, 61, 62, 63, 64, 65, 66, 67, 68, 69, 70, 71, 72, 73, 74, 75, 76, 77, 78, 79, 80, 81, 82, 83, 84, 85, 86, 87, 88, 89, 90, 91, 92, 93, 94, 95, 96, 97] (by decide +kernel) (by decide +kernel)
set_option maxRecDepth 20000 in
theorem gX10_total_X1_profitOfAll : GoodIn wsX10_total (wsV RX10 228 RX1 yX1_profitOfAll wsX1_profitOfAll) := goodIn_app (goodIn_of _ (by decide +kernel)) ggX10_total_X1_profitOfAll
theorem dX10_total_0 : decode cX10_total 0 = .ok (.iload_n 1, 1) := by decide +kernel
theorem dX10_total_1 : decode cX10_total 1 = .ok (.tableswitch 132 0 7 #[47, 57, 67, 77, 87, 98, 109, 120], 47) := by decide +kernel
theorem dX10_total_48 : decode cX10_total 48 = .ok (.aload_n 0, 1) := by decide +kernel
theorem dX10_total_49 : decode cX10_total 49 = .ok (.getfield 19, 3) := by decide +kernel
theorem dX10_total_52 : decode cX10_total 52 = .ok (.iconst 0, 1) := by decide +kernel
theorem dX10_total_53 : decode cX10_total 53 = .ok (.iconst 2, 1) := by decide +kernel
theorem dX10_total_54 : decode cX10_total 54 = .ok (.invokevirtual 215, 3) := by decide +kernel
theorem dX10_total_57 : decode cX10_total 57 = .ok (.lreturn, 1) := by decide +kernel
theorem dX10_total_58 : decode cX10_total 58 = .ok (.aload_n 0, 1) := by decide +kernel
theorem dX10_total_59 : decode cX10_total 59 = .ok (.getfield 19, 3) := by decide +kernel
theorem dX10_total_62 : decode cX10_total 62 = .ok (.iconst 0, 1) := by decide +kernel
theorem dX10_total_63 : decode cX10_total 63 = .ok (.iconst 0, 1) := by decide +kernel
theorem dX10_total_64 : decode cX10_total 64 = .ok (.invokevirtual 215, 3) := by decide +kernel
theorem dX10_total_67 : decode cX10_total 67 = .ok (.lreturn, 1) := by decide +kernel
theorem dX10_total_68 : decode cX10_total 68 = .ok (.aload_n 0, 1) := by decide +kernel
theorem dX10_total_69 : decode cX10_total 69 = .ok (.getfield 19, 3) := by decide +kernel
theorem dX10_total_72 : decode cX10_total 72 = .ok (.iconst 1, 1) := by decide +kernel
theorem dX10_total_73 : decode cX10_total 73 = .ok (.iconst 1, 1) := by decide +kernel
theorem dX10_total_74 : decode cX10_total 74 = .ok (.invokevirtual 215, 3) := by decide +kernel
theorem dX10_total_77 : decode cX10_total 77 = .ok (.lreturn, 1) := by decide +kernel
theorem dX10_total_78 : decode cX10_total 78 = .ok (.aload_n 0, 1) := by decide +kernel
theorem dX10_total_79 : decode cX10_total 79 = .ok (.getfield 19, 3) := by decide +kernel
theorem dX10_total_82 : decode cX10_total 82 = .ok (.iconst 2, 1) := by decide +kernel
theorem dX10_total_83 : decode cX10_total 83 = .ok (.iconst 2, 1) := by decide +kernel
theorem dX10_total_84 : decode cX10_total 84 = .ok (.invokevirtual 215, 3) := by decide +kernel
theorem dX10_total_87 : decode cX10_total 87 = .ok (.lreturn, 1) := by decide +kernel
theorem dX10_total_88 : decode cX10_total 88 = .ok (.aload_n 0, 1) := by decide +kernel
theorem dX10_total_89 : decode cX10_total 89 = .ok (.getfield 19, 3) := by decide +kernel
theorem dX10_total_92 : decode cX10_total 92 = .ok (.getfield 105, 3) := by decide +kernel
theorem dX10_total_95 : decode cX10_total 95 = .ok (.getfield 218, 3) := by decide +kernel
theorem dX10_total_98 : decode cX10_total 98 = .ok (.lreturn, 1) := by decide +kernel
theorem dX10_total_99 : decode cX10_total 99 = .ok (.aload_n 0, 1) := by decide +kernel
theorem dX10_total_100 : decode cX10_total 100 = .ok (.getfield 19, 3) := by decide +kernel
theorem dX10_total_103 : decode cX10_total 103 = .ok (.getfield 105, 3) := by decide +kernel
theorem dX10_total_106 : decode cX10_total 106 = .ok (.getfield 222, 3) := by decide +kernel
theorem dX10_total_109 : decode cX10_total 109 = .ok (.lreturn, 1) := by decide +kernel
theorem dX10_total_110 : decode cX10_total 110 = .ok (.aload_n 0, 1) := by decide +kernel
theorem dX10_total_111 : decode cX10_total 111 = .ok (.getfield 19, 3) := by decide +kernel
theorem dX10_total_114 : decode cX10_total 114 = .ok (.getfield 105, 3) := by decide +kernel
theorem dX10_total_117 : decode cX10_total 117 = .ok (.getfield 225, 3) := by decide +kernel
theorem dX10_total_120 : decode cX10_total 120 = .ok (.lreturn, 1) := by decide +kernel
theorem dX10_total_121 : decode cX10_total 121 = .ok (.aload_n 0, 1) := by decide +kernel
theorem dX10_total_122 : decode cX10_total 122 = .ok (.getfield 40, 3) := by decide +kernel
theorem dX10_total_125 : decode cX10_total 125 = .ok (.aload_n 0, 1) := by decide +kernel
theorem dX10_total_126 : decode cX10_total 126 = .ok (.getfield 19, 3) := by decide +kernel
theorem dX10_total_129 : decode cX10_total 129 = .ok (.invokevirtual 228, 3) := by decide +kernel
theorem dX10_total_132 : decode cX10_total 132 = .ok (.lreturn, 1) := by decide +kernel
theorem dX10_total_133 : decode cX10_total 133 = .ok (.new 66, 3) := by decide +kernel
theorem dX10_total_136 : decode cX10_total 136 = .ok (.dup, 1) := by decide +kernel
theorem dX10_total_137 : decode cX10_total 137 = .ok (.ldc 117, 2) := by decide +kernel
theorem dX10_total_139 : decode cX10_total 139 = .ok (.invokespecial 70, 3) := by decide +kernel
theorem dX10_total_142 : decode cX10_total 142 = .ok (.athrow, 1) := by decide +kernel
set_option maxRecDepth 20000 in
theorem ggX10_position_X10_requireCompany : GoodIn wsX10_position wsX10_requireCompany := goodIn_ca (goodIn_r _ [8, 9, 10, 2, 11, 12, 48, 49, 50, 51, 52, 53, 54, 58, 59, 60, 61, 62, 63, 64, 65, 66, 67, 68, 69, 70, 71, 72] (by decide +kernel) (by decide +kernel)) (goodIn_sub (fun _ h => List.mem_cons_of_mem _ (List.mem_append_right _ h)) (by decide +kernel))
set_option maxRecDepth 20000 in
theorem gX10_position_X10_requireCompany : GoodIn wsX10_position (wsV RX10 127 RX10 yX10_requireCompany wsX10_requireCompany) := goodIn_app (goodIn_of _ (by decide +kernel)) ggX10_position_X10_requireCompany
set_option maxRecDepth 20000 in
theorem ggX10_position_X6_findPositions : GoodIn wsX10_position wsX6_findPositions := goodIn_r _ [17, 18, 19, 20, 21, 22, 23, 24, 25, 26, 27, 28, 29, 30, 31, 32, 33, 34, 35, 36, 37, 38, 39, 40, 41, 42, 43, 44, 45, 46, 47, 55, 56, 57, 58, 59, 60, 73, 74, 75, 76, 77, 78, 79, 80, 81, 82, 83, 84, 85, 86, 87, 88, 89, 90, 91, 92, 93, 94, 95, 61, 62, 63, 64, 65, 66, 67, 68, 69, 70, 71, 72] (by decide +kernel) (by decide +kernel)
set_option maxRecDepth 20000 in
theorem gX10_position_X6_findPositions : GoodIn wsX10_position (wsV RX10 231 RX6 yX6_findPositions wsX6_findPositions) := goodIn_app (goodIn_of _ (by decide +kernel)) ggX10_position_X6_findPositions
theorem dX10_position_0 : decode cX10_position 0 = .ok (.aload_n 0, 1) := by decide +kernel
theorem dX10_position_1 : decode cX10_position 1 = .ok (.iload_n 1, 1) := by decide +kernel
theorem dX10_position_2 : decode cX10_position 2 = .ok (.invokevirtual 127, 3) := by decide +kernel
theorem dX10_position_5 : decode cX10_position 5 = .ok (.aload_n 0, 1) := by decide +kernel
theorem dX10_position_6 : decode cX10_position 6 = .ok (.getfield 33, 3) := by decide +kernel
theorem dX10_position_9 : decode cX10_position 9 = .ok (.aload_n 0, 1) := by decide +kernel
theorem dX10_position_10 : decode cX10_position 10 = .ok (.getfield 19, 3) := by decide +kernel
theorem dX10_position_13 : decode cX10_position 13 = .ok (.invokevirtual 231, 3) := by decide +kernel
theorem dX10_position_16 : decode cX10_position 16 = .ok (.aload_n 0, 1) := by decide +kernel
theorem dX10_position_17 : decode cX10_position 17 = .ok (.getfield 33, 3) := by decide +kernel
theorem dX10_position_20 : decode cX10_position 20 = .ok (.getfield 234, 3) := by decide +kernel
theorem dX10_position_23 : decode cX10_position 23 = .ok (.iload_n 1, 1) := by decide +kernel
theorem dX10_position_24 : decode cX10_position 24 = .ok (.laload, 1) := by decide +kernel
theorem dX10_position_25 : decode cX10_position 25 = .ok (.lreturn, 1) := by decide +kernel
set_option maxRecDepth 20000 in
theorem ggX10_settledPosition_X10_requireCompany : GoodIn wsX10_settledPosition wsX10_requireCompany := goodIn_ca (goodIn_r _ [8, 9, 10, 1, 11, 12, 13, 14, 15, 16, 17, 18, 19, 20, 21, 22, 37, 38, 39, 40, 41, 42, 43, 44, 45, 46, 47, 48] (by decide +kernel) (by decide +kernel)) (goodIn_sub (fun _ h => List.mem_cons_of_mem _ (List.mem_append_right _ h)) (by decide +kernel))
set_option maxRecDepth 20000 in
theorem gX10_settledPosition_X10_requireCompany : GoodIn wsX10_settledPosition (wsV RX10 127 RX10 yX10_requireCompany wsX10_requireCompany) := goodIn_app (goodIn_of _ (by decide +kernel)) ggX10_settledPosition_X10_requireCompany
theorem dX10_settledPosition_0 : decode cX10_settledPosition 0 = .ok (.aload_n 0, 1) := by decide +kernel
theorem dX10_settledPosition_1 : decode cX10_settledPosition 1 = .ok (.iload_n 1, 1) := by decide +kernel
theorem dX10_settledPosition_2 : decode cX10_settledPosition 2 = .ok (.invokevirtual 127, 3) := by decide +kernel
theorem dX10_settledPosition_5 : decode cX10_settledPosition 5 = .ok (.aload_n 0, 1) := by decide +kernel
theorem dX10_settledPosition_6 : decode cX10_settledPosition 6 = .ok (.getfield 19, 3) := by decide +kernel
theorem dX10_settledPosition_9 : decode cX10_settledPosition 9 = .ok (.getfield 105, 3) := by decide +kernel
theorem dX10_settledPosition_12 : decode cX10_settledPosition 12 = .ok (.getfield 237, 3) := by decide +kernel
theorem dX10_settledPosition_15 : decode cX10_settledPosition 15 = .ok (.iload_n 1, 1) := by decide +kernel
theorem dX10_settledPosition_16 : decode cX10_settledPosition 16 = .ok (.laload, 1) := by decide +kernel
theorem dX10_settledPosition_17 : decode cX10_settledPosition 17 = .ok (.lreturn, 1) := by decide +kernel
set_option maxRecDepth 20000 in
theorem ggX10_directPayments_X6_unevenPairs : GoodIn wsX10_directPayments wsX6_unevenPairs := goodIn_r _ [7, 8, 9, 10, 11, 6, 12, 13, 14, 15, 16, 17, 18, 19, 20, 21, 22, 23, 24, 25, 26, 27, 28, 29, 30, 31, 32, 33, 34, 35, 36, 37, 38, 39, 40, 41, 49, 50, 51, 52, 53, 54, 55, 56, 57, 58, 59, 60, 61, 62, 63, 64, 65, 66, 67, 68, 69, 70, 71, 72, 73, 74, 75, 76, 77, 78, 79, 80, 81, 82, 83, 84, 85, 86] (by decide +kernel) (by decide +kernel)
set_option maxRecDepth 20000 in
theorem gX10_directPayments_X6_unevenPairs : GoodIn wsX10_directPayments (wsV RX10 240 RX6 yX6_unevenPairs wsX6_unevenPairs) := goodIn_app (goodIn_of _ (by decide +kernel)) ggX10_directPayments_X6_unevenPairs
theorem dX10_directPayments_0 : decode cX10_directPayments 0 = .ok (.aload_n 0, 1) := by decide +kernel
theorem dX10_directPayments_1 : decode cX10_directPayments 1 = .ok (.getfield 33, 3) := by decide +kernel
theorem dX10_directPayments_4 : decode cX10_directPayments 4 = .ok (.aload_n 0, 1) := by decide +kernel
theorem dX10_directPayments_5 : decode cX10_directPayments 5 = .ok (.getfield 19, 3) := by decide +kernel
theorem dX10_directPayments_8 : decode cX10_directPayments 8 = .ok (.invokevirtual 240, 3) := by decide +kernel
theorem dX10_directPayments_11 : decode cX10_directPayments 11 = .ok (.ireturn, 1) := by decide +kernel
set_option maxRecDepth 20000 in
theorem ggX10_fewestPayments_X6_findPositions : GoodIn wsX10_fewestPayments wsX6_findPositions := goodIn_r _ [9, 10, 11, 12, 13, 14, 15, 16, 17, 18, 19, 20, 21, 22, 23, 24, 25, 26, 27, 28, 29, 30, 31, 32, 33, 34, 35, 36, 37, 38, 39, 72, 73, 74, 57, 58, 59, 75, 76, 77, 78, 79, 80, 81, 82, 83, 84, 85, 86, 87, 88, 89, 90, 91, 92, 93, 94, 95, 96, 97, 60, 61, 62, 63, 64, 65, 66, 67, 68, 69, 70, 71] (by decide +kernel) (by decide +kernel)
set_option maxRecDepth 20000 in
theorem gX10_fewestPayments_X6_findPositions : GoodIn wsX10_fewestPayments (wsV RX10 231 RX6 yX6_findPositions wsX6_findPositions) := goodIn_app (goodIn_of _ (by decide +kernel)) ggX10_fewestPayments_X6_findPositions
set_option maxRecDepth 20000 in
theorem ggX10_fewestPayments_X6_fewestFor : GoodIn wsX10_fewestPayments wsX6_fewestFor := goodIn_r _ [43, 44, 45, 10, 46, 47, 48, 49, 72, 73, 74] (by decide +kernel) (by decide +kernel)
set_option maxRecDepth 20000 in
theorem gX10_fewestPayments_X6_fewestFor : GoodIn wsX10_fewestPayments (wsV RX10 244 RX6 yX6_fewestFor wsX6_fewestFor) := goodIn_app (goodIn_of _ (by decide +kernel)) ggX10_fewestPayments_X6_fewestFor
theorem dX10_fewestPayments_0 : decode cX10_fewestPayments 0 = .ok (.aload_n 0, 1) := by decide +kernel
theorem dX10_fewestPayments_1 : decode cX10_fewestPayments 1 = .ok (.getfield 33, 3) := by decide +kernel
theorem dX10_fewestPayments_4 : decode cX10_fewestPayments 4 = .ok (.aload_n 0, 1) := by decide +kernel
theorem dX10_fewestPayments_5 : decode cX10_fewestPayments 5 = .ok (.getfield 19, 3) := by decide +kernel
theorem dX10_fewestPayments_8 : decode cX10_fewestPayments 8 = .ok (.invokevirtual 231, 3) := by decide +kernel
theorem dX10_fewestPayments_11 : decode cX10_fewestPayments 11 = .ok (.aload_n 0, 1) := by decide +kernel
theorem dX10_fewestPayments_12 : decode cX10_fewestPayments 12 = .ok (.getfield 33, 3) := by decide +kernel
theorem dX10_fewestPayments_15 : decode cX10_fewestPayments 15 = .ok (.aload_n 0, 1) := by decide +kernel
theorem dX10_fewestPayments_16 : decode cX10_fewestPayments 16 = .ok (.getfield 19, 3) := by decide +kernel
theorem dX10_fewestPayments_19 : decode cX10_fewestPayments 19 = .ok (.getfield 91, 3) := by decide +kernel
theorem dX10_fewestPayments_22 : decode cX10_fewestPayments 22 = .ok (.getfield 94, 3) := by decide +kernel
theorem dX10_fewestPayments_25 : decode cX10_fewestPayments 25 = .ok (.invokevirtual 244, 3) := by decide +kernel
theorem dX10_fewestPayments_28 : decode cX10_fewestPayments 28 = .ok (.ireturn, 1) := by decide +kernel
set_option maxRecDepth 20000 in
theorem ggX10_stock_X10_requireCompany : GoodIn wsX10_stock wsX10_requireCompany := goodIn_ca (goodIn_r _ [7, 8, 9, 2, 10, 11, 31, 32, 33, 34, 35, 36, 37, 38, 39, 40, 41, 42, 43, 44, 45, 46, 47, 48, 49, 50, 51, 52] (by decide +kernel) (by decide +kernel)) (goodIn_sub (fun _ h => List.mem_cons_of_mem _ (List.mem_append_right _ h)) (by decide +kernel))
set_option maxRecDepth 20000 in
theorem gX10_stock_X10_requireCompany : GoodIn wsX10_stock (wsV RX10 127 RX10 yX10_requireCompany wsX10_requireCompany) := goodIn_app (goodIn_of _ (by decide +kernel)) ggX10_stock_X10_requireCompany
set_option maxRecDepth 20000 in
theorem ggX10_stock_X10_requireProduct : GoodIn wsX10_stock wsX10_requireProduct := goodIn_ca (goodIn_r _ [15, 8, 9, 2, 10, 16, 31, 32, 33, 34, 35, 36, 37, 38, 39, 40, 41, 42, 43, 44, 45, 46, 47, 48, 49, 50, 51, 52] (by decide +kernel) (by decide +kernel)) (goodIn_sub (fun _ h => List.mem_cons_of_mem _ (List.mem_append_right _ h)) (by decide +kernel))
set_option maxRecDepth 20000 in
theorem gX10_stock_X10_requireProduct : GoodIn wsX10_stock (wsV RX10 133 RX10 yX10_requireProduct wsX10_requireProduct) := goodIn_app (goodIn_of _ (by decide +kernel)) ggX10_stock_X10_requireProduct
set_option maxRecDepth 20000 in
theorem ggX10_stock_X1_piecesOf : GoodIn wsX10_stock wsX1_piecesOf := goodIn_r _ [21, 22, 23, 24, 25, 26, 20, 27, 28, 29, 30, 38, 39, 40, 53, 54, 55, 56, 57, 58, 59, 60, 61, 62, 63, 64, 65, 66, 67, 68, 69, 70, 71, 72, 73, 74, 75] (by decide +kernel) (by decide +kernel)
set_option maxRecDepth 20000 in
theorem gX10_stock_X1_piecesOf : GoodIn wsX10_stock (wsV RX10 247 RX1 yX1_piecesOf wsX1_piecesOf) := goodIn_app (goodIn_of _ (by decide +kernel)) ggX10_stock_X1_piecesOf
theorem dX10_stock_0 : decode cX10_stock 0 = .ok (.aload_n 0, 1) := by decide +kernel
theorem dX10_stock_1 : decode cX10_stock 1 = .ok (.iload_n 1, 1) := by decide +kernel
theorem dX10_stock_2 : decode cX10_stock 2 = .ok (.invokevirtual 127, 3) := by decide +kernel
theorem dX10_stock_5 : decode cX10_stock 5 = .ok (.aload_n 0, 1) := by decide +kernel
theorem dX10_stock_6 : decode cX10_stock 6 = .ok (.iload_n 2, 1) := by decide +kernel
theorem dX10_stock_7 : decode cX10_stock 7 = .ok (.invokevirtual 133, 3) := by decide +kernel
theorem dX10_stock_10 : decode cX10_stock 10 = .ok (.aload_n 0, 1) := by decide +kernel
theorem dX10_stock_11 : decode cX10_stock 11 = .ok (.getfield 40, 3) := by decide +kernel
theorem dX10_stock_14 : decode cX10_stock 14 = .ok (.aload_n 0, 1) := by decide +kernel
theorem dX10_stock_15 : decode cX10_stock 15 = .ok (.getfield 19, 3) := by decide +kernel
theorem dX10_stock_18 : decode cX10_stock 18 = .ok (.iload_n 1, 1) := by decide +kernel
theorem dX10_stock_19 : decode cX10_stock 19 = .ok (.iload_n 2, 1) := by decide +kernel
theorem dX10_stock_20 : decode cX10_stock 20 = .ok (.invokevirtual 247, 3) := by decide +kernel
theorem dX10_stock_23 : decode cX10_stock 23 = .ok (.ireturn, 1) := by decide +kernel
set_option maxRecDepth 20000 in
theorem ggX10_oldestPrice_X10_requireCompany : GoodIn wsX10_oldestPrice wsX10_requireCompany := goodIn_ca (goodIn_r _ [7, 8, 9, 2, 10, 11, 32, 33, 34, 35, 36, 37, 38, 39, 40, 41, 42, 43, 44, 45, 46, 47, 48, 49, 50, 51, 52, 53] (by decide +kernel) (by decide +kernel)) (goodIn_sub (fun _ h => List.mem_cons_of_mem _ (List.mem_append_right _ h)) (by decide +kernel))
set_option maxRecDepth 20000 in
theorem gX10_oldestPrice_X10_requireCompany : GoodIn wsX10_oldestPrice (wsV RX10 127 RX10 yX10_requireCompany wsX10_requireCompany) := goodIn_app (goodIn_of _ (by decide +kernel)) ggX10_oldestPrice_X10_requireCompany
set_option maxRecDepth 20000 in
theorem ggX10_oldestPrice_X10_requireProduct : GoodIn wsX10_oldestPrice wsX10_requireProduct := goodIn_ca (goodIn_r _ [15, 8, 9, 2, 10, 16, 32, 33, 34, 35, 36, 37, 38, 39, 40, 41, 42, 43, 44, 45, 46, 47, 48, 49, 50, 51, 52, 53] (by decide +kernel) (by decide +kernel)) (goodIn_sub (fun _ h => List.mem_cons_of_mem _ (List.mem_append_right _ h)) (by decide +kernel))
set_option maxRecDepth 20000 in
theorem gX10_oldestPrice_X10_requireProduct : GoodIn wsX10_oldestPrice (wsV RX10 133 RX10 yX10_requireProduct wsX10_requireProduct) := goodIn_app (goodIn_of _ (by decide +kernel)) ggX10_oldestPrice_X10_requireProduct
set_option maxRecDepth 20000 in
theorem ggX10_oldestPrice_X1_firstPrice : GoodIn wsX10_oldestPrice wsX1_firstPrice := goodIn_r _ [21, 22, 23, 24, 25, 26, 27, 20, 28, 29, 30, 31, 39, 40, 41, 54, 55, 56, 57, 58, 59, 60, 61, 62, 63, 64, 65, 66, 67, 68, 69, 70, 71, 72, 73, 74, 75, 76] (by decide +kernel) (by decide +kernel)
set_option maxRecDepth 20000 in
theorem gX10_oldestPrice_X1_firstPrice : GoodIn wsX10_oldestPrice (wsV RX10 251 RX1 yX1_firstPrice wsX1_firstPrice) := goodIn_app (goodIn_of _ (by decide +kernel)) ggX10_oldestPrice_X1_firstPrice
theorem dX10_oldestPrice_0 : decode cX10_oldestPrice 0 = .ok (.aload_n 0, 1) := by decide +kernel
theorem dX10_oldestPrice_1 : decode cX10_oldestPrice 1 = .ok (.iload_n 1, 1) := by decide +kernel
theorem dX10_oldestPrice_2 : decode cX10_oldestPrice 2 = .ok (.invokevirtual 127, 3) := by decide +kernel
theorem dX10_oldestPrice_5 : decode cX10_oldestPrice 5 = .ok (.aload_n 0, 1) := by decide +kernel
theorem dX10_oldestPrice_6 : decode cX10_oldestPrice 6 = .ok (.iload_n 2, 1) := by decide +kernel
theorem dX10_oldestPrice_7 : decode cX10_oldestPrice 7 = .ok (.invokevirtual 133, 3) := by decide +kernel
theorem dX10_oldestPrice_10 : decode cX10_oldestPrice 10 = .ok (.aload_n 0, 1) := by decide +kernel
theorem dX10_oldestPrice_11 : decode cX10_oldestPrice 11 = .ok (.getfield 40, 3) := by decide +kernel
theorem dX10_oldestPrice_14 : decode cX10_oldestPrice 14 = .ok (.aload_n 0, 1) := by decide +kernel
theorem dX10_oldestPrice_15 : decode cX10_oldestPrice 15 = .ok (.getfield 19, 3) := by decide +kernel
theorem dX10_oldestPrice_18 : decode cX10_oldestPrice 18 = .ok (.iload_n 1, 1) := by decide +kernel
theorem dX10_oldestPrice_19 : decode cX10_oldestPrice 19 = .ok (.iload_n 2, 1) := by decide +kernel
theorem dX10_oldestPrice_20 : decode cX10_oldestPrice 20 = .ok (.invokevirtual 251, 3) := by decide +kernel
theorem dX10_oldestPrice_23 : decode cX10_oldestPrice 23 = .ok (.ireturn, 1) := by decide +kernel
set_option maxRecDepth 20000 in
theorem ggX10_unrealized_X10_requireCompany : GoodIn wsX10_unrealized wsX10_requireCompany := goodIn_ca (goodIn_r _ [7, 8, 9, 2, 10, 11, 36, 37, 38, 39, 40, 41, 42, 43, 44, 45, 46, 47, 48, 49, 50, 51, 52, 53, 54, 55, 56, 57] (by decide +kernel) (by decide +kernel)) (goodIn_sub (fun _ h => List.mem_cons_of_mem _ (List.mem_append_right _ h)) (by decide +kernel))
set_option maxRecDepth 20000 in
theorem gX10_unrealized_X10_requireCompany : GoodIn wsX10_unrealized (wsV RX10 127 RX10 yX10_requireCompany wsX10_requireCompany) := goodIn_app (goodIn_of _ (by decide +kernel)) ggX10_unrealized_X10_requireCompany
set_option maxRecDepth 20000 in
theorem ggX10_unrealized_X1_profitAfter : GoodIn wsX10_unrealized wsX1_profitAfter := goodIn_r _ [16, 17, 18, 19, 20, 21, 22, 23, 24, 25, 26, 27, 28, 15, 29, 30, 31, 32, 33, 34, 35, 43, 44, 45, 58, 59, 60, 61, 62, 63, 64, 65, 66, 67, 68, 69, 70, 71, 72, 73, 74, 75, 76, 77, 78, 79, 80, 46, 47, 48, 49, 50, 51, 52, 53, 54, 55, 56, 57] (by decide +kernel) (by decide +kernel)
set_option maxRecDepth 20000 in
theorem gX10_unrealized_X1_profitAfter : GoodIn wsX10_unrealized (wsV RX10 254 RX1 yX1_profitAfter wsX1_profitAfter) := goodIn_app (goodIn_of _ (by decide +kernel)) ggX10_unrealized_X1_profitAfter
theorem dX10_unrealized_0 : decode cX10_unrealized 0 = .ok (.aload_n 0, 1) := by decide +kernel
theorem dX10_unrealized_1 : decode cX10_unrealized 1 = .ok (.iload_n 1, 1) := by decide +kernel
theorem dX10_unrealized_2 : decode cX10_unrealized 2 = .ok (.invokevirtual 127, 3) := by decide +kernel
theorem dX10_unrealized_5 : decode cX10_unrealized 5 = .ok (.aload_n 0, 1) := by decide +kernel
theorem dX10_unrealized_6 : decode cX10_unrealized 6 = .ok (.getfield 40, 3) := by decide +kernel
theorem dX10_unrealized_9 : decode cX10_unrealized 9 = .ok (.aload_n 0, 1) := by decide +kernel
theorem dX10_unrealized_10 : decode cX10_unrealized 10 = .ok (.getfield 19, 3) := by decide +kernel
theorem dX10_unrealized_13 : decode cX10_unrealized 13 = .ok (.iload_n 1, 1) := by decide +kernel
theorem dX10_unrealized_14 : decode cX10_unrealized 14 = .ok (.iconst (-1), 1) := by decide +kernel
theorem dX10_unrealized_15 : decode cX10_unrealized 15 = .ok (.iconst 0, 1) := by decide +kernel
theorem dX10_unrealized_16 : decode cX10_unrealized 16 = .ok (.invokevirtual 254, 3) := by decide +kernel
theorem dX10_unrealized_19 : decode cX10_unrealized 19 = .ok (.lreturn, 1) := by decide +kernel
set_option maxRecDepth 20000 in
theorem ggX10_unrealizedAfterSale_X10_requireCompany : GoodIn wsX10_unrealizedAfterSale wsX10_requireCompany := goodIn_ca (goodIn_r _ [7, 8, 9, 2, 10, 11, 60, 61, 62, 63, 64, 65, 66, 67, 68, 69, 70, 71, 72, 73, 74, 75, 76, 77, 78, 79, 80, 81] (by decide +kernel) (by decide +kernel)) (goodIn_sub (fun _ h => List.mem_cons_of_mem _ (List.mem_append_left _ (List.mem_append_left _ (List.mem_append_right _ h)))) (by decide +kernel))
set_option maxRecDepth 20000 in
theorem gX10_unrealizedAfterSale_X10_requireCompany : GoodIn wsX10_unrealizedAfterSale (wsV RX10 127 RX10 yX10_requireCompany wsX10_requireCompany) := goodIn_app (goodIn_of _ (by decide +kernel)) ggX10_unrealizedAfterSale_X10_requireCompany
set_option maxRecDepth 20000 in
theorem ggX10_unrealizedAfterSale_X10_requireProduct : GoodIn wsX10_unrealizedAfterSale wsX10_requireProduct := goodIn_ca (goodIn_r _ [15, 8, 9, 2, 10, 16, 60, 61, 62, 63, 64, 65, 66, 67, 68, 69, 70, 71, 72, 73, 74, 75, 76, 77, 78, 79, 80, 81] (by decide +kernel) (by decide +kernel)) (goodIn_sub (fun _ h => List.mem_cons_of_mem _ (List.mem_append_left _ (List.mem_append_left _ (List.mem_append_right _ h)))) (by decide +kernel))
set_option maxRecDepth 20000 in
theorem gX10_unrealizedAfterSale_X10_requireProduct : GoodIn wsX10_unrealizedAfterSale (wsV RX10 133 RX10 yX10_requireProduct wsX10_requireProduct) := goodIn_app (goodIn_of _ (by decide +kernel)) ggX10_unrealizedAfterSale_X10_requireProduct
set_option maxRecDepth 20000 in
theorem ggX10_unrealizedAfterSale_X10_requireRange : GoodIn wsX10_unrealizedAfterSale wsX10_requireRange := goodIn_ca (goodIn_r _ [19, 20, 21] (by decide +kernel) (by decide +kernel)) (goodIn_sub (fun _ h => List.mem_cons_of_mem _ (List.mem_append_left _ (List.mem_append_right _ h))) (by decide +kernel))
set_option maxRecDepth 20000 in
theorem gX10_unrealizedAfterSale_X10_requireRange : GoodIn wsX10_unrealizedAfterSale (va_wsS RX10 258 yX10_requireRange wsX10_requireRange) := goodIn_app (goodIn_of _ (by decide +kernel)) ggX10_unrealizedAfterSale_X10_requireRange
set_option maxRecDepth 20000 in
theorem ggX10_unrealizedAfterSale_X10_requirePieces : GoodIn wsX10_unrealizedAfterSale wsX10_requirePieces := goodIn_ca (goodIn_r _ [25, 26, 27, 2, 10, 28, 1, 29, 30, 31, 32, 33, 34, 35, 36, 37, 38, 39, 40, 41, 42, 60, 61, 62, 63, 64, 65, 66, 67, 68, 69, 70, 71, 72, 73, 74, 75, 76, 77, 78, 79, 80, 81, 82, 83, 84, 85, 86, 87, 88, 89, 90, 91, 92, 93, 94, 95, 96, 97, 98, 99, 100, 101, 102, 103, 104] (by decide +kernel) (by decide +kernel)) (goodIn_sub (fun _ h => List.mem_cons_of_mem _ (List.mem_append_right _ h)) (by decide +kernel))
set_option maxRecDepth 20000 in
theorem gX10_unrealizedAfterSale_X10_requirePieces : GoodIn wsX10_unrealizedAfterSale (wsV RX10 262 RX10 yX10_requirePieces wsX10_requirePieces) := goodIn_app (goodIn_of _ (by decide +kernel)) ggX10_unrealizedAfterSale_X10_requirePieces
set_option maxRecDepth 20000 in
theorem ggX10_unrealizedAfterSale_X1_profitAfter : GoodIn wsX10_unrealizedAfterSale wsX1_profitAfter := goodIn_r _ [46, 34, 35, 40, 41, 36, 42, 47, 48, 49, 50, 51, 52, 32, 53, 54, 55, 56, 57, 58, 59, 67, 68, 69, 82, 83, 84, 85, 86, 87, 88, 89, 90, 91, 92, 93, 94, 95, 96, 97, 98, 99, 100, 101, 102, 103, 104, 70, 71, 72, 73, 74, 75, 76, 77, 78, 79, 80, 81] (by decide +kernel) (by decide +kernel)
set_option maxRecDepth 20000 in
theorem gX10_unrealizedAfterSale_X1_profitAfter : GoodIn wsX10_unrealizedAfterSale (wsV RX10 254 RX1 yX1_profitAfter wsX1_profitAfter) := goodIn_app (goodIn_of _ (by decide +kernel)) ggX10_unrealizedAfterSale_X1_profitAfter
theorem dX10_unrealizedAfterSale_0 : decode cX10_unrealizedAfterSale 0 = .ok (.aload_n 0, 1) := by decide +kernel
theorem dX10_unrealizedAfterSale_1 : decode cX10_unrealizedAfterSale 1 = .ok (.iload_n 1, 1) := by decide +kernel
theorem dX10_unrealizedAfterSale_2 : decode cX10_unrealizedAfterSale 2 = .ok (.invokevirtual 127, 3) := by decide +kernel
theorem dX10_unrealizedAfterSale_5 : decode cX10_unrealizedAfterSale 5 = .ok (.aload_n 0, 1) := by decide +kernel
theorem dX10_unrealizedAfterSale_6 : decode cX10_unrealizedAfterSale 6 = .ok (.iload_n 2, 1) := by decide +kernel
theorem dX10_unrealizedAfterSale_7 : decode cX10_unrealizedAfterSale 7 = .ok (.invokevirtual 133, 3) := by decide +kernel
theorem dX10_unrealizedAfterSale_10 : decode cX10_unrealizedAfterSale 10 = .ok (.iload_n 3, 1) := by decide +kernel
theorem dX10_unrealizedAfterSale_11 : decode cX10_unrealizedAfterSale 11 = .ok (.iconst 0, 1) := by decide +kernel
theorem dX10_unrealizedAfterSale_12 : decode cX10_unrealizedAfterSale 12 = .ok (.sipush 9999, 3) := by decide +kernel
theorem dX10_unrealizedAfterSale_15 : decode cX10_unrealizedAfterSale 15 = .ok (.invokestatic 258, 3) := by decide +kernel
theorem dX10_unrealizedAfterSale_18 : decode cX10_unrealizedAfterSale 18 = .ok (.aload_n 0, 1) := by decide +kernel
theorem dX10_unrealizedAfterSale_19 : decode cX10_unrealizedAfterSale 19 = .ok (.iload_n 1, 1) := by decide +kernel
theorem dX10_unrealizedAfterSale_20 : decode cX10_unrealizedAfterSale 20 = .ok (.iload_n 2, 1) := by decide +kernel
theorem dX10_unrealizedAfterSale_21 : decode cX10_unrealizedAfterSale 21 = .ok (.iload_n 3, 1) := by decide +kernel
theorem dX10_unrealizedAfterSale_22 : decode cX10_unrealizedAfterSale 22 = .ok (.invokevirtual 262, 3) := by decide +kernel
theorem dX10_unrealizedAfterSale_25 : decode cX10_unrealizedAfterSale 25 = .ok (.aload_n 0, 1) := by decide +kernel
theorem dX10_unrealizedAfterSale_26 : decode cX10_unrealizedAfterSale 26 = .ok (.getfield 40, 3) := by decide +kernel
theorem dX10_unrealizedAfterSale_29 : decode cX10_unrealizedAfterSale 29 = .ok (.aload_n 0, 1) := by decide +kernel
theorem dX10_unrealizedAfterSale_30 : decode cX10_unrealizedAfterSale 30 = .ok (.getfield 19, 3) := by decide +kernel
theorem dX10_unrealizedAfterSale_33 : decode cX10_unrealizedAfterSale 33 = .ok (.iload_n 1, 1) := by decide +kernel
theorem dX10_unrealizedAfterSale_34 : decode cX10_unrealizedAfterSale 34 = .ok (.iload_n 2, 1) := by decide +kernel
theorem dX10_unrealizedAfterSale_35 : decode cX10_unrealizedAfterSale 35 = .ok (.iload_n 3, 1) := by decide +kernel
theorem dX10_unrealizedAfterSale_36 : decode cX10_unrealizedAfterSale 36 = .ok (.invokevirtual 254, 3) := by decide +kernel
theorem dX10_unrealizedAfterSale_39 : decode cX10_unrealizedAfterSale 39 = .ok (.lreturn, 1) := by decide +kernel
set_option maxRecDepth 20000 in
theorem ggX10_averageMargin_X10_requireCompany : GoodIn wsX10_averageMargin wsX10_requireCompany := goodIn_ca (goodIn_r _ [8, 9, 10, 2, 11, 12, 41, 42, 43, 44, 45, 46, 47, 48, 49, 50, 51, 52, 53, 54, 55, 56, 57, 58, 59, 60, 61, 62] (by decide +kernel) (by decide +kernel)) (goodIn_sub (fun _ h => List.mem_cons_of_mem _ (List.mem_append_right _ h)) (by decide +kernel))
set_option maxRecDepth 20000 in
theorem gX10_averageMargin_X10_requireCompany : GoodIn wsX10_averageMargin (wsV RX10 127 RX10 yX10_requireCompany wsX10_requireCompany) := goodIn_app (goodIn_of _ (by decide +kernel)) ggX10_averageMargin_X10_requireCompany
set_option maxRecDepth 20000 in
theorem ggX10_averageMargin_X1_costOfLots : GoodIn wsX10_averageMargin wsX1_costOfLots := goodIn_r _ [17, 18, 19, 20, 21, 22, 23, 24, 16, 25, 26, 27, 28, 48, 49, 50, 63, 64, 65, 66, 67, 68, 69, 70, 71, 72, 73, 74, 75, 76, 77, 78, 79, 80, 81, 82, 83, 84, 85, 51, 52, 53, 54, 55, 56, 57, 58, 59, 60, 61, 62] (by decide +kernel) (by decide +kernel)
set_option maxRecDepth 20000 in
theorem gX10_averageMargin_X1_costOfLots : GoodIn wsX10_averageMargin (wsV RX10 265 RX1 yX1_costOfLots wsX1_costOfLots) := goodIn_app (goodIn_of _ (by decide +kernel)) ggX10_averageMargin_X1_costOfLots
set_option maxRecDepth 20000 in
theorem ggX10_averageMargin_X1_profitAfter : GoodIn wsX10_averageMargin wsX1_profitAfter := goodIn_r _ [32, 18, 19, 20, 21, 22, 28, 33, 34, 35, 36, 37, 38, 16, 39, 40, 23, 24, 25, 26, 27, 48, 49, 50, 63, 64, 65, 66, 67, 68, 69, 70, 71, 72, 73, 74, 75, 76, 77, 78, 79, 80, 81, 82, 83, 84, 85, 51, 52, 53, 54, 55, 56, 57, 58, 59, 60, 61, 62] (by decide +kernel) (by decide +kernel)
set_option maxRecDepth 20000 in
theorem gX10_averageMargin_X1_profitAfter : GoodIn wsX10_averageMargin (wsV RX10 254 RX1 yX1_profitAfter wsX1_profitAfter) := goodIn_app (goodIn_of _ (by decide +kernel)) ggX10_averageMargin_X1_profitAfter
theorem dX10_averageMargin_0 : decode cX10_averageMargin 0 = .ok (.aload_n 0, 1) := by decide +kernel
theorem dX10_averageMargin_1 : decode cX10_averageMargin 1 = .ok (.iload_n 1, 1) := by decide +kernel
theorem dX10_averageMargin_2 : decode cX10_averageMargin 2 = .ok (.invokevirtual 127, 3) := by decide +kernel
theorem dX10_averageMargin_5 : decode cX10_averageMargin 5 = .ok (.aload_n 0, 1) := by decide +kernel
theorem dX10_averageMargin_6 : decode cX10_averageMargin 6 = .ok (.getfield 40, 3) := by decide +kernel
theorem dX10_averageMargin_9 : decode cX10_averageMargin 9 = .ok (.aload_n 0, 1) := by decide +kernel
theorem dX10_averageMargin_10 : decode cX10_averageMargin 10 = .ok (.getfield 19, 3) := by decide +kernel
theorem dX10_averageMargin_13 : decode cX10_averageMargin 13 = .ok (.iload_n 1, 1) := by decide +kernel
theorem dX10_averageMargin_14 : decode cX10_averageMargin 14 = .ok (.invokevirtual 265, 3) := by decide +kernel
theorem dX10_averageMargin_17 : decode cX10_averageMargin 17 = .ok (.lstore_n 2, 1) := by decide +kernel
theorem dX10_averageMargin_18 : decode cX10_averageMargin 18 = .ok (.lload_n 2, 1) := by decide +kernel
theorem dX10_averageMargin_19 : decode cX10_averageMargin 19 = .ok (.lconst 0, 1) := by decide +kernel
theorem dX10_averageMargin_20 : decode cX10_averageMargin 20 = .ok (.lcmp, 1) := by decide +kernel
theorem dX10_averageMargin_21 : decode cX10_averageMargin 21 = .ok (.ifCond .ne 5, 3) := by decide +kernel
theorem dX10_averageMargin_24 : decode cX10_averageMargin 24 = .ok (.fconst 0, 1) := by decide +kernel
theorem dX10_averageMargin_25 : decode cX10_averageMargin 25 = .ok (.freturn, 1) := by decide +kernel
theorem dX10_averageMargin_26 : decode cX10_averageMargin 26 = .ok (.aload_n 0, 1) := by decide +kernel
theorem dX10_averageMargin_27 : decode cX10_averageMargin 27 = .ok (.getfield 40, 3) := by decide +kernel
theorem dX10_averageMargin_30 : decode cX10_averageMargin 30 = .ok (.aload_n 0, 1) := by decide +kernel
theorem dX10_averageMargin_31 : decode cX10_averageMargin 31 = .ok (.getfield 19, 3) := by decide +kernel
theorem dX10_averageMargin_34 : decode cX10_averageMargin 34 = .ok (.iload_n 1, 1) := by decide +kernel
theorem dX10_averageMargin_35 : decode cX10_averageMargin 35 = .ok (.iconst (-1), 1) := by decide +kernel
theorem dX10_averageMargin_36 : decode cX10_averageMargin 36 = .ok (.iconst 0, 1) := by decide +kernel
theorem dX10_averageMargin_37 : decode cX10_averageMargin 37 = .ok (.invokevirtual 254, 3) := by decide +kernel
theorem dX10_averageMargin_40 : decode cX10_averageMargin 40 = .ok (.l2f, 1) := by decide +kernel
theorem dX10_averageMargin_41 : decode cX10_averageMargin 41 = .ok (.ldc_w 269, 3) := by decide +kernel
theorem dX10_averageMargin_44 : decode cX10_averageMargin 44 = .ok (.fmul, 1) := by decide +kernel
theorem dX10_averageMargin_45 : decode cX10_averageMargin 45 = .ok (.lload_n 2, 1) := by decide +kernel
theorem dX10_averageMargin_46 : decode cX10_averageMargin 46 = .ok (.l2f, 1) := by decide +kernel
theorem dX10_averageMargin_47 : decode cX10_averageMargin 47 = .ok (.fdiv, 1) := by decide +kernel
theorem dX10_averageMargin_48 : decode cX10_averageMargin 48 = .ok (.freturn, 1) := by decide +kernel
set_option maxRecDepth 20000 in
theorem ggX10_gap_X1_gapOf : GoodIn wsX10_gap wsX1_gapOf := goodIn_r _ [11, 12, 13, 14, 15, 16, 17, 18, 26, 27, 28, 43, 44, 45, 46, 47, 48, 49, 50, 51, 52, 53, 54, 55, 56, 57, 58, 59, 60, 61, 62, 63] (by decide +kernel) (by decide +kernel)
set_option maxRecDepth 20000 in
theorem gX10_gap_X1_gapOf : GoodIn wsX10_gap (wsV RX10 275 RX1 yX1_gapOf wsX1_gapOf) := goodIn_app (goodIn_of _ (by decide +kernel)) ggX10_gap_X1_gapOf
theorem dX10_gap_0 : decode cX10_gap 0 = .ok (.iload_n 1, 1) := by decide +kernel
theorem dX10_gap_1 : decode cX10_gap 1 = .ok (.ifCond .lt 17, 3) := by decide +kernel
theorem dX10_gap_4 : decode cX10_gap 4 = .ok (.iload_n 1, 1) := by decide +kernel
theorem dX10_gap_5 : decode cX10_gap 5 = .ok (.aload_n 0, 1) := by decide +kernel
theorem dX10_gap_6 : decode cX10_gap 6 = .ok (.getfield 19, 3) := by decide +kernel
theorem dX10_gap_9 : decode cX10_gap 9 = .ok (.getfield 105, 3) := by decide +kernel
theorem dX10_gap_12 : decode cX10_gap 12 = .ok (.getfield 114, 3) := by decide +kernel
theorem dX10_gap_15 : decode cX10_gap 15 = .ok (.if_icmp .lt 14, 3) := by decide +kernel
theorem dX10_gap_18 : decode cX10_gap 18 = .ok (.new 270, 3) := by decide +kernel
theorem dX10_gap_21 : decode cX10_gap 21 = .ok (.dup, 1) := by decide +kernel
theorem dX10_gap_22 : decode cX10_gap 22 = .ok (.ldc_w 272, 3) := by decide +kernel
theorem dX10_gap_25 : decode cX10_gap 25 = .ok (.invokespecial 274, 3) := by decide +kernel
theorem dX10_gap_28 : decode cX10_gap 28 = .ok (.athrow, 1) := by decide +kernel
theorem dX10_gap_29 : decode cX10_gap 29 = .ok (.aload_n 0, 1) := by decide +kernel
theorem dX10_gap_30 : decode cX10_gap 30 = .ok (.getfield 40, 3) := by decide +kernel
theorem dX10_gap_33 : decode cX10_gap 33 = .ok (.aload_n 0, 1) := by decide +kernel
theorem dX10_gap_34 : decode cX10_gap 34 = .ok (.getfield 19, 3) := by decide +kernel
theorem dX10_gap_37 : decode cX10_gap 37 = .ok (.iload_n 1, 1) := by decide +kernel
theorem dX10_gap_38 : decode cX10_gap 38 = .ok (.invokevirtual 275, 3) := by decide +kernel
theorem dX10_gap_41 : decode cX10_gap 41 = .ok (.lreturn, 1) := by decide +kernel
set_option maxRecDepth 20000 in
theorem ggX10_gapsOf_X10_requireCompany : GoodIn wsX10_gapsOf wsX10_requireCompany := goodIn_ca (goodIn_r _ [7, 8, 9, 2, 10, 11, 32, 33, 34, 35, 36, 37, 38, 39, 40, 41, 42, 43, 44, 45, 46, 47, 48, 49, 50, 51, 52, 53] (by decide +kernel) (by decide +kernel)) (goodIn_sub (fun _ h => List.mem_cons_of_mem _ (List.mem_append_right _ h)) (by decide +kernel))
set_option maxRecDepth 20000 in
theorem gX10_gapsOf_X10_requireCompany : GoodIn wsX10_gapsOf (wsV RX10 127 RX10 yX10_requireCompany wsX10_requireCompany) := goodIn_app (goodIn_of _ (by decide +kernel)) ggX10_gapsOf_X10_requireCompany
set_option maxRecDepth 20000 in
theorem ggX10_gapsOf_X1_netGaps : GoodIn wsX10_gapsOf wsX1_netGaps := goodIn_r _ [16, 17, 18, 19, 20, 21, 22, 23, 24, 15, 25, 26, 27, 28, 29, 30, 31, 39, 40, 41, 54, 55, 56, 57, 58, 59, 60, 61, 62, 63, 64, 65, 66, 67, 68, 69, 70, 71, 72, 73, 74, 75, 76, 42, 43, 44, 45, 46, 47, 48, 49, 50, 51, 52, 53] (by decide +kernel) (by decide +kernel)
set_option maxRecDepth 20000 in
theorem gX10_gapsOf_X1_netGaps : GoodIn wsX10_gapsOf (wsV RX10 278 RX1 yX1_netGaps wsX1_netGaps) := goodIn_app (goodIn_of _ (by decide +kernel)) ggX10_gapsOf_X1_netGaps
theorem dX10_gapsOf_0 : decode cX10_gapsOf 0 = .ok (.aload_n 0, 1) := by decide +kernel
theorem dX10_gapsOf_1 : decode cX10_gapsOf 1 = .ok (.iload_n 1, 1) := by decide +kernel
theorem dX10_gapsOf_2 : decode cX10_gapsOf 2 = .ok (.invokevirtual 127, 3) := by decide +kernel
theorem dX10_gapsOf_5 : decode cX10_gapsOf 5 = .ok (.aload_n 0, 1) := by decide +kernel
theorem dX10_gapsOf_6 : decode cX10_gapsOf 6 = .ok (.getfield 40, 3) := by decide +kernel
theorem dX10_gapsOf_9 : decode cX10_gapsOf 9 = .ok (.aload_n 0, 1) := by decide +kernel
theorem dX10_gapsOf_10 : decode cX10_gapsOf 10 = .ok (.getfield 19, 3) := by decide +kernel
theorem dX10_gapsOf_13 : decode cX10_gapsOf 13 = .ok (.iload_n 1, 1) := by decide +kernel
theorem dX10_gapsOf_14 : decode cX10_gapsOf 14 = .ok (.invokevirtual 278, 3) := by decide +kernel
theorem dX10_gapsOf_17 : decode cX10_gapsOf 17 = .ok (.lreturn, 1) := by decide +kernel
set_option maxRecDepth 20000 in
theorem ggX10_book_X10_requireCompany : GoodIn wsX10_book wsX10_requireCompany := goodIn_ca (goodIn_r _ [15, 16, 17, 6, 18, 19, 96, 97, 98, 99, 100, 101, 102, 103, 104, 105, 120, 121, 122, 123, 124, 125, 126, 127, 128, 129, 130, 131] (by decide +kernel) (by decide +kernel)) (goodIn_sub (fun _ h => List.mem_cons_of_mem _ (List.mem_append_right _ h)) (by decide +kernel))
set_option maxRecDepth 20000 in
theorem gX10_book_X10_requireCompany : GoodIn wsX10_book (wsV RX10 127 RX10 yX10_requireCompany wsX10_requireCompany) := goodIn_app (goodIn_of _ (by decide +kernel)) ggX10_book_X10_requireCompany
set_option maxRecDepth 20000 in
theorem ggX10_book_X10_requireRange : GoodIn wsX10_book wsX10_requireRange := goodIn_ca (goodIn_r _ [22, 1, 2] (by decide +kernel) (by decide +kernel)) (goodIn_sub (fun _ h => List.mem_cons_of_mem _ (List.mem_append_left _ (List.mem_append_left _ (List.mem_append_right _ h)))) (by decide +kernel))
set_option maxRecDepth 20000 in
theorem gX10_book_X10_requireRange : GoodIn wsX10_book (va_wsS RX10 258 yX10_requireRange wsX10_requireRange) := goodIn_app (goodIn_of _ (by decide +kernel)) ggX10_book_X10_requireRange
set_option maxRecDepth 20000 in
theorem ggX10_book_X4_remember : GoodIn wsX10_book wsX4_remember := goodIn_r _ [27, 28, 29, 30, 31, 32, 33, 34, 35, 36, 37, 38, 39, 40, 41, 42, 43, 44, 45, 46, 47, 48, 49, 50, 51, 52, 53, 54, 55, 56, 57, 132, 133, 134, 106, 107, 108, 109, 110, 111, 112, 113, 114, 115, 116, 117, 118, 119] (by decide +kernel) (by decide +kernel)
set_option maxRecDepth 20000 in
theorem gX10_book_X4_remember : GoodIn wsX10_book (wsV RX10 286 RX4 yX4_remember wsX4_remember) := goodIn_app (goodIn_of _ (by decide +kernel)) ggX10_book_X4_remember
set_option maxRecDepth 20000 in
theorem ggX10_book_X7_putItem : GoodIn wsX10_book wsX7_putItem := goodIn_r _ [62, 63, 64, 65, 66, 135, 136, 137, 138, 139, 140, 141, 142, 143] (by decide +kernel) (by decide +kernel)
set_option maxRecDepth 20000 in
theorem gX10_book_X7_putItem : GoodIn wsX10_book (wsV RX10 290 RX7 yX7_putItem wsX7_putItem) := goodIn_app (goodIn_of _ (by decide +kernel)) ggX10_book_X7_putItem
set_option maxRecDepth 20000 in
theorem ggX10_book_X0_openItem : GoodIn wsX10_book wsX0_openItem := goodIn_r _ [71, 72, 73, 74, 75, 76, 77, 78, 38, 79, 52, 51, 80, 81, 82, 70, 83, 84, 85, 86, 87, 88, 89, 90, 91, 92, 93, 94, 95, 103, 104, 105, 106, 107, 108, 109, 110, 111, 112, 113, 114, 115, 116, 117, 118, 119, 120, 121, 122, 123, 124, 125, 126, 127, 128, 129, 130, 131, 135, 136, 137, 138, 139, 140, 141, 142, 143] (by decide +kernel) (by decide +kernel)
set_option maxRecDepth 20000 in
theorem gX10_book_X0_openItem : GoodIn wsX10_book (wsV RX10 294 RX0 yX0_openItem wsX0_openItem) := goodIn_app (goodIn_of _ (by decide +kernel)) ggX10_book_X0_openItem
theorem dX10_book_0 : decode cX10_book 0 = .ok (.aload_n 0, 1) := by decide +kernel
theorem dX10_book_1 : decode cX10_book 1 = .ok (.iload_n 1, 1) := by decide +kernel
theorem dX10_book_2 : decode cX10_book 2 = .ok (.invokevirtual 127, 3) := by decide +kernel
theorem dX10_book_5 : decode cX10_book 5 = .ok (.aload_n 0, 1) := by decide +kernel
theorem dX10_book_6 : decode cX10_book 6 = .ok (.iload_n 2, 1) := by decide +kernel
theorem dX10_book_7 : decode cX10_book 7 = .ok (.invokevirtual 127, 3) := by decide +kernel
theorem dX10_book_10 : decode cX10_book 10 = .ok (.iload_n 2, 1) := by decide +kernel
theorem dX10_book_11 : decode cX10_book 11 = .ok (.iload_n 1, 1) := by decide +kernel
theorem dX10_book_12 : decode cX10_book 12 = .ok (.if_icmp .ne 14, 3) := by decide +kernel
theorem dX10_book_15 : decode cX10_book 15 = .ok (.new 66, 3) := by decide +kernel
theorem dX10_book_18 : decode cX10_book 18 = .ok (.dup, 1) := by decide +kernel
theorem dX10_book_19 : decode cX10_book 19 = .ok (.ldc_w 281, 3) := by decide +kernel
theorem dX10_book_22 : decode cX10_book 22 = .ok (.invokespecial 70, 3) := by decide +kernel
theorem dX10_book_25 : decode cX10_book 25 = .ok (.athrow, 1) := by decide +kernel
theorem dX10_book_26 : decode cX10_book 26 = .ok (.iload_n 3, 1) := by decide +kernel
theorem dX10_book_27 : decode cX10_book 27 = .ok (.iconst 0, 1) := by decide +kernel
theorem dX10_book_28 : decode cX10_book 28 = .ok (.iconst 1, 1) := by decide +kernel
theorem dX10_book_29 : decode cX10_book 29 = .ok (.invokestatic 258, 3) := by decide +kernel
theorem dX10_book_32 : decode cX10_book 32 = .ok (.iload 4, 2) := by decide +kernel
theorem dX10_book_34 : decode cX10_book 34 = .ok (.iconst 0, 1) := by decide +kernel
theorem dX10_book_35 : decode cX10_book 35 = .ok (.sipush 999, 3) := by decide +kernel
theorem dX10_book_38 : decode cX10_book 38 = .ok (.invokestatic 258, 3) := by decide +kernel
theorem dX10_book_41 : decode cX10_book 41 = .ok (.iload 5, 2) := by decide +kernel
theorem dX10_book_43 : decode cX10_book 43 = .ok (.iconst 1, 1) := by decide +kernel
theorem dX10_book_44 : decode cX10_book 44 = .ok (.ldc_w 283, 3) := by decide +kernel
theorem dX10_book_47 : decode cX10_book 47 = .ok (.invokestatic 258, 3) := by decide +kernel
theorem dX10_book_50 : decode cX10_book 50 = .ok (.aload_n 0, 1) := by decide +kernel
theorem dX10_book_51 : decode cX10_book 51 = .ok (.getfield 19, 3) := by decide +kernel
theorem dX10_book_54 : decode cX10_book 54 = .ok (.getfield 105, 3) := by decide +kernel
theorem dX10_book_57 : decode cX10_book 57 = .ok (.getfield 109, 3) := by decide +kernel
theorem dX10_book_60 : decode cX10_book 60 = .ok (.bipush 100, 2) := by decide +kernel
theorem dX10_book_62 : decode cX10_book 62 = .ok (.if_icmp .lt 14, 3) := by decide +kernel
theorem dX10_book_65 : decode cX10_book 65 = .ok (.new 186, 3) := by decide +kernel
theorem dX10_book_68 : decode cX10_book 68 = .ok (.dup, 1) := by decide +kernel
theorem dX10_book_69 : decode cX10_book 69 = .ok (.ldc_w 284, 3) := by decide +kernel
theorem dX10_book_72 : decode cX10_book 72 = .ok (.invokespecial 190, 3) := by decide +kernel
theorem dX10_book_75 : decode cX10_book 75 = .ok (.athrow, 1) := by decide +kernel
theorem dX10_book_76 : decode cX10_book 76 = .ok (.aload_n 0, 1) := by decide +kernel
theorem dX10_book_77 : decode cX10_book 77 = .ok (.getfield 47, 3) := by decide +kernel
theorem dX10_book_80 : decode cX10_book 80 = .ok (.aload_n 0, 1) := by decide +kernel
theorem dX10_book_81 : decode cX10_book 81 = .ok (.getfield 19, 3) := by decide +kernel
theorem dX10_book_84 : decode cX10_book 84 = .ok (.getfield 105, 3) := by decide +kernel
theorem dX10_book_87 : decode cX10_book 87 = .ok (.invokevirtual 286, 3) := by decide +kernel
theorem dX10_book_90 : decode cX10_book 90 = .ok (.aload_n 0, 1) := by decide +kernel
theorem dX10_book_91 : decode cX10_book 91 = .ok (.getfield 19, 3) := by decide +kernel
theorem dX10_book_94 : decode cX10_book 94 = .ok (.getfield 105, 3) := by decide +kernel
theorem dX10_book_97 : decode cX10_book 97 = .ok (.getfield 109, 3) := by decide +kernel
theorem dX10_book_100 : decode cX10_book 100 = .ok (.istore 6, 2) := by decide +kernel
theorem dX10_book_102 : decode cX10_book 102 = .ok (.aload_n 0, 1) := by decide +kernel
theorem dX10_book_103 : decode cX10_book 103 = .ok (.getfield 19, 3) := by decide +kernel
theorem dX10_book_106 : decode cX10_book 106 = .ok (.getfield 151, 3) := by decide +kernel
theorem dX10_book_109 : decode cX10_book 109 = .ok (.iload 6, 2) := by decide +kernel
theorem dX10_book_111 : decode cX10_book 111 = .ok (.iload_n 1, 1) := by decide +kernel
theorem dX10_book_112 : decode cX10_book 112 = .ok (.iload_n 2, 1) := by decide +kernel
theorem dX10_book_113 : decode cX10_book 113 = .ok (.iload_n 3, 1) := by decide +kernel
theorem dX10_book_114 : decode cX10_book 114 = .ok (.iload 4, 2) := by decide +kernel
theorem dX10_book_116 : decode cX10_book 116 = .ok (.invokevirtual 290, 3) := by decide +kernel
theorem dX10_book_119 : decode cX10_book 119 = .ok (.aload_n 0, 1) := by decide +kernel
theorem dX10_book_120 : decode cX10_book 120 = .ok (.getfield 19, 3) := by decide +kernel
theorem dX10_book_123 : decode cX10_book 123 = .ok (.iload 5, 2) := by decide +kernel
theorem dX10_book_125 : decode cX10_book 125 = .ok (.invokevirtual 294, 3) := by decide +kernel
theorem dX10_book_128 : decode cX10_book 128 = .ok (.iload 6, 2) := by decide +kernel
theorem dX10_book_130 : decode cX10_book 130 = .ok (.ireturn, 1) := by decide +kernel
set_option maxRecDepth 20000 in
theorem ggX10_cancel_X10_requireItem : GoodIn wsX10_cancel wsX10_requireItem := goodIn_ca (goodIn_r _ [11, 12, 13, 3, 4, 14, 69, 70, 71, 72, 73, 74, 75, 76, 77, 78, 79, 80, 81, 82, 83, 84, 85, 86, 87, 88, 89, 90, 91, 92] (by decide +kernel) (by decide +kernel)) (goodIn_sub (fun _ h => List.mem_cons_of_mem _ (List.mem_append_right _ h)) (by decide +kernel))
set_option maxRecDepth 20000 in
theorem gX10_cancel_X10_requireItem : GoodIn wsX10_cancel (wsV RX10 148 RX10 yX10_requireItem wsX10_requireItem) := goodIn_app (goodIn_of _ (by decide +kernel)) ggX10_cancel_X10_requireItem
set_option maxRecDepth 20000 in
theorem ggX10_cancel_X4_remember : GoodIn wsX10_cancel wsX4_remember := goodIn_r _ [19, 20, 21, 22, 23, 24, 25, 26, 27, 28, 29, 30, 31, 32, 33, 34, 35, 36, 37, 38, 39, 40, 41, 42, 43, 44, 45, 46, 47, 48, 49, 93, 94, 95, 79, 80, 81, 82, 83, 84, 85, 86, 87, 88, 89, 90, 91, 92] (by decide +kernel) (by decide +kernel)
set_option maxRecDepth 20000 in
theorem gX10_cancel_X4_remember : GoodIn wsX10_cancel (wsV RX10 286 RX4 yX4_remember wsX4_remember) := goodIn_app (goodIn_of _ (by decide +kernel)) ggX10_cancel_X4_remember
set_option maxRecDepth 20000 in
theorem ggX10_cancel_X0_valueOf : GoodIn wsX10_cancel wsX0_valueOf := goodIn_r _ [54, 55, 56, 57, 58, 59, 60, 61, 62, 53, 63, 64, 65, 66, 67, 68, 76, 77, 78, 79, 80, 81, 82, 83, 84, 85, 86, 87, 88, 89, 90, 91, 92, 96, 97, 98, 99, 100, 101, 102, 103, 104, 105, 106, 107, 108, 109, 110, 111, 112, 113, 114, 115, 116] (by decide +kernel) (by decide +kernel)
set_option maxRecDepth 20000 in
theorem gX10_cancel_X0_valueOf : GoodIn wsX10_cancel (wsV RX10 178 RX0 yX0_valueOf wsX0_valueOf) := goodIn_app (goodIn_of _ (by decide +kernel)) ggX10_cancel_X0_valueOf
theorem dX10_cancel_0 : decode cX10_cancel 0 = .ok (.aload_n 0, 1) := by decide +kernel
theorem dX10_cancel_1 : decode cX10_cancel 1 = .ok (.iload_n 1, 1) := by decide +kernel
theorem dX10_cancel_2 : decode cX10_cancel 2 = .ok (.invokevirtual 148, 3) := by decide +kernel
theorem dX10_cancel_5 : decode cX10_cancel 5 = .ok (.aload_n 0, 1) := by decide +kernel
theorem dX10_cancel_6 : decode cX10_cancel 6 = .ok (.getfield 19, 3) := by decide +kernel
theorem dX10_cancel_9 : decode cX10_cancel 9 = .ok (.getfield 105, 3) := by decide +kernel
theorem dX10_cancel_12 : decode cX10_cancel 12 = .ok (.getfield 169, 3) := by decide +kernel
theorem dX10_cancel_15 : decode cX10_cancel 15 = .ok (.iload_n 1, 1) := by decide +kernel
theorem dX10_cancel_16 : decode cX10_cancel 16 = .ok (.iaload, 1) := by decide +kernel
theorem dX10_cancel_17 : decode cX10_cancel 17 = .ok (.ifCond .eq 14, 3) := by decide +kernel
theorem dX10_cancel_20 : decode cX10_cancel 20 = .ok (.new 186, 3) := by decide +kernel
theorem dX10_cancel_23 : decode cX10_cancel 23 = .ok (.dup, 1) := by decide +kernel
theorem dX10_cancel_24 : decode cX10_cancel 24 = .ok (.ldc_w 297, 3) := by decide +kernel
theorem dX10_cancel_27 : decode cX10_cancel 27 = .ok (.invokespecial 190, 3) := by decide +kernel
theorem dX10_cancel_30 : decode cX10_cancel 30 = .ok (.athrow, 1) := by decide +kernel
theorem dX10_cancel_31 : decode cX10_cancel 31 = .ok (.aload_n 0, 1) := by decide +kernel
theorem dX10_cancel_32 : decode cX10_cancel 32 = .ok (.getfield 47, 3) := by decide +kernel
theorem dX10_cancel_35 : decode cX10_cancel 35 = .ok (.aload_n 0, 1) := by decide +kernel
theorem dX10_cancel_36 : decode cX10_cancel 36 = .ok (.getfield 19, 3) := by decide +kernel
theorem dX10_cancel_39 : decode cX10_cancel 39 = .ok (.getfield 105, 3) := by decide +kernel
theorem dX10_cancel_42 : decode cX10_cancel 42 = .ok (.invokevirtual 286, 3) := by decide +kernel
theorem dX10_cancel_45 : decode cX10_cancel 45 = .ok (.aload_n 0, 1) := by decide +kernel
theorem dX10_cancel_46 : decode cX10_cancel 46 = .ok (.getfield 19, 3) := by decide +kernel
theorem dX10_cancel_49 : decode cX10_cancel 49 = .ok (.iload_n 1, 1) := by decide +kernel
theorem dX10_cancel_50 : decode cX10_cancel 50 = .ok (.invokevirtual 178, 3) := by decide +kernel
theorem dX10_cancel_53 : decode cX10_cancel 53 = .ok (.lstore_n 2, 1) := by decide +kernel
theorem dX10_cancel_54 : decode cX10_cancel 54 = .ok (.aload_n 0, 1) := by decide +kernel
theorem dX10_cancel_55 : decode cX10_cancel 55 = .ok (.getfield 19, 3) := by decide +kernel
theorem dX10_cancel_58 : decode cX10_cancel 58 = .ok (.getfield 105, 3) := by decide +kernel
theorem dX10_cancel_61 : decode cX10_cancel 61 = .ok (.getfield 169, 3) := by decide +kernel
theorem dX10_cancel_64 : decode cX10_cancel 64 = .ok (.iload_n 1, 1) := by decide +kernel
theorem dX10_cancel_65 : decode cX10_cancel 65 = .ok (.iconst 4, 1) := by decide +kernel
theorem dX10_cancel_66 : decode cX10_cancel 66 = .ok (.iastore, 1) := by decide +kernel
theorem dX10_cancel_67 : decode cX10_cancel 67 = .ok (.lload_n 2, 1) := by decide +kernel
theorem dX10_cancel_68 : decode cX10_cancel 68 = .ok (.lreturn, 1) := by decide +kernel
set_option maxRecDepth 20000 in
theorem ggX10_match_X4_remember : GoodIn wsX10_match wsX4_remember := goodIn_r _ [9, 10, 11, 12, 13, 14, 15, 16, 17, 18, 19, 20, 21, 22, 23, 24, 25, 26, 27, 28, 29, 30, 31, 32, 33, 34, 35, 36, 37, 38, 39, 110, 111, 112, 113, 114, 115, 116, 117, 118, 119, 120, 121, 122, 123, 124, 125, 126] (by decide +kernel) (by decide +kernel)
set_option maxRecDepth 20000 in
theorem gX10_match_X4_remember : GoodIn wsX10_match (wsV RX10 286 RX4 yX4_remember wsX4_remember) := goodIn_app (goodIn_of _ (by decide +kernel)) ggX10_match_X4_remember
set_option maxRecDepth 20000 in
theorem ggX10_match_X5_planRun : GoodIn wsX10_match wsX5_planRun := goodIn_r _ [44, 45, 46, 47, 48, 49, 50, 51, 52, 53, 54, 55, 56, 57, 58, 59, 43, 60, 61, 62, 63, 64, 65, 66, 67, 68, 69, 70, 71, 72, 73, 74, 15, 75, 76, 77, 78, 79, 80, 81, 82, 83, 84, 85, 86, 87, 88, 89, 90, 107, 108, 109, 113, 114, 115, 116, 117, 118, 119, 120, 121, 122, 123, 124, 125, 126, 127, 128, 129, 130, 131, 132, 133, 134, 135, 136, 137, 138, 139, 140, 141, 142, 143, 144, 145, 146, 147, 148] (by decide +kernel) (by decide +kernel)
set_option maxRecDepth 20000 in
theorem gX10_match_X5_planRun : GoodIn wsX10_match (wsV RX10 197 RX5 yX5_planRun wsX5_planRun) := goodIn_app (goodIn_of _ (by decide +kernel)) ggX10_match_X5_planRun
set_option maxRecDepth 20000 in
theorem ggX10_match_X5_pairAsPlanned : GoodIn wsX10_match wsX5_pairAsPlanned := goodIn_r _ [94, 45, 46, 47, 62, 66, 95, 70, 71, 43, 72, 73, 74, 15, 75, 76, 77, 78, 51, 79, 55, 56, 80, 81, 82, 83, 84, 85, 86, 87, 88, 89, 53, 90, 96, 97, 98, 20, 99, 34, 33, 107, 108, 109, 113, 114, 115, 116, 117, 118, 119, 120, 121, 122, 123, 124, 125, 126, 127, 128, 129, 130, 131, 132, 133, 134, 135, 136, 137, 138, 139, 140, 141, 142, 143, 144, 145, 146, 147, 148] (by decide +kernel) (by decide +kernel)
set_option maxRecDepth 20000 in
theorem gX10_match_X5_pairAsPlanned : GoodIn wsX10_match (wsV RX10 299 RX5 yX5_pairAsPlanned wsX5_pairAsPlanned) := goodIn_app (goodIn_of _ (by decide +kernel)) ggX10_match_X5_pairAsPlanned
theorem dX10_match_0 : decode cX10_match 0 = .ok (.aload_n 0, 1) := by decide +kernel
theorem dX10_match_1 : decode cX10_match 1 = .ok (.getfield 47, 3) := by decide +kernel
theorem dX10_match_4 : decode cX10_match 4 = .ok (.aload_n 0, 1) := by decide +kernel
theorem dX10_match_5 : decode cX10_match 5 = .ok (.getfield 19, 3) := by decide +kernel
theorem dX10_match_8 : decode cX10_match 8 = .ok (.getfield 105, 3) := by decide +kernel
theorem dX10_match_11 : decode cX10_match 11 = .ok (.invokevirtual 286, 3) := by decide +kernel
theorem dX10_match_14 : decode cX10_match 14 = .ok (.aload_n 0, 1) := by decide +kernel
theorem dX10_match_15 : decode cX10_match 15 = .ok (.getfield 26, 3) := by decide +kernel
theorem dX10_match_18 : decode cX10_match 18 = .ok (.aload_n 0, 1) := by decide +kernel
theorem dX10_match_19 : decode cX10_match 19 = .ok (.getfield 19, 3) := by decide +kernel
theorem dX10_match_22 : decode cX10_match 22 = .ok (.invokevirtual 197, 3) := by decide +kernel
theorem dX10_match_25 : decode cX10_match 25 = .ok (.aload_n 0, 1) := by decide +kernel
theorem dX10_match_26 : decode cX10_match 26 = .ok (.getfield 26, 3) := by decide +kernel
theorem dX10_match_29 : decode cX10_match 29 = .ok (.aload_n 0, 1) := by decide +kernel
theorem dX10_match_30 : decode cX10_match 30 = .ok (.getfield 19, 3) := by decide +kernel
theorem dX10_match_33 : decode cX10_match 33 = .ok (.invokevirtual 299, 3) := by decide +kernel
theorem dX10_match_36 : decode cX10_match 36 = .ok (.ireturn, 1) := by decide +kernel
set_option maxRecDepth 20000 in
theorem ggX10_release_X10_requireItem : GoodIn wsX10_release wsX10_requireItem := goodIn_ca (goodIn_r _ [12, 13, 14, 3, 4, 15, 55, 56, 57, 58, 59, 60, 61, 62, 63, 64, 65, 66, 67, 68, 69, 70, 71, 72, 73, 74, 75, 76, 77, 78] (by decide +kernel) (by decide +kernel)) (goodIn_sub (fun _ h => List.mem_cons_of_mem _ (List.mem_append_right _ h)) (by decide +kernel))
set_option maxRecDepth 20000 in
theorem gX10_release_X10_requireItem : GoodIn wsX10_release (wsV RX10 148 RX10 yX10_requireItem wsX10_requireItem) := goodIn_app (goodIn_of _ (by decide +kernel)) ggX10_release_X10_requireItem
set_option maxRecDepth 20000 in
theorem ggX10_release_X4_remember : GoodIn wsX10_release wsX4_remember := goodIn_r _ [20, 21, 22, 23, 24, 25, 26, 27, 28, 29, 30, 31, 32, 33, 34, 35, 36, 37, 38, 39, 40, 41, 42, 43, 44, 45, 46, 47, 48, 49, 50, 79, 80, 81, 65, 66, 67, 68, 69, 70, 71, 72, 73, 74, 75, 76, 77, 78] (by decide +kernel) (by decide +kernel)
set_option maxRecDepth 20000 in
theorem gX10_release_X4_remember : GoodIn wsX10_release (wsV RX10 286 RX4 yX4_remember wsX4_remember) := goodIn_app (goodIn_of _ (by decide +kernel)) ggX10_release_X4_remember
set_option maxRecDepth 20000 in
theorem ggX10_release_X9_putPair : GoodIn wsX10_release wsX9_putPair := goodIn_r _ [54, 45, 44, 65, 66, 67, 68, 69, 70, 71, 72, 73, 74, 75, 76, 77, 78] (by decide +kernel) (by decide +kernel)
set_option maxRecDepth 20000 in
theorem gX10_release_X9_putPair : GoodIn wsX10_release (wsV RX10 304 RX9 yX9_putPair wsX9_putPair) := goodIn_app (goodIn_of _ (by decide +kernel)) ggX10_release_X9_putPair
theorem dX10_release_0 : decode cX10_release 0 = .ok (.aload_n 0, 1) := by decide +kernel
theorem dX10_release_1 : decode cX10_release 1 = .ok (.iload_n 1, 1) := by decide +kernel
theorem dX10_release_2 : decode cX10_release 2 = .ok (.invokevirtual 148, 3) := by decide +kernel
theorem dX10_release_5 : decode cX10_release 5 = .ok (.aload_n 0, 1) := by decide +kernel
theorem dX10_release_6 : decode cX10_release 6 = .ok (.getfield 19, 3) := by decide +kernel
theorem dX10_release_9 : decode cX10_release 9 = .ok (.getfield 105, 3) := by decide +kernel
theorem dX10_release_12 : decode cX10_release 12 = .ok (.getfield 169, 3) := by decide +kernel
theorem dX10_release_15 : decode cX10_release 15 = .ok (.iload_n 1, 1) := by decide +kernel
theorem dX10_release_16 : decode cX10_release 16 = .ok (.iaload, 1) := by decide +kernel
theorem dX10_release_17 : decode cX10_release 17 = .ok (.istore_n 2, 1) := by decide +kernel
theorem dX10_release_18 : decode cX10_release 18 = .ok (.aload_n 0, 1) := by decide +kernel
theorem dX10_release_19 : decode cX10_release 19 = .ok (.getfield 19, 3) := by decide +kernel
theorem dX10_release_22 : decode cX10_release 22 = .ok (.getfield 105, 3) := by decide +kernel
theorem dX10_release_25 : decode cX10_release 25 = .ok (.getfield 172, 3) := by decide +kernel
theorem dX10_release_28 : decode cX10_release 28 = .ok (.iload_n 1, 1) := by decide +kernel
theorem dX10_release_29 : decode cX10_release 29 = .ok (.iaload, 1) := by decide +kernel
theorem dX10_release_30 : decode cX10_release 30 = .ok (.istore_n 3, 1) := by decide +kernel
theorem dX10_release_31 : decode cX10_release 31 = .ok (.iload_n 3, 1) := by decide +kernel
theorem dX10_release_32 : decode cX10_release 32 = .ok (.ifCond .lt 13, 3) := by decide +kernel
theorem dX10_release_35 : decode cX10_release 35 = .ok (.iload_n 2, 1) := by decide +kernel
theorem dX10_release_36 : decode cX10_release 36 = .ok (.iconst 1, 1) := by decide +kernel
theorem dX10_release_37 : decode cX10_release 37 = .ok (.if_icmp .eq 19, 3) := by decide +kernel
theorem dX10_release_40 : decode cX10_release 40 = .ok (.iload_n 2, 1) := by decide +kernel
theorem dX10_release_41 : decode cX10_release 41 = .ok (.iconst 2, 1) := by decide +kernel
theorem dX10_release_42 : decode cX10_release 42 = .ok (.if_icmp .eq 14, 3) := by decide +kernel
theorem dX10_release_45 : decode cX10_release 45 = .ok (.new 186, 3) := by decide +kernel
theorem dX10_release_48 : decode cX10_release 48 = .ok (.dup, 1) := by decide +kernel
theorem dX10_release_49 : decode cX10_release 49 = .ok (.ldc_w 302, 3) := by decide +kernel
theorem dX10_release_52 : decode cX10_release 52 = .ok (.invokespecial 190, 3) := by decide +kernel
theorem dX10_release_55 : decode cX10_release 55 = .ok (.athrow, 1) := by decide +kernel
theorem dX10_release_56 : decode cX10_release 56 = .ok (.aload_n 0, 1) := by decide +kernel
theorem dX10_release_57 : decode cX10_release 57 = .ok (.getfield 47, 3) := by decide +kernel
theorem dX10_release_60 : decode cX10_release 60 = .ok (.aload_n 0, 1) := by decide +kernel
theorem dX10_release_61 : decode cX10_release 61 = .ok (.getfield 19, 3) := by decide +kernel
theorem dX10_release_64 : decode cX10_release 64 = .ok (.getfield 105, 3) := by decide +kernel
theorem dX10_release_67 : decode cX10_release 67 = .ok (.invokevirtual 286, 3) := by decide +kernel
theorem dX10_release_70 : decode cX10_release 70 = .ok (.aload_n 0, 1) := by decide +kernel
theorem dX10_release_71 : decode cX10_release 71 = .ok (.getfield 19, 3) := by decide +kernel
theorem dX10_release_74 : decode cX10_release 74 = .ok (.getfield 105, 3) := by decide +kernel
theorem dX10_release_77 : decode cX10_release 77 = .ok (.iload_n 1, 1) := by decide +kernel
theorem dX10_release_78 : decode cX10_release 78 = .ok (.iconst (-1), 1) := by decide +kernel
theorem dX10_release_79 : decode cX10_release 79 = .ok (.iconst 0, 1) := by decide +kernel
theorem dX10_release_80 : decode cX10_release 80 = .ok (.invokevirtual 304, 3) := by decide +kernel
theorem dX10_release_83 : decode cX10_release 83 = .ok (.aload_n 0, 1) := by decide +kernel
theorem dX10_release_84 : decode cX10_release 84 = .ok (.getfield 19, 3) := by decide +kernel
theorem dX10_release_87 : decode cX10_release 87 = .ok (.getfield 105, 3) := by decide +kernel
theorem dX10_release_90 : decode cX10_release 90 = .ok (.iload_n 3, 1) := by decide +kernel
theorem dX10_release_91 : decode cX10_release 91 = .ok (.iconst (-1), 1) := by decide +kernel
theorem dX10_release_92 : decode cX10_release 92 = .ok (.iconst 0, 1) := by decide +kernel
theorem dX10_release_93 : decode cX10_release 93 = .ok (.invokevirtual 304, 3) := by decide +kernel
theorem dX10_release_96 : decode cX10_release 96 = .ok (.iload_n 3, 1) := by decide +kernel
theorem dX10_release_97 : decode cX10_release 97 = .ok (.ireturn, 1) := by decide +kernel
set_option maxRecDepth 20000 in
theorem ggX10_accept_X10_requireItem : GoodIn wsX10_accept wsX10_requireItem := goodIn_ca (goodIn_r _ [15, 16, 17, 3, 4, 18, 81, 82, 83, 84, 85, 86, 87, 88, 89, 90, 91, 92, 93, 94, 95, 96, 97, 98, 99, 100, 101, 102, 103, 104] (by decide +kernel) (by decide +kernel)) (goodIn_sub (fun _ h => List.mem_cons_of_mem _ (List.mem_append_right _ h)) (by decide +kernel))
set_option maxRecDepth 20000 in
theorem gX10_accept_X10_requireItem : GoodIn wsX10_accept (wsV RX10 148 RX10 yX10_requireItem wsX10_requireItem) := goodIn_app (goodIn_of _ (by decide +kernel)) ggX10_accept_X10_requireItem
set_option maxRecDepth 20000 in
theorem ggX10_accept_X0_valueOf : GoodIn wsX10_accept wsX0_valueOf := goodIn_r _ [23, 24, 25, 26, 27, 28, 29, 30, 31, 22, 32, 33, 34, 35, 36, 37, 88, 89, 90, 91, 92, 93, 94, 95, 96, 97, 98, 99, 100, 101, 102, 103, 104, 105, 106, 107, 108, 109, 110, 111, 112, 113, 114, 115, 116, 117, 118, 119, 120, 121, 122, 123, 124, 125] (by decide +kernel) (by decide +kernel)
set_option maxRecDepth 20000 in
theorem gX10_accept_X0_valueOf : GoodIn wsX10_accept (wsV RX10 178 RX0 yX0_valueOf wsX0_valueOf) := goodIn_app (goodIn_of _ (by decide +kernel)) ggX10_accept_X0_valueOf
set_option maxRecDepth 20000 in
theorem ggX10_accept_X0_amountWorth : GoodIn wsX10_accept wsX0_amountWorth := goodIn_r _ [41, 28, 29, 30, 31, 22, 32, 24, 33, 34, 35, 36, 37, 88, 89, 90, 91, 92, 93, 94, 95, 96, 97, 98, 99, 100, 101, 102, 103, 104, 105, 106, 107, 108, 109, 110, 111, 112, 113, 114, 115, 116, 117, 118, 119, 120, 121, 122, 123, 124, 125] (by decide +kernel) (by decide +kernel)
set_option maxRecDepth 20000 in
theorem gX10_accept_X0_amountWorth : GoodIn wsX10_accept (wsV RX10 309 RX0 yX0_amountWorth wsX0_amountWorth) := goodIn_app (goodIn_of _ (by decide +kernel)) ggX10_accept_X0_amountWorth
set_option maxRecDepth 20000 in
theorem ggX10_accept_X4_remember : GoodIn wsX10_accept wsX4_remember := goodIn_r _ [46, 47, 48, 49, 50, 51, 52, 53, 54, 55, 56, 57, 58, 59, 60, 61, 62, 63, 64, 65, 66, 67, 68, 69, 70, 71, 72, 73, 74, 75, 76, 126, 127, 128, 91, 92, 93, 94, 95, 96, 97, 98, 99, 100, 101, 102, 103, 104] (by decide +kernel) (by decide +kernel)
set_option maxRecDepth 20000 in
theorem gX10_accept_X4_remember : GoodIn wsX10_accept (wsV RX10 286 RX4 yX4_remember wsX4_remember) := goodIn_app (goodIn_of _ (by decide +kernel)) ggX10_accept_X4_remember
set_option maxRecDepth 20000 in
theorem ggX10_accept_X9_putPair : GoodIn wsX10_accept wsX9_putPair := goodIn_r _ [80, 71, 70, 91, 92, 93, 94, 95, 96, 97, 98, 99, 100, 101, 102, 103, 104] (by decide +kernel) (by decide +kernel)
set_option maxRecDepth 20000 in
theorem gX10_accept_X9_putPair : GoodIn wsX10_accept (wsV RX10 304 RX9 yX9_putPair wsX9_putPair) := goodIn_app (goodIn_of _ (by decide +kernel)) ggX10_accept_X9_putPair
theorem dX10_accept_0 : decode cX10_accept 0 = .ok (.aload_n 0, 1) := by decide +kernel
theorem dX10_accept_1 : decode cX10_accept 1 = .ok (.iload_n 1, 1) := by decide +kernel
theorem dX10_accept_2 : decode cX10_accept 2 = .ok (.invokevirtual 148, 3) := by decide +kernel
theorem dX10_accept_5 : decode cX10_accept 5 = .ok (.aload_n 0, 1) := by decide +kernel
theorem dX10_accept_6 : decode cX10_accept 6 = .ok (.getfield 19, 3) := by decide +kernel
theorem dX10_accept_9 : decode cX10_accept 9 = .ok (.getfield 105, 3) := by decide +kernel
theorem dX10_accept_12 : decode cX10_accept 12 = .ok (.getfield 172, 3) := by decide +kernel
theorem dX10_accept_15 : decode cX10_accept 15 = .ok (.iload_n 1, 1) := by decide +kernel
theorem dX10_accept_16 : decode cX10_accept 16 = .ok (.iaload, 1) := by decide +kernel
theorem dX10_accept_17 : decode cX10_accept 17 = .ok (.istore_n 2, 1) := by decide +kernel
theorem dX10_accept_18 : decode cX10_accept 18 = .ok (.iload_n 2, 1) := by decide +kernel
theorem dX10_accept_19 : decode cX10_accept 19 = .ok (.ifCond .lt 19, 3) := by decide +kernel
theorem dX10_accept_22 : decode cX10_accept 22 = .ok (.aload_n 0, 1) := by decide +kernel
theorem dX10_accept_23 : decode cX10_accept 23 = .ok (.getfield 19, 3) := by decide +kernel
theorem dX10_accept_26 : decode cX10_accept 26 = .ok (.getfield 105, 3) := by decide +kernel
theorem dX10_accept_29 : decode cX10_accept 29 = .ok (.getfield 169, 3) := by decide +kernel
theorem dX10_accept_32 : decode cX10_accept 32 = .ok (.iload_n 1, 1) := by decide +kernel
theorem dX10_accept_33 : decode cX10_accept 33 = .ok (.iaload, 1) := by decide +kernel
theorem dX10_accept_34 : decode cX10_accept 34 = .ok (.iconst 2, 1) := by decide +kernel
theorem dX10_accept_35 : decode cX10_accept 35 = .ok (.if_icmp .eq 14, 3) := by decide +kernel
theorem dX10_accept_38 : decode cX10_accept 38 = .ok (.new 186, 3) := by decide +kernel
theorem dX10_accept_41 : decode cX10_accept 41 = .ok (.dup, 1) := by decide +kernel
theorem dX10_accept_42 : decode cX10_accept 42 = .ok (.ldc_w 307, 3) := by decide +kernel
theorem dX10_accept_45 : decode cX10_accept 45 = .ok (.invokespecial 190, 3) := by decide +kernel
theorem dX10_accept_48 : decode cX10_accept 48 = .ok (.athrow, 1) := by decide +kernel
theorem dX10_accept_49 : decode cX10_accept 49 = .ok (.aload_n 0, 1) := by decide +kernel
theorem dX10_accept_50 : decode cX10_accept 50 = .ok (.getfield 19, 3) := by decide +kernel
theorem dX10_accept_53 : decode cX10_accept 53 = .ok (.aload_n 0, 1) := by decide +kernel
theorem dX10_accept_54 : decode cX10_accept 54 = .ok (.getfield 19, 3) := by decide +kernel
theorem dX10_accept_57 : decode cX10_accept 57 = .ok (.iload_n 1, 1) := by decide +kernel
theorem dX10_accept_58 : decode cX10_accept 58 = .ok (.invokevirtual 178, 3) := by decide +kernel
theorem dX10_accept_61 : decode cX10_accept 61 = .ok (.iload_n 2, 1) := by decide +kernel
theorem dX10_accept_62 : decode cX10_accept 62 = .ok (.invokevirtual 309, 3) := by decide +kernel
theorem dX10_accept_65 : decode cX10_accept 65 = .ok (.lstore_n 3, 1) := by decide +kernel
theorem dX10_accept_66 : decode cX10_accept 66 = .ok (.lload_n 3, 1) := by decide +kernel
theorem dX10_accept_67 : decode cX10_accept 67 = .ok (.lconst 1, 1) := by decide +kernel
theorem dX10_accept_68 : decode cX10_accept 68 = .ok (.lcmp, 1) := by decide +kernel
theorem dX10_accept_69 : decode cX10_accept 69 = .ok (.ifCond .lt 11, 3) := by decide +kernel
theorem dX10_accept_72 : decode cX10_accept 72 = .ok (.lload_n 3, 1) := by decide +kernel
theorem dX10_accept_73 : decode cX10_accept 73 = .ok (.ldc2_w 313, 3) := by decide +kernel
theorem dX10_accept_76 : decode cX10_accept 76 = .ok (.lcmp, 1) := by decide +kernel
theorem dX10_accept_77 : decode cX10_accept 77 = .ok (.ifCond .le 14, 3) := by decide +kernel
theorem dX10_accept_80 : decode cX10_accept 80 = .ok (.new 186, 3) := by decide +kernel
theorem dX10_accept_83 : decode cX10_accept 83 = .ok (.dup, 1) := by decide +kernel
theorem dX10_accept_84 : decode cX10_accept 84 = .ok (.ldc_w 315, 3) := by decide +kernel
theorem dX10_accept_87 : decode cX10_accept 87 = .ok (.invokespecial 190, 3) := by decide +kernel
theorem dX10_accept_90 : decode cX10_accept 90 = .ok (.athrow, 1) := by decide +kernel
theorem dX10_accept_91 : decode cX10_accept 91 = .ok (.aload_n 0, 1) := by decide +kernel
theorem dX10_accept_92 : decode cX10_accept 92 = .ok (.getfield 47, 3) := by decide +kernel
theorem dX10_accept_95 : decode cX10_accept 95 = .ok (.aload_n 0, 1) := by decide +kernel
theorem dX10_accept_96 : decode cX10_accept 96 = .ok (.getfield 19, 3) := by decide +kernel
theorem dX10_accept_99 : decode cX10_accept 99 = .ok (.getfield 105, 3) := by decide +kernel
theorem dX10_accept_102 : decode cX10_accept 102 = .ok (.invokevirtual 286, 3) := by decide +kernel
theorem dX10_accept_105 : decode cX10_accept 105 = .ok (.aload_n 0, 1) := by decide +kernel
theorem dX10_accept_106 : decode cX10_accept 106 = .ok (.getfield 19, 3) := by decide +kernel
theorem dX10_accept_109 : decode cX10_accept 109 = .ok (.getfield 105, 3) := by decide +kernel
theorem dX10_accept_112 : decode cX10_accept 112 = .ok (.iload_n 1, 1) := by decide +kernel
theorem dX10_accept_113 : decode cX10_accept 113 = .ok (.iload_n 2, 1) := by decide +kernel
theorem dX10_accept_114 : decode cX10_accept 114 = .ok (.iconst 1, 1) := by decide +kernel
theorem dX10_accept_115 : decode cX10_accept 115 = .ok (.invokevirtual 304, 3) := by decide +kernel
theorem dX10_accept_118 : decode cX10_accept 118 = .ok (.aload_n 0, 1) := by decide +kernel
theorem dX10_accept_119 : decode cX10_accept 119 = .ok (.getfield 19, 3) := by decide +kernel
theorem dX10_accept_122 : decode cX10_accept 122 = .ok (.getfield 105, 3) := by decide +kernel
theorem dX10_accept_125 : decode cX10_accept 125 = .ok (.iload_n 2, 1) := by decide +kernel
theorem dX10_accept_126 : decode cX10_accept 126 = .ok (.iload_n 1, 1) := by decide +kernel
theorem dX10_accept_127 : decode cX10_accept 127 = .ok (.iconst 1, 1) := by decide +kernel
theorem dX10_accept_128 : decode cX10_accept 128 = .ok (.invokevirtual 304, 3) := by decide +kernel
theorem dX10_accept_131 : decode cX10_accept 131 = .ok (.aload_n 0, 1) := by decide +kernel
theorem dX10_accept_132 : decode cX10_accept 132 = .ok (.getfield 19, 3) := by decide +kernel
theorem dX10_accept_135 : decode cX10_accept 135 = .ok (.getfield 105, 3) := by decide +kernel
theorem dX10_accept_138 : decode cX10_accept 138 = .ok (.getfield 175, 3) := by decide +kernel
theorem dX10_accept_141 : decode cX10_accept 141 = .ok (.iload_n 2, 1) := by decide +kernel
theorem dX10_accept_142 : decode cX10_accept 142 = .ok (.lload_n 3, 1) := by decide +kernel
theorem dX10_accept_143 : decode cX10_accept 143 = .ok (.l2i, 1) := by decide +kernel
theorem dX10_accept_144 : decode cX10_accept 144 = .ok (.iastore, 1) := by decide +kernel
theorem dX10_accept_145 : decode cX10_accept 145 = .ok (.aload_n 0, 1) := by decide +kernel
theorem dX10_accept_146 : decode cX10_accept 146 = .ok (.getfield 19, 3) := by decide +kernel
theorem dX10_accept_149 : decode cX10_accept 149 = .ok (.getfield 105, 3) := by decide +kernel
theorem dX10_accept_152 : decode cX10_accept 152 = .ok (.getfield 182, 3) := by decide +kernel
theorem dX10_accept_155 : decode cX10_accept 155 = .ok (.iload_n 2, 1) := by decide +kernel
theorem dX10_accept_156 : decode cX10_accept 156 = .ok (.aload_n 0, 1) := by decide +kernel
theorem dX10_accept_157 : decode cX10_accept 157 = .ok (.getfield 19, 3) := by decide +kernel
theorem dX10_accept_160 : decode cX10_accept 160 = .ok (.iload_n 2, 1) := by decide +kernel
theorem dX10_accept_161 : decode cX10_accept 161 = .ok (.invokevirtual 178, 3) := by decide +kernel
theorem dX10_accept_164 : decode cX10_accept 164 = .ok (.lastore, 1) := by decide +kernel
theorem dX10_accept_165 : decode cX10_accept 165 = .ok (.lload_n 3, 1) := by decide +kernel
theorem dX10_accept_166 : decode cX10_accept 166 = .ok (.lreturn, 1) := by decide +kernel
set_option maxRecDepth 20000 in
theorem ggX10_setRate_X10_requireCurrency : GoodIn wsX10_setRate wsX10_requireCurrency := goodIn_ca (goodIn_r _ [9, 10, 11, 2, 12, 13, 54, 55, 56, 57, 58, 59, 60, 61, 62, 63, 78, 79, 80, 81, 82, 83, 84, 85, 86, 87, 88, 89] (by decide +kernel) (by decide +kernel)) (goodIn_sub (fun _ h => List.mem_cons_of_mem _ (List.mem_append_left _ (List.mem_append_right _ h))) (by decide +kernel))
set_option maxRecDepth 20000 in
theorem gX10_setRate_X10_requireCurrency : GoodIn wsX10_setRate (wsV RX10 119 RX10 yX10_requireCurrency wsX10_requireCurrency) := goodIn_app (goodIn_of _ (by decide +kernel)) ggX10_setRate_X10_requireCurrency
set_option maxRecDepth 20000 in
theorem ggX10_setRate_X10_requireRange : GoodIn wsX10_setRate wsX10_requireRange := goodIn_ca (goodIn_r _ [16, 17, 18] (by decide +kernel) (by decide +kernel)) (goodIn_sub (fun _ h => List.mem_cons_of_mem _ (List.mem_append_right _ h)) (by decide +kernel))
set_option maxRecDepth 20000 in
theorem gX10_setRate_X10_requireRange : GoodIn wsX10_setRate (va_wsS RX10 258 yX10_requireRange wsX10_requireRange) := goodIn_app (goodIn_of _ (by decide +kernel)) ggX10_setRate_X10_requireRange
set_option maxRecDepth 20000 in
theorem ggX10_setRate_X4_remember : GoodIn wsX10_setRate wsX4_remember := goodIn_r _ [23, 24, 25, 26, 27, 28, 29, 30, 31, 32, 33, 34, 35, 36, 37, 38, 39, 40, 41, 42, 43, 44, 45, 46, 47, 48, 49, 50, 51, 52, 53, 90, 91, 92, 64, 65, 66, 67, 68, 69, 70, 71, 72, 73, 74, 75, 76, 77] (by decide +kernel) (by decide +kernel)
set_option maxRecDepth 20000 in
theorem gX10_setRate_X4_remember : GoodIn wsX10_setRate (wsV RX10 286 RX4 yX4_remember wsX4_remember) := goodIn_app (goodIn_of _ (by decide +kernel)) ggX10_setRate_X4_remember
theorem dX10_setRate_0 : decode cX10_setRate 0 = .ok (.aload_n 0, 1) := by decide +kernel
theorem dX10_setRate_1 : decode cX10_setRate 1 = .ok (.iload_n 1, 1) := by decide +kernel
theorem dX10_setRate_2 : decode cX10_setRate 2 = .ok (.invokevirtual 119, 3) := by decide +kernel
theorem dX10_setRate_5 : decode cX10_setRate 5 = .ok (.iload_n 2, 1) := by decide +kernel
theorem dX10_setRate_6 : decode cX10_setRate 6 = .ok (.iconst 1, 1) := by decide +kernel
theorem dX10_setRate_7 : decode cX10_setRate 7 = .ok (.sipush 9999, 3) := by decide +kernel
theorem dX10_setRate_10 : decode cX10_setRate 10 = .ok (.invokestatic 258, 3) := by decide +kernel
theorem dX10_setRate_13 : decode cX10_setRate 13 = .ok (.aload_n 0, 1) := by decide +kernel
theorem dX10_setRate_14 : decode cX10_setRate 14 = .ok (.getfield 47, 3) := by decide +kernel
theorem dX10_setRate_17 : decode cX10_setRate 17 = .ok (.aload_n 0, 1) := by decide +kernel
theorem dX10_setRate_18 : decode cX10_setRate 18 = .ok (.getfield 19, 3) := by decide +kernel
theorem dX10_setRate_21 : decode cX10_setRate 21 = .ok (.getfield 105, 3) := by decide +kernel
theorem dX10_setRate_24 : decode cX10_setRate 24 = .ok (.invokevirtual 286, 3) := by decide +kernel
theorem dX10_setRate_27 : decode cX10_setRate 27 = .ok (.aload_n 0, 1) := by decide +kernel
theorem dX10_setRate_28 : decode cX10_setRate 28 = .ok (.getfield 19, 3) := by decide +kernel
theorem dX10_setRate_31 : decode cX10_setRate 31 = .ok (.getfield 105, 3) := by decide +kernel
theorem dX10_setRate_34 : decode cX10_setRate 34 = .ok (.getfield 123, 3) := by decide +kernel
theorem dX10_setRate_37 : decode cX10_setRate 37 = .ok (.iload_n 1, 1) := by decide +kernel
theorem dX10_setRate_38 : decode cX10_setRate 38 = .ok (.iaload, 1) := by decide +kernel
theorem dX10_setRate_39 : decode cX10_setRate 39 = .ok (.istore_n 3, 1) := by decide +kernel
theorem dX10_setRate_40 : decode cX10_setRate 40 = .ok (.aload_n 0, 1) := by decide +kernel
theorem dX10_setRate_41 : decode cX10_setRate 41 = .ok (.getfield 19, 3) := by decide +kernel
theorem dX10_setRate_44 : decode cX10_setRate 44 = .ok (.getfield 105, 3) := by decide +kernel
theorem dX10_setRate_47 : decode cX10_setRate 47 = .ok (.getfield 123, 3) := by decide +kernel
theorem dX10_setRate_50 : decode cX10_setRate 50 = .ok (.iload_n 1, 1) := by decide +kernel
theorem dX10_setRate_51 : decode cX10_setRate 51 = .ok (.iload_n 2, 1) := by decide +kernel
theorem dX10_setRate_52 : decode cX10_setRate 52 = .ok (.iastore, 1) := by decide +kernel
theorem dX10_setRate_53 : decode cX10_setRate 53 = .ok (.iload_n 3, 1) := by decide +kernel
theorem dX10_setRate_54 : decode cX10_setRate 54 = .ok (.ireturn, 1) := by decide +kernel
set_option maxRecDepth 20000 in
theorem ggX10_setTolerance_X10_requireRange : GoodIn wsX10_setTolerance wsX10_requireRange := goodIn_ca (goodIn_r _ [9, 10, 11] (by decide +kernel) (by decide +kernel)) (goodIn_sub (fun _ h => List.mem_cons_of_mem _ (List.mem_append_right _ h)) (by decide +kernel))
set_option maxRecDepth 20000 in
theorem gX10_setTolerance_X10_requireRange : GoodIn wsX10_setTolerance (va_wsS RX10 258 yX10_requireRange wsX10_requireRange) := goodIn_app (goodIn_of _ (by decide +kernel)) ggX10_setTolerance_X10_requireRange
set_option maxRecDepth 20000 in
theorem ggX10_setTolerance_X4_remember : GoodIn wsX10_setTolerance wsX4_remember := goodIn_r _ [16, 17, 18, 19, 20, 21, 22, 23, 24, 25, 26, 27, 28, 29, 30, 31, 32, 33, 34, 35, 36, 37, 38, 39, 40, 41, 42, 43, 44, 45, 46, 71, 72, 73, 57, 58, 59, 60, 61, 62, 63, 64, 65, 66, 67, 68, 69, 70] (by decide +kernel) (by decide +kernel)
set_option maxRecDepth 20000 in
theorem gX10_setTolerance_X4_remember : GoodIn wsX10_setTolerance (wsV RX10 286 RX4 yX4_remember wsX4_remember) := goodIn_app (goodIn_of _ (by decide +kernel)) ggX10_setTolerance_X4_remember
theorem dX10_setTolerance_0 : decode cX10_setTolerance 0 = .ok (.iload_n 1, 1) := by decide +kernel
theorem dX10_setTolerance_1 : decode cX10_setTolerance 1 = .ok (.iconst 0, 1) := by decide +kernel
theorem dX10_setTolerance_2 : decode cX10_setTolerance 2 = .ok (.ldc_w 283, 3) := by decide +kernel
theorem dX10_setTolerance_5 : decode cX10_setTolerance 5 = .ok (.invokestatic 258, 3) := by decide +kernel
theorem dX10_setTolerance_8 : decode cX10_setTolerance 8 = .ok (.aload_n 0, 1) := by decide +kernel
theorem dX10_setTolerance_9 : decode cX10_setTolerance 9 = .ok (.getfield 47, 3) := by decide +kernel
theorem dX10_setTolerance_12 : decode cX10_setTolerance 12 = .ok (.aload_n 0, 1) := by decide +kernel
theorem dX10_setTolerance_13 : decode cX10_setTolerance 13 = .ok (.getfield 19, 3) := by decide +kernel
theorem dX10_setTolerance_16 : decode cX10_setTolerance 16 = .ok (.getfield 105, 3) := by decide +kernel
theorem dX10_setTolerance_19 : decode cX10_setTolerance 19 = .ok (.invokevirtual 286, 3) := by decide +kernel
theorem dX10_setTolerance_22 : decode cX10_setTolerance 22 = .ok (.aload_n 0, 1) := by decide +kernel
theorem dX10_setTolerance_23 : decode cX10_setTolerance 23 = .ok (.getfield 19, 3) := by decide +kernel
theorem dX10_setTolerance_26 : decode cX10_setTolerance 26 = .ok (.getfield 105, 3) := by decide +kernel
theorem dX10_setTolerance_29 : decode cX10_setTolerance 29 = .ok (.getfield 317, 3) := by decide +kernel
theorem dX10_setTolerance_32 : decode cX10_setTolerance 32 = .ok (.istore_n 2, 1) := by decide +kernel
theorem dX10_setTolerance_33 : decode cX10_setTolerance 33 = .ok (.aload_n 0, 1) := by decide +kernel
theorem dX10_setTolerance_34 : decode cX10_setTolerance 34 = .ok (.getfield 19, 3) := by decide +kernel
theorem dX10_setTolerance_37 : decode cX10_setTolerance 37 = .ok (.getfield 105, 3) := by decide +kernel
theorem dX10_setTolerance_40 : decode cX10_setTolerance 40 = .ok (.iload_n 1, 1) := by decide +kernel
theorem dX10_setTolerance_41 : decode cX10_setTolerance 41 = .ok (.putfield 317, 3) := by decide +kernel
theorem dX10_setTolerance_44 : decode cX10_setTolerance 44 = .ok (.iload_n 2, 1) := by decide +kernel
theorem dX10_setTolerance_45 : decode cX10_setTolerance 45 = .ok (.ireturn, 1) := by decide +kernel
set_option maxRecDepth 20000 in
theorem ggX10_net_X0_receivablesIn : GoodIn wsX10_net wsX0_receivablesIn := goodIn_r _ [11, 12, 13, 14, 15, 16, 10, 17, 18, 19, 20, 107, 108, 109, 110, 111, 112, 113, 114, 115, 116, 117, 118, 119, 120, 121, 122, 123, 124, 125, 126, 127, 128, 129, 130, 131, 132] (by decide +kernel) (by decide +kernel)
set_option maxRecDepth 20000 in
theorem gX10_net_X0_receivablesIn : GoodIn wsX10_net (wsV RX10 208 RX0 yX0_receivablesIn wsX0_receivablesIn) := goodIn_app (goodIn_of _ (by decide +kernel)) ggX10_net_X0_receivablesIn
set_option maxRecDepth 20000 in
theorem ggX10_net_X4_remember : GoodIn wsX10_net wsX4_remember := goodIn_r _ [25, 26, 27, 28, 29, 30, 31, 32, 33, 34, 35, 36, 37, 38, 39, 40, 41, 42, 43, 44, 45, 46, 47, 48, 49, 50, 51, 52, 53, 54, 55, 133, 134, 135, 110, 111, 112, 113, 114, 115, 116, 117, 118, 119, 120, 121, 122, 123] (by decide +kernel) (by decide +kernel)
set_option maxRecDepth 20000 in
theorem gX10_net_X4_remember : GoodIn wsX10_net (wsV RX10 286 RX4 yX4_remember wsX4_remember) := goodIn_app (goodIn_of _ (by decide +kernel)) ggX10_net_X4_remember
set_option maxRecDepth 20000 in
theorem ggX10_net_X6_findPositions : GoodIn wsX10_net wsX6_findPositions := goodIn_r _ [60, 61, 62, 63, 64, 65, 66, 67, 15, 16, 10, 17, 18, 19, 12, 20, 68, 69, 70, 71, 72, 73, 74, 75, 76, 77, 78, 79, 80, 81, 82, 136, 137, 138, 107, 108, 109, 110, 111, 112, 113, 114, 115, 116, 117, 118, 119, 120, 121, 122, 123, 124, 125, 126, 127, 128, 129, 130, 131, 132, 139, 140, 141, 142, 143, 144, 145, 146, 147, 148, 149, 150] (by decide +kernel) (by decide +kernel)
set_option maxRecDepth 20000 in
theorem gX10_net_X6_findPositions : GoodIn wsX10_net (wsV RX10 231 RX6 yX6_findPositions wsX6_findPositions) := goodIn_app (goodIn_of _ (by decide +kernel)) ggX10_net_X6_findPositions
set_option maxRecDepth 20000 in
theorem ggX10_net_X6_settle : GoodIn wsX10_net wsX6_settle := goodIn_r _ [86, 87, 88, 62, 89, 61, 90, 91, 92, 93, 94, 59, 95, 63, 96, 97, 98, 64, 99, 68, 69, 70, 10, 71, 12, 20, 72, 73, 74, 75, 76, 77, 78, 79, 80, 81, 18, 82, 107, 108, 109, 139, 140, 141, 142, 143, 144, 145, 146, 147, 148, 149, 150, 110, 111, 112, 113, 114, 115, 116, 117, 118, 119, 120, 121, 122, 123, 136, 137, 138, 124, 125, 126, 127, 128, 129, 130, 131, 132] (by decide +kernel) (by decide +kernel)
set_option maxRecDepth 20000 in
theorem gX10_net_X6_settle : GoodIn wsX10_net (wsV RX10 322 RX6 yX6_settle wsX6_settle) := goodIn_app (goodIn_of _ (by decide +kernel)) ggX10_net_X6_settle
theorem dX10_net_0 : decode cX10_net 0 = .ok (.aload_n 0, 1) := by decide +kernel
theorem dX10_net_1 : decode cX10_net 1 = .ok (.getfield 19, 3) := by decide +kernel
theorem dX10_net_4 : decode cX10_net 4 = .ok (.iconst 1, 1) := by decide +kernel
theorem dX10_net_5 : decode cX10_net 5 = .ok (.invokevirtual 208, 3) := by decide +kernel
theorem dX10_net_8 : decode cX10_net 8 = .ok (.ifCond .ne 14, 3) := by decide +kernel
theorem dX10_net_11 : decode cX10_net 11 = .ok (.new 186, 3) := by decide +kernel
theorem dX10_net_14 : decode cX10_net 14 = .ok (.dup, 1) := by decide +kernel
theorem dX10_net_15 : decode cX10_net 15 = .ok (.ldc_w 320, 3) := by decide +kernel
theorem dX10_net_18 : decode cX10_net 18 = .ok (.invokespecial 190, 3) := by decide +kernel
theorem dX10_net_21 : decode cX10_net 21 = .ok (.athrow, 1) := by decide +kernel
theorem dX10_net_22 : decode cX10_net 22 = .ok (.aload_n 0, 1) := by decide +kernel
theorem dX10_net_23 : decode cX10_net 23 = .ok (.getfield 47, 3) := by decide +kernel
theorem dX10_net_26 : decode cX10_net 26 = .ok (.aload_n 0, 1) := by decide +kernel
theorem dX10_net_27 : decode cX10_net 27 = .ok (.getfield 19, 3) := by decide +kernel
theorem dX10_net_30 : decode cX10_net 30 = .ok (.getfield 105, 3) := by decide +kernel
theorem dX10_net_33 : decode cX10_net 33 = .ok (.invokevirtual 286, 3) := by decide +kernel
theorem dX10_net_36 : decode cX10_net 36 = .ok (.aload_n 0, 1) := by decide +kernel
theorem dX10_net_37 : decode cX10_net 37 = .ok (.getfield 33, 3) := by decide +kernel
theorem dX10_net_40 : decode cX10_net 40 = .ok (.aload_n 0, 1) := by decide +kernel
theorem dX10_net_41 : decode cX10_net 41 = .ok (.getfield 19, 3) := by decide +kernel
theorem dX10_net_44 : decode cX10_net 44 = .ok (.invokevirtual 231, 3) := by decide +kernel
theorem dX10_net_47 : decode cX10_net 47 = .ok (.aload_n 0, 1) := by decide +kernel
theorem dX10_net_48 : decode cX10_net 48 = .ok (.getfield 33, 3) := by decide +kernel
theorem dX10_net_51 : decode cX10_net 51 = .ok (.aload_n 0, 1) := by decide +kernel
theorem dX10_net_52 : decode cX10_net 52 = .ok (.getfield 19, 3) := by decide +kernel
theorem dX10_net_55 : decode cX10_net 55 = .ok (.invokevirtual 322, 3) := by decide +kernel
theorem dX10_net_58 : decode cX10_net 58 = .ok (.ireturn, 1) := by decide +kernel
set_option maxRecDepth 20000 in
theorem ggX10_deliver_X10_requireProduct : GoodIn wsX10_deliver wsX10_requireProduct := goodIn_ca (goodIn_r _ [19, 20, 21, 5, 6, 22, 99, 100, 101, 102, 103, 104, 105, 106, 107, 108, 109, 110, 111, 112, 113, 114, 115, 116, 117, 118, 119, 120] (by decide +kernel) (by decide +kernel)) (goodIn_sub (fun _ h => List.mem_cons_of_mem _ (List.mem_append_right _ h)) (by decide +kernel))
set_option maxRecDepth 20000 in
theorem gX10_deliver_X10_requireProduct : GoodIn wsX10_deliver (wsV RX10 133 RX10 yX10_requireProduct wsX10_requireProduct) := goodIn_app (goodIn_of _ (by decide +kernel)) ggX10_deliver_X10_requireProduct
set_option maxRecDepth 20000 in
theorem ggX10_deliver_X10_requireCompany : GoodIn wsX10_deliver wsX10_requireCompany := goodIn_ca (goodIn_r _ [26, 20, 21, 5, 6, 27, 99, 100, 101, 102, 103, 104, 105, 106, 107, 108, 109, 110, 111, 112, 113, 114, 115, 116, 117, 118, 119, 120] (by decide +kernel) (by decide +kernel)) (goodIn_sub (fun _ h => List.mem_cons_of_mem _ (List.mem_append_right _ h)) (by decide +kernel))
set_option maxRecDepth 20000 in
theorem gX10_deliver_X10_requireCompany : GoodIn wsX10_deliver (wsV RX10 127 RX10 yX10_requireCompany wsX10_requireCompany) := goodIn_app (goodIn_of _ (by decide +kernel)) ggX10_deliver_X10_requireCompany
set_option maxRecDepth 20000 in
theorem ggX10_deliver_X10_requireRange : GoodIn wsX10_deliver wsX10_requireRange := goodIn_ca (goodIn_r _ [30, 1, 2] (by decide +kernel) (by decide +kernel)) (goodIn_sub (fun _ h => List.mem_cons_of_mem _ (List.mem_append_left _ (List.mem_append_left _ (List.mem_append_right _ h)))) (by decide +kernel))
set_option maxRecDepth 20000 in
theorem gX10_deliver_X10_requireRange : GoodIn wsX10_deliver (va_wsS RX10 258 yX10_requireRange wsX10_requireRange) := goodIn_app (goodIn_of _ (by decide +kernel)) ggX10_deliver_X10_requireRange
set_option maxRecDepth 20000 in
theorem ggX10_deliver_X10_requirePieces : GoodIn wsX10_deliver wsX10_requirePieces := goodIn_ca (goodIn_r _ [34, 3, 4, 5, 6, 7, 12, 35, 36, 37, 38, 39, 40, 41, 42, 43, 44, 45, 46, 47, 48, 99, 100, 101, 102, 103, 104, 105, 106, 107, 108, 109, 110, 111, 112, 113, 114, 115, 116, 117, 118, 119, 120, 121, 122, 123, 124, 125, 126, 127, 128, 129, 130, 131, 132, 133, 134, 135, 136, 137, 138, 139, 140, 141, 142, 143] (by decide +kernel) (by decide +kernel)) (goodIn_sub (fun _ h => List.mem_cons_of_mem _ (List.mem_append_left _ (List.mem_append_right _ h))) (by decide +kernel))
set_option maxRecDepth 20000 in
theorem gX10_deliver_X10_requirePieces : GoodIn wsX10_deliver (wsV RX10 262 RX10 yX10_requirePieces wsX10_requirePieces) := goodIn_app (goodIn_of _ (by decide +kernel)) ggX10_deliver_X10_requirePieces
set_option maxRecDepth 20000 in
theorem ggX10_deliver_X4_remember : GoodIn wsX10_deliver wsX4_remember := goodIn_r _ [53, 54, 55, 56, 57, 58, 59, 60, 61, 62, 63, 64, 65, 66, 67, 68, 69, 70, 71, 72, 73, 74, 75, 76, 77, 78, 79, 80, 81, 82, 83, 144, 145, 146, 121, 122, 123, 124, 125, 126, 127, 128, 129, 130, 131, 132, 133, 134] (by decide +kernel) (by decide +kernel)
set_option maxRecDepth 20000 in
theorem gX10_deliver_X4_remember : GoodIn wsX10_deliver (wsV RX10 286 RX4 yX4_remember wsX4_remember) := goodIn_app (goodIn_of _ (by decide +kernel)) ggX10_deliver_X4_remember
set_option maxRecDepth 20000 in
theorem ggX10_deliver_X1_take : GoodIn wsX10_deliver wsX1_take := goodIn_r _ [87, 40, 41, 42, 88, 58, 59, 60, 43, 44, 38, 45, 46, 47, 48, 106, 107, 108, 121, 122, 123, 124, 125, 126, 127, 128, 129, 130, 131, 132, 133, 134, 135, 136, 137, 138, 139, 140, 141, 142, 143] (by decide +kernel) (by decide +kernel)
set_option maxRecDepth 20000 in
theorem gX10_deliver_X1_take : GoodIn wsX10_deliver (wsV RX10 330 RX1 yX1_take wsX1_take) := goodIn_app (goodIn_of _ (by decide +kernel)) ggX10_deliver_X1_take
set_option maxRecDepth 20000 in
theorem ggX10_deliver_X7_putDelivery : GoodIn wsX10_deliver wsX7_putDelivery := goodIn_r _ [93, 94, 95, 96, 97, 98, 135, 136, 137, 138, 139, 140, 141, 142, 143] (by decide +kernel) (by decide +kernel)
set_option maxRecDepth 20000 in
theorem gX10_deliver_X7_putDelivery : GoodIn wsX10_deliver (wsV RX10 334 RX7 yX7_putDelivery wsX7_putDelivery) := goodIn_app (goodIn_of _ (by decide +kernel)) ggX10_deliver_X7_putDelivery
theorem dX10_deliver_0 : decode cX10_deliver 0 = .ok (.aload_n 0, 1) := by decide +kernel
theorem dX10_deliver_1 : decode cX10_deliver 1 = .ok (.iload_n 1, 1) := by decide +kernel
theorem dX10_deliver_2 : decode cX10_deliver 2 = .ok (.invokevirtual 133, 3) := by decide +kernel
theorem dX10_deliver_5 : decode cX10_deliver 5 = .ok (.aload_n 0, 1) := by decide +kernel
theorem dX10_deliver_6 : decode cX10_deliver 6 = .ok (.iload_n 2, 1) := by decide +kernel
theorem dX10_deliver_7 : decode cX10_deliver 7 = .ok (.invokevirtual 127, 3) := by decide +kernel
theorem dX10_deliver_10 : decode cX10_deliver 10 = .ok (.aload_n 0, 1) := by decide +kernel
theorem dX10_deliver_11 : decode cX10_deliver 11 = .ok (.iload_n 3, 1) := by decide +kernel
theorem dX10_deliver_12 : decode cX10_deliver 12 = .ok (.invokevirtual 127, 3) := by decide +kernel
theorem dX10_deliver_15 : decode cX10_deliver 15 = .ok (.iload_n 2, 1) := by decide +kernel
theorem dX10_deliver_16 : decode cX10_deliver 16 = .ok (.iload_n 3, 1) := by decide +kernel
theorem dX10_deliver_17 : decode cX10_deliver 17 = .ok (.if_icmp .eq 19, 3) := by decide +kernel
theorem dX10_deliver_20 : decode cX10_deliver 20 = .ok (.iload_n 3, 1) := by decide +kernel
theorem dX10_deliver_21 : decode cX10_deliver 21 = .ok (.aload_n 0, 1) := by decide +kernel
theorem dX10_deliver_22 : decode cX10_deliver 22 = .ok (.getfield 19, 3) := by decide +kernel
theorem dX10_deliver_25 : decode cX10_deliver 25 = .ok (.getfield 91, 3) := by decide +kernel
theorem dX10_deliver_28 : decode cX10_deliver 28 = .ok (.getfield 136, 3) := by decide +kernel
theorem dX10_deliver_31 : decode cX10_deliver 31 = .ok (.iload_n 1, 1) := by decide +kernel
theorem dX10_deliver_32 : decode cX10_deliver 32 = .ok (.iaload, 1) := by decide +kernel
theorem dX10_deliver_33 : decode cX10_deliver 33 = .ok (.if_icmp .ne 14, 3) := by decide +kernel
theorem dX10_deliver_36 : decode cX10_deliver 36 = .ok (.new 66, 3) := by decide +kernel
theorem dX10_deliver_39 : decode cX10_deliver 39 = .ok (.dup, 1) := by decide +kernel
theorem dX10_deliver_40 : decode cX10_deliver 40 = .ok (.ldc_w 325, 3) := by decide +kernel
theorem dX10_deliver_43 : decode cX10_deliver 43 = .ok (.invokespecial 70, 3) := by decide +kernel
theorem dX10_deliver_46 : decode cX10_deliver 46 = .ok (.athrow, 1) := by decide +kernel
theorem dX10_deliver_47 : decode cX10_deliver 47 = .ok (.iload 4, 2) := by decide +kernel
theorem dX10_deliver_49 : decode cX10_deliver 49 = .ok (.iconst 1, 1) := by decide +kernel
theorem dX10_deliver_50 : decode cX10_deliver 50 = .ok (.sipush 999, 3) := by decide +kernel
theorem dX10_deliver_53 : decode cX10_deliver 53 = .ok (.invokestatic 258, 3) := by decide +kernel
theorem dX10_deliver_56 : decode cX10_deliver 56 = .ok (.iload 5, 2) := by decide +kernel
theorem dX10_deliver_58 : decode cX10_deliver 58 = .ok (.iconst 1, 1) := by decide +kernel
theorem dX10_deliver_59 : decode cX10_deliver 59 = .ok (.ldc_w 327, 3) := by decide +kernel
theorem dX10_deliver_62 : decode cX10_deliver 62 = .ok (.invokestatic 258, 3) := by decide +kernel
theorem dX10_deliver_65 : decode cX10_deliver 65 = .ok (.aload_n 0, 1) := by decide +kernel
theorem dX10_deliver_66 : decode cX10_deliver 66 = .ok (.iload_n 2, 1) := by decide +kernel
theorem dX10_deliver_67 : decode cX10_deliver 67 = .ok (.iload_n 1, 1) := by decide +kernel
theorem dX10_deliver_68 : decode cX10_deliver 68 = .ok (.iload 4, 2) := by decide +kernel
theorem dX10_deliver_70 : decode cX10_deliver 70 = .ok (.invokevirtual 262, 3) := by decide +kernel
theorem dX10_deliver_73 : decode cX10_deliver 73 = .ok (.aload_n 0, 1) := by decide +kernel
theorem dX10_deliver_74 : decode cX10_deliver 74 = .ok (.getfield 19, 3) := by decide +kernel
theorem dX10_deliver_77 : decode cX10_deliver 77 = .ok (.getfield 105, 3) := by decide +kernel
theorem dX10_deliver_80 : decode cX10_deliver 80 = .ok (.getfield 114, 3) := by decide +kernel
theorem dX10_deliver_83 : decode cX10_deliver 83 = .ok (.bipush 100, 2) := by decide +kernel
theorem dX10_deliver_85 : decode cX10_deliver 85 = .ok (.if_icmp .lt 14, 3) := by decide +kernel
theorem dX10_deliver_88 : decode cX10_deliver 88 = .ok (.new 186, 3) := by decide +kernel
theorem dX10_deliver_91 : decode cX10_deliver 91 = .ok (.dup, 1) := by decide +kernel
theorem dX10_deliver_92 : decode cX10_deliver 92 = .ok (.ldc_w 328, 3) := by decide +kernel
theorem dX10_deliver_95 : decode cX10_deliver 95 = .ok (.invokespecial 190, 3) := by decide +kernel
theorem dX10_deliver_98 : decode cX10_deliver 98 = .ok (.athrow, 1) := by decide +kernel
theorem dX10_deliver_99 : decode cX10_deliver 99 = .ok (.aload_n 0, 1) := by decide +kernel
theorem dX10_deliver_100 : decode cX10_deliver 100 = .ok (.getfield 47, 3) := by decide +kernel
theorem dX10_deliver_103 : decode cX10_deliver 103 = .ok (.aload_n 0, 1) := by decide +kernel
theorem dX10_deliver_104 : decode cX10_deliver 104 = .ok (.getfield 19, 3) := by decide +kernel
theorem dX10_deliver_107 : decode cX10_deliver 107 = .ok (.getfield 105, 3) := by decide +kernel
theorem dX10_deliver_110 : decode cX10_deliver 110 = .ok (.invokevirtual 286, 3) := by decide +kernel
theorem dX10_deliver_113 : decode cX10_deliver 113 = .ok (.aload_n 0, 1) := by decide +kernel
theorem dX10_deliver_114 : decode cX10_deliver 114 = .ok (.getfield 40, 3) := by decide +kernel
theorem dX10_deliver_117 : decode cX10_deliver 117 = .ok (.aload_n 0, 1) := by decide +kernel
theorem dX10_deliver_118 : decode cX10_deliver 118 = .ok (.getfield 19, 3) := by decide +kernel
theorem dX10_deliver_121 : decode cX10_deliver 121 = .ok (.iload_n 2, 1) := by decide +kernel
theorem dX10_deliver_122 : decode cX10_deliver 122 = .ok (.iload_n 1, 1) := by decide +kernel
theorem dX10_deliver_123 : decode cX10_deliver 123 = .ok (.iload 4, 2) := by decide +kernel
theorem dX10_deliver_125 : decode cX10_deliver 125 = .ok (.invokevirtual 330, 3) := by decide +kernel
theorem dX10_deliver_128 : decode cX10_deliver 128 = .ok (.aload_n 0, 1) := by decide +kernel
theorem dX10_deliver_129 : decode cX10_deliver 129 = .ok (.getfield 19, 3) := by decide +kernel
theorem dX10_deliver_132 : decode cX10_deliver 132 = .ok (.getfield 105, 3) := by decide +kernel
theorem dX10_deliver_135 : decode cX10_deliver 135 = .ok (.getfield 114, 3) := by decide +kernel
theorem dX10_deliver_138 : decode cX10_deliver 138 = .ok (.istore 6, 2) := by decide +kernel
theorem dX10_deliver_140 : decode cX10_deliver 140 = .ok (.aload_n 0, 1) := by decide +kernel
theorem dX10_deliver_141 : decode cX10_deliver 141 = .ok (.getfield 19, 3) := by decide +kernel
theorem dX10_deliver_144 : decode cX10_deliver 144 = .ok (.getfield 151, 3) := by decide +kernel
theorem dX10_deliver_147 : decode cX10_deliver 147 = .ok (.iload 6, 2) := by decide +kernel
theorem dX10_deliver_149 : decode cX10_deliver 149 = .ok (.iload_n 1, 1) := by decide +kernel
theorem dX10_deliver_150 : decode cX10_deliver 150 = .ok (.iload_n 2, 1) := by decide +kernel
theorem dX10_deliver_151 : decode cX10_deliver 151 = .ok (.iload_n 3, 1) := by decide +kernel
theorem dX10_deliver_152 : decode cX10_deliver 152 = .ok (.iload 4, 2) := by decide +kernel
theorem dX10_deliver_154 : decode cX10_deliver 154 = .ok (.iload 5, 2) := by decide +kernel
theorem dX10_deliver_156 : decode cX10_deliver 156 = .ok (.invokevirtual 334, 3) := by decide +kernel
theorem dX10_deliver_159 : decode cX10_deliver 159 = .ok (.aload_n 0, 1) := by decide +kernel
theorem dX10_deliver_160 : decode cX10_deliver 160 = .ok (.getfield 19, 3) := by decide +kernel
theorem dX10_deliver_163 : decode cX10_deliver 163 = .ok (.getfield 105, 3) := by decide +kernel
theorem dX10_deliver_166 : decode cX10_deliver 166 = .ok (.getfield 338, 3) := by decide +kernel
theorem dX10_deliver_169 : decode cX10_deliver 169 = .ok (.iload 6, 2) := by decide +kernel
theorem dX10_deliver_171 : decode cX10_deliver 171 = .ok (.iload 4, 2) := by decide +kernel
theorem dX10_deliver_173 : decode cX10_deliver 173 = .ok (.iastore, 1) := by decide +kernel
theorem dX10_deliver_174 : decode cX10_deliver 174 = .ok (.aload_n 0, 1) := by decide +kernel
theorem dX10_deliver_175 : decode cX10_deliver 175 = .ok (.getfield 19, 3) := by decide +kernel
theorem dX10_deliver_178 : decode cX10_deliver 178 = .ok (.getfield 105, 3) := by decide +kernel
theorem dX10_deliver_181 : decode cX10_deliver 181 = .ok (.dup, 1) := by decide +kernel
theorem dX10_deliver_182 : decode cX10_deliver 182 = .ok (.getfield 114, 3) := by decide +kernel
theorem dX10_deliver_185 : decode cX10_deliver 185 = .ok (.iconst 1, 1) := by decide +kernel
theorem dX10_deliver_186 : decode cX10_deliver 186 = .ok (.iadd, 1) := by decide +kernel
theorem dX10_deliver_187 : decode cX10_deliver 187 = .ok (.putfield 114, 3) := by decide +kernel
theorem dX10_deliver_190 : decode cX10_deliver 190 = .ok (.iload 6, 2) := by decide +kernel
theorem dX10_deliver_192 : decode cX10_deliver 192 = .ok (.ireturn, 1) := by decide +kernel
set_option maxRecDepth 20000 in
theorem ggX10_sell_X10_requireCompany : GoodIn wsX10_sell wsX10_requireCompany := goodIn_ca (goodIn_r _ [13, 14, 15, 3, 6, 16, 88, 89, 90, 91, 92, 93, 94, 95, 96, 97, 98, 99, 100, 101, 102, 103, 104, 105, 106, 107, 108, 109] (by decide +kernel) (by decide +kernel)) (goodIn_sub (fun _ h => List.mem_cons_of_mem _ (List.mem_append_left _ (List.mem_append_left _ (List.mem_append_right _ h)))) (by decide +kernel))
set_option maxRecDepth 20000 in
theorem gX10_sell_X10_requireCompany : GoodIn wsX10_sell (wsV RX10 127 RX10 yX10_requireCompany wsX10_requireCompany) := goodIn_app (goodIn_of _ (by decide +kernel)) ggX10_sell_X10_requireCompany
set_option maxRecDepth 20000 in
theorem ggX10_sell_X10_requireProduct : GoodIn wsX10_sell wsX10_requireProduct := goodIn_ca (goodIn_r _ [20, 14, 15, 3, 6, 21, 88, 89, 90, 91, 92, 93, 94, 95, 96, 97, 98, 99, 100, 101, 102, 103, 104, 105, 106, 107, 108, 109] (by decide +kernel) (by decide +kernel)) (goodIn_sub (fun _ h => List.mem_cons_of_mem _ (List.mem_append_left _ (List.mem_append_left _ (List.mem_append_right _ h)))) (by decide +kernel))
set_option maxRecDepth 20000 in
theorem gX10_sell_X10_requireProduct : GoodIn wsX10_sell (wsV RX10 133 RX10 yX10_requireProduct wsX10_requireProduct) := goodIn_app (goodIn_of _ (by decide +kernel)) ggX10_sell_X10_requireProduct
set_option maxRecDepth 20000 in
theorem ggX10_sell_X10_requireRange : GoodIn wsX10_sell wsX10_requireRange := goodIn_ca (goodIn_r _ [24, 25, 26] (by decide +kernel) (by decide +kernel)) (goodIn_sub (fun _ h => List.mem_cons_of_mem _ (List.mem_append_left _ (List.mem_append_right _ h))) (by decide +kernel))
set_option maxRecDepth 20000 in
theorem gX10_sell_X10_requireRange : GoodIn wsX10_sell (va_wsS RX10 258 yX10_requireRange wsX10_requireRange) := goodIn_app (goodIn_of _ (by decide +kernel)) ggX10_sell_X10_requireRange
set_option maxRecDepth 20000 in
theorem ggX10_sell_X10_requirePieces : GoodIn wsX10_sell wsX10_requirePieces := goodIn_ca (goodIn_r _ [30, 31, 32, 3, 6, 33, 5, 34, 35, 36, 37, 38, 39, 40, 41, 42, 43, 44, 45, 46, 47, 88, 89, 90, 91, 92, 93, 94, 95, 96, 97, 98, 99, 100, 101, 102, 103, 104, 105, 106, 107, 108, 109, 110, 111, 112, 113, 114, 115, 116, 117, 118, 119, 120, 121, 122, 123, 124, 125, 126, 127, 128, 129, 130, 131, 132] (by decide +kernel) (by decide +kernel)) (goodIn_sub (fun _ h => List.mem_cons_of_mem _ (List.mem_append_right _ h)) (by decide +kernel))
set_option maxRecDepth 20000 in
theorem gX10_sell_X10_requirePieces : GoodIn wsX10_sell (wsV RX10 262 RX10 yX10_requirePieces wsX10_requirePieces) := goodIn_app (goodIn_of _ (by decide +kernel)) ggX10_sell_X10_requirePieces
set_option maxRecDepth 20000 in
theorem ggX10_sell_X4_remember : GoodIn wsX10_sell wsX4_remember := goodIn_r _ [52, 53, 54, 55, 56, 57, 58, 59, 60, 61, 62, 63, 64, 65, 66, 67, 68, 69, 70, 71, 72, 73, 74, 75, 76, 77, 78, 79, 80, 81, 82, 133, 134, 135, 110, 111, 112, 113, 114, 115, 116, 117, 118, 119, 120, 121, 122, 123] (by decide +kernel) (by decide +kernel)
set_option maxRecDepth 20000 in
theorem gX10_sell_X4_remember : GoodIn wsX10_sell (wsV RX10 286 RX4 yX4_remember wsX4_remember) := goodIn_app (goodIn_of _ (by decide +kernel)) ggX10_sell_X4_remember
set_option maxRecDepth 20000 in
theorem ggX10_sell_X1_take : GoodIn wsX10_sell wsX1_take := goodIn_r _ [86, 39, 40, 41, 87, 57, 58, 59, 42, 43, 37, 44, 45, 46, 47, 95, 96, 97, 110, 111, 112, 113, 114, 115, 116, 117, 118, 119, 120, 121, 122, 123, 124, 125, 126, 127, 128, 129, 130, 131, 132] (by decide +kernel) (by decide +kernel)
set_option maxRecDepth 20000 in
theorem gX10_sell_X1_take : GoodIn wsX10_sell (wsV RX10 330 RX1 yX1_take wsX1_take) := goodIn_app (goodIn_of _ (by decide +kernel)) ggX10_sell_X1_take
theorem dX10_sell_0 : decode cX10_sell 0 = .ok (.aload_n 0, 1) := by decide +kernel
theorem dX10_sell_1 : decode cX10_sell 1 = .ok (.iload_n 1, 1) := by decide +kernel
theorem dX10_sell_2 : decode cX10_sell 2 = .ok (.invokevirtual 127, 3) := by decide +kernel
theorem dX10_sell_5 : decode cX10_sell 5 = .ok (.aload_n 0, 1) := by decide +kernel
theorem dX10_sell_6 : decode cX10_sell 6 = .ok (.iload_n 2, 1) := by decide +kernel
theorem dX10_sell_7 : decode cX10_sell 7 = .ok (.invokevirtual 133, 3) := by decide +kernel
theorem dX10_sell_10 : decode cX10_sell 10 = .ok (.iload_n 3, 1) := by decide +kernel
theorem dX10_sell_11 : decode cX10_sell 11 = .ok (.iconst 1, 1) := by decide +kernel
theorem dX10_sell_12 : decode cX10_sell 12 = .ok (.sipush 9999, 3) := by decide +kernel
theorem dX10_sell_15 : decode cX10_sell 15 = .ok (.invokestatic 258, 3) := by decide +kernel
theorem dX10_sell_18 : decode cX10_sell 18 = .ok (.iload 4, 2) := by decide +kernel
theorem dX10_sell_20 : decode cX10_sell 20 = .ok (.iconst 1, 1) := by decide +kernel
theorem dX10_sell_21 : decode cX10_sell 21 = .ok (.ldc_w 327, 3) := by decide +kernel
theorem dX10_sell_24 : decode cX10_sell 24 = .ok (.invokestatic 258, 3) := by decide +kernel
theorem dX10_sell_27 : decode cX10_sell 27 = .ok (.aload_n 0, 1) := by decide +kernel
theorem dX10_sell_28 : decode cX10_sell 28 = .ok (.iload_n 1, 1) := by decide +kernel
theorem dX10_sell_29 : decode cX10_sell 29 = .ok (.iload_n 2, 1) := by decide +kernel
theorem dX10_sell_30 : decode cX10_sell 30 = .ok (.iload_n 3, 1) := by decide +kernel
theorem dX10_sell_31 : decode cX10_sell 31 = .ok (.invokevirtual 262, 3) := by decide +kernel
theorem dX10_sell_34 : decode cX10_sell 34 = .ok (.aload_n 0, 1) := by decide +kernel
theorem dX10_sell_35 : decode cX10_sell 35 = .ok (.getfield 47, 3) := by decide +kernel
theorem dX10_sell_38 : decode cX10_sell 38 = .ok (.aload_n 0, 1) := by decide +kernel
theorem dX10_sell_39 : decode cX10_sell 39 = .ok (.getfield 19, 3) := by decide +kernel
theorem dX10_sell_42 : decode cX10_sell 42 = .ok (.getfield 105, 3) := by decide +kernel
theorem dX10_sell_45 : decode cX10_sell 45 = .ok (.invokevirtual 286, 3) := by decide +kernel
theorem dX10_sell_48 : decode cX10_sell 48 = .ok (.aload_n 0, 1) := by decide +kernel
theorem dX10_sell_49 : decode cX10_sell 49 = .ok (.getfield 40, 3) := by decide +kernel
theorem dX10_sell_52 : decode cX10_sell 52 = .ok (.aload_n 0, 1) := by decide +kernel
theorem dX10_sell_53 : decode cX10_sell 53 = .ok (.getfield 19, 3) := by decide +kernel
theorem dX10_sell_56 : decode cX10_sell 56 = .ok (.iload_n 1, 1) := by decide +kernel
theorem dX10_sell_57 : decode cX10_sell 57 = .ok (.iload_n 2, 1) := by decide +kernel
theorem dX10_sell_58 : decode cX10_sell 58 = .ok (.iload_n 3, 1) := by decide +kernel
theorem dX10_sell_59 : decode cX10_sell 59 = .ok (.invokevirtual 330, 3) := by decide +kernel
theorem dX10_sell_62 : decode cX10_sell 62 = .ok (.iload_n 3, 1) := by decide +kernel
theorem dX10_sell_63 : decode cX10_sell 63 = .ok (.i2l, 1) := by decide +kernel
theorem dX10_sell_64 : decode cX10_sell 64 = .ok (.iload 4, 2) := by decide +kernel
theorem dX10_sell_66 : decode cX10_sell 66 = .ok (.aload_n 0, 1) := by decide +kernel
theorem dX10_sell_67 : decode cX10_sell 67 = .ok (.getfield 19, 3) := by decide +kernel
theorem dX10_sell_70 : decode cX10_sell 70 = .ok (.getfield 91, 3) := by decide +kernel
theorem dX10_sell_73 : decode cX10_sell 73 = .ok (.getfield 139, 3) := by decide +kernel
theorem dX10_sell_76 : decode cX10_sell 76 = .ok (.iload_n 2, 1) := by decide +kernel
theorem dX10_sell_77 : decode cX10_sell 77 = .ok (.iaload, 1) := by decide +kernel
theorem dX10_sell_78 : decode cX10_sell 78 = .ok (.isub, 1) := by decide +kernel
theorem dX10_sell_79 : decode cX10_sell 79 = .ok (.i2l, 1) := by decide +kernel
theorem dX10_sell_80 : decode cX10_sell 80 = .ok (.lmul, 1) := by decide +kernel
theorem dX10_sell_81 : decode cX10_sell 81 = .ok (.lstore 5, 2) := by decide +kernel
theorem dX10_sell_83 : decode cX10_sell 83 = .ok (.aload_n 0, 1) := by decide +kernel
theorem dX10_sell_84 : decode cX10_sell 84 = .ok (.getfield 19, 3) := by decide +kernel
theorem dX10_sell_87 : decode cX10_sell 87 = .ok (.getfield 105, 3) := by decide +kernel
theorem dX10_sell_90 : decode cX10_sell 90 = .ok (.dup, 1) := by decide +kernel
theorem dX10_sell_91 : decode cX10_sell 91 = .ok (.getfield 225, 3) := by decide +kernel
theorem dX10_sell_94 : decode cX10_sell 94 = .ok (.lload 5, 2) := by decide +kernel
theorem dX10_sell_96 : decode cX10_sell 96 = .ok (.ladd, 1) := by decide +kernel
theorem dX10_sell_97 : decode cX10_sell 97 = .ok (.putfield 225, 3) := by decide +kernel
theorem dX10_sell_100 : decode cX10_sell 100 = .ok (.lload 5, 2) := by decide +kernel
theorem dX10_sell_102 : decode cX10_sell 102 = .ok (.lreturn, 1) := by decide +kernel
set_option maxRecDepth 20000 in
theorem ggX10_undo_X4_goBack : GoodIn wsX10_undo wsX4_goBack := goodIn_r _ [9, 10, 11, 12, 13, 14, 15, 16, 17, 18, 19, 20, 21, 22, 23, 24, 25, 26, 27, 28, 29, 30, 31, 32, 33, 34, 35, 43, 44, 45, 49, 50, 51, 52, 53, 54, 55, 56, 57, 58, 59, 60, 61, 62] (by decide +kernel) (by decide +kernel)
set_option maxRecDepth 20000 in
theorem gX10_undo_X4_goBack : GoodIn wsX10_undo (wsV RX10 344 RX4 yX4_goBack wsX4_goBack) := goodIn_app (goodIn_of _ (by decide +kernel)) ggX10_undo_X4_goBack
theorem dX10_undo_0 : decode cX10_undo 0 = .ok (.aload_n 0, 1) := by decide +kernel
theorem dX10_undo_1 : decode cX10_undo 1 = .ok (.getfield 47, 3) := by decide +kernel
theorem dX10_undo_4 : decode cX10_undo 4 = .ok (.getfield 341, 3) := by decide +kernel
theorem dX10_undo_7 : decode cX10_undo 7 = .ok (.ifCond .ne 5, 3) := by decide +kernel
theorem dX10_undo_10 : decode cX10_undo 10 = .ok (.iconst (-1), 1) := by decide +kernel
theorem dX10_undo_11 : decode cX10_undo 11 = .ok (.ireturn, 1) := by decide +kernel
theorem dX10_undo_12 : decode cX10_undo 12 = .ok (.aload_n 0, 1) := by decide +kernel
theorem dX10_undo_13 : decode cX10_undo 13 = .ok (.getfield 47, 3) := by decide +kernel
theorem dX10_undo_16 : decode cX10_undo 16 = .ok (.aload_n 0, 1) := by decide +kernel
theorem dX10_undo_17 : decode cX10_undo 17 = .ok (.getfield 19, 3) := by decide +kernel
theorem dX10_undo_20 : decode cX10_undo 20 = .ok (.getfield 105, 3) := by decide +kernel
theorem dX10_undo_23 : decode cX10_undo 23 = .ok (.invokevirtual 344, 3) := by decide +kernel
theorem dX10_undo_26 : decode cX10_undo 26 = .ok (.aload_n 0, 1) := by decide +kernel
theorem dX10_undo_27 : decode cX10_undo 27 = .ok (.getfield 47, 3) := by decide +kernel
theorem dX10_undo_30 : decode cX10_undo 30 = .ok (.getfield 341, 3) := by decide +kernel
theorem dX10_undo_33 : decode cX10_undo 33 = .ok (.ireturn, 1) := by decide +kernel
set_option maxRecDepth 20000 in
theorem ggX10_saveSnapshot_X8_keep : GoodIn wsX10_saveSnapshot wsX8_keep := goodIn_r _ [7, 8, 9, 10, 11, 12, 13, 14, 15, 16, 17, 18, 19, 20, 21, 22, 23, 24, 25, 26, 27, 28, 29, 30, 31, 32, 33, 34, 35, 36, 37, 38, 39, 40, 41, 42, 43, 44, 45, 46, 47, 48, 49, 50, 51, 52, 60, 61, 62, 63, 64, 65, 66, 67, 68, 69, 70, 71, 72, 73, 74, 75, 76, 77, 78, 79, 80, 81, 82, 83, 84, 85, 86, 87, 88] (by decide +kernel) (by decide +kernel)
set_option maxRecDepth 20000 in
theorem gX10_saveSnapshot_X8_keep : GoodIn wsX10_saveSnapshot (wsV RX10 347 RX8 yX8_keep wsX8_keep) := goodIn_app (goodIn_of _ (by decide +kernel)) ggX10_saveSnapshot_X8_keep
theorem dX10_saveSnapshot_0 : decode cX10_saveSnapshot 0 = .ok (.iload_n 1, 1) := by decide +kernel
theorem dX10_saveSnapshot_1 : decode cX10_saveSnapshot 1 = .ok (.ifCond .lt 8, 3) := by decide +kernel
theorem dX10_saveSnapshot_4 : decode cX10_saveSnapshot 4 = .ok (.iload_n 1, 1) := by decide +kernel
theorem dX10_saveSnapshot_5 : decode cX10_saveSnapshot 5 = .ok (.iconst 2, 1) := by decide +kernel
theorem dX10_saveSnapshot_6 : decode cX10_saveSnapshot 6 = .ok (.if_icmp .lt 5, 3) := by decide +kernel
theorem dX10_saveSnapshot_9 : decode cX10_saveSnapshot 9 = .ok (.iconst 0, 1) := by decide +kernel
theorem dX10_saveSnapshot_10 : decode cX10_saveSnapshot 10 = .ok (.ireturn, 1) := by decide +kernel
theorem dX10_saveSnapshot_11 : decode cX10_saveSnapshot 11 = .ok (.aload_n 0, 1) := by decide +kernel
theorem dX10_saveSnapshot_12 : decode cX10_saveSnapshot 12 = .ok (.getfield 53, 3) := by decide +kernel
theorem dX10_saveSnapshot_15 : decode cX10_saveSnapshot 15 = .ok (.iload_n 1, 1) := by decide +kernel
theorem dX10_saveSnapshot_16 : decode cX10_saveSnapshot 16 = .ok (.aaload, 1) := by decide +kernel
theorem dX10_saveSnapshot_17 : decode cX10_saveSnapshot 17 = .ok (.aload_n 0, 1) := by decide +kernel
theorem dX10_saveSnapshot_18 : decode cX10_saveSnapshot 18 = .ok (.getfield 19, 3) := by decide +kernel
theorem dX10_saveSnapshot_21 : decode cX10_saveSnapshot 21 = .ok (.invokevirtual 347, 3) := by decide +kernel
theorem dX10_saveSnapshot_24 : decode cX10_saveSnapshot 24 = .ok (.iconst 1, 1) := by decide +kernel
theorem dX10_saveSnapshot_25 : decode cX10_saveSnapshot 25 = .ok (.ireturn, 1) := by decide +kernel
set_option maxRecDepth 20000 in
theorem ggX10_restoreSnapshot_X8_giveBack : GoodIn wsX10_restoreSnapshot wsX8_giveBack := goodIn_r _ [9, 10, 11, 12, 13, 14, 15, 16, 17, 18, 19, 20, 21, 22, 23, 24, 25, 26, 27, 28, 29, 30, 31, 32, 33, 34, 35, 36, 37, 38, 39, 40, 41, 42, 43, 44, 45, 46, 47, 48, 49, 50, 51, 52, 53, 70, 71, 72, 67, 68, 69, 73, 74, 75, 76, 77, 78, 79, 80, 81, 82, 83, 84, 85, 86, 87, 88, 89, 90, 91, 92, 93, 94, 95] (by decide +kernel) (by decide +kernel)
set_option maxRecDepth 20000 in
theorem gX10_restoreSnapshot_X8_giveBack : GoodIn wsX10_restoreSnapshot (wsV RX10 350 RX8 yX8_giveBack wsX8_giveBack) := goodIn_app (goodIn_of _ (by decide +kernel)) ggX10_restoreSnapshot_X8_giveBack
set_option maxRecDepth 20000 in
theorem ggX10_restoreSnapshot_X4_forget : GoodIn wsX10_restoreSnapshot wsX4_forget := goodIn_r _ [58, 59, 96, 97, 98] (by decide +kernel) (by decide +kernel)
set_option maxRecDepth 20000 in
theorem gX10_restoreSnapshot_X4_forget : GoodIn wsX10_restoreSnapshot (wsV RX10 85 RX4 yX4_forget wsX4_forget) := goodIn_app (goodIn_of _ (by decide +kernel)) ggX10_restoreSnapshot_X4_forget
theorem dX10_restoreSnapshot_0 : decode cX10_restoreSnapshot 0 = .ok (.iload_n 1, 1) := by decide +kernel
theorem dX10_restoreSnapshot_1 : decode cX10_restoreSnapshot 1 = .ok (.ifCond .lt 20, 3) := by decide +kernel
theorem dX10_restoreSnapshot_4 : decode cX10_restoreSnapshot 4 = .ok (.iload_n 1, 1) := by decide +kernel
theorem dX10_restoreSnapshot_5 : decode cX10_restoreSnapshot 5 = .ok (.iconst 2, 1) := by decide +kernel
theorem dX10_restoreSnapshot_6 : decode cX10_restoreSnapshot 6 = .ok (.if_icmp .ge 15, 3) := by decide +kernel
theorem dX10_restoreSnapshot_9 : decode cX10_restoreSnapshot 9 = .ok (.aload_n 0, 1) := by decide +kernel
theorem dX10_restoreSnapshot_10 : decode cX10_restoreSnapshot 10 = .ok (.getfield 53, 3) := by decide +kernel
theorem dX10_restoreSnapshot_13 : decode cX10_restoreSnapshot 13 = .ok (.iload_n 1, 1) := by decide +kernel
theorem dX10_restoreSnapshot_14 : decode cX10_restoreSnapshot 14 = .ok (.aaload, 1) := by decide +kernel
theorem dX10_restoreSnapshot_15 : decode cX10_restoreSnapshot 15 = .ok (.getfield 88, 3) := by decide +kernel
theorem dX10_restoreSnapshot_18 : decode cX10_restoreSnapshot 18 = .ok (.ifCond .ne 5, 3) := by decide +kernel
theorem dX10_restoreSnapshot_21 : decode cX10_restoreSnapshot 21 = .ok (.iconst 0, 1) := by decide +kernel
theorem dX10_restoreSnapshot_22 : decode cX10_restoreSnapshot 22 = .ok (.ireturn, 1) := by decide +kernel
theorem dX10_restoreSnapshot_23 : decode cX10_restoreSnapshot 23 = .ok (.aload_n 0, 1) := by decide +kernel
theorem dX10_restoreSnapshot_24 : decode cX10_restoreSnapshot 24 = .ok (.getfield 53, 3) := by decide +kernel
theorem dX10_restoreSnapshot_27 : decode cX10_restoreSnapshot 27 = .ok (.iload_n 1, 1) := by decide +kernel
theorem dX10_restoreSnapshot_28 : decode cX10_restoreSnapshot 28 = .ok (.aaload, 1) := by decide +kernel
theorem dX10_restoreSnapshot_29 : decode cX10_restoreSnapshot 29 = .ok (.aload_n 0, 1) := by decide +kernel
theorem dX10_restoreSnapshot_30 : decode cX10_restoreSnapshot 30 = .ok (.getfield 19, 3) := by decide +kernel
theorem dX10_restoreSnapshot_33 : decode cX10_restoreSnapshot 33 = .ok (.invokevirtual 350, 3) := by decide +kernel
theorem dX10_restoreSnapshot_36 : decode cX10_restoreSnapshot 36 = .ok (.aload_n 0, 1) := by decide +kernel
theorem dX10_restoreSnapshot_37 : decode cX10_restoreSnapshot 37 = .ok (.getfield 47, 3) := by decide +kernel
theorem dX10_restoreSnapshot_40 : decode cX10_restoreSnapshot 40 = .ok (.invokevirtual 85, 3) := by decide +kernel
theorem dX10_restoreSnapshot_43 : decode cX10_restoreSnapshot 43 = .ok (.iconst 1, 1) := by decide +kernel
theorem dX10_restoreSnapshot_44 : decode cX10_restoreSnapshot 44 = .ok (.ireturn, 1) := by decide +kernel
theorem dX10_requireCurrency_0 : decode cX10_requireCurrency 0 = .ok (.iload_n 1, 1) := by decide +kernel
theorem dX10_requireCurrency_1 : decode cX10_requireCurrency 1 = .ok (.ifCond .lt 17, 3) := by decide +kernel
theorem dX10_requireCurrency_4 : decode cX10_requireCurrency 4 = .ok (.iload_n 1, 1) := by decide +kernel
theorem dX10_requireCurrency_5 : decode cX10_requireCurrency 5 = .ok (.aload_n 0, 1) := by decide +kernel
theorem dX10_requireCurrency_6 : decode cX10_requireCurrency 6 = .ok (.getfield 19, 3) := by decide +kernel
theorem dX10_requireCurrency_9 : decode cX10_requireCurrency 9 = .ok (.getfield 91, 3) := by decide +kernel
theorem dX10_requireCurrency_12 : decode cX10_requireCurrency 12 = .ok (.getfield 99, 3) := by decide +kernel
theorem dX10_requireCurrency_15 : decode cX10_requireCurrency 15 = .ok (.if_icmp .lt 14, 3) := by decide +kernel
theorem dX10_requireCurrency_18 : decode cX10_requireCurrency 18 = .ok (.new 270, 3) := by decide +kernel
theorem dX10_requireCurrency_21 : decode cX10_requireCurrency 21 = .ok (.dup, 1) := by decide +kernel
theorem dX10_requireCurrency_22 : decode cX10_requireCurrency 22 = .ok (.ldc_w 353, 3) := by decide +kernel
theorem dX10_requireCurrency_25 : decode cX10_requireCurrency 25 = .ok (.invokespecial 274, 3) := by decide +kernel
theorem dX10_requireCurrency_28 : decode cX10_requireCurrency 28 = .ok (.athrow, 1) := by decide +kernel
theorem dX10_requireCurrency_29 : decode cX10_requireCurrency 29 = .ok (.return_, 1) := by decide +kernel
theorem dX10_requireCompany_0 : decode cX10_requireCompany 0 = .ok (.iload_n 1, 1) := by decide +kernel
theorem dX10_requireCompany_1 : decode cX10_requireCompany 1 = .ok (.ifCond .lt 17, 3) := by decide +kernel
theorem dX10_requireCompany_4 : decode cX10_requireCompany 4 = .ok (.iload_n 1, 1) := by decide +kernel
theorem dX10_requireCompany_5 : decode cX10_requireCompany 5 = .ok (.aload_n 0, 1) := by decide +kernel
theorem dX10_requireCompany_6 : decode cX10_requireCompany 6 = .ok (.getfield 19, 3) := by decide +kernel
theorem dX10_requireCompany_9 : decode cX10_requireCompany 9 = .ok (.getfield 91, 3) := by decide +kernel
theorem dX10_requireCompany_12 : decode cX10_requireCompany 12 = .ok (.getfield 94, 3) := by decide +kernel
theorem dX10_requireCompany_15 : decode cX10_requireCompany 15 = .ok (.if_icmp .lt 14, 3) := by decide +kernel
theorem dX10_requireCompany_18 : decode cX10_requireCompany 18 = .ok (.new 270, 3) := by decide +kernel
theorem dX10_requireCompany_21 : decode cX10_requireCompany 21 = .ok (.dup, 1) := by decide +kernel
theorem dX10_requireCompany_22 : decode cX10_requireCompany 22 = .ok (.ldc_w 355, 3) := by decide +kernel
theorem dX10_requireCompany_25 : decode cX10_requireCompany 25 = .ok (.invokespecial 274, 3) := by decide +kernel
theorem dX10_requireCompany_28 : decode cX10_requireCompany 28 = .ok (.athrow, 1) := by decide +kernel
theorem dX10_requireCompany_29 : decode cX10_requireCompany 29 = .ok (.return_, 1) := by decide +kernel
theorem dX10_requireProduct_0 : decode cX10_requireProduct 0 = .ok (.iload_n 1, 1) := by decide +kernel
theorem dX10_requireProduct_1 : decode cX10_requireProduct 1 = .ok (.ifCond .lt 17, 3) := by decide +kernel
theorem dX10_requireProduct_4 : decode cX10_requireProduct 4 = .ok (.iload_n 1, 1) := by decide +kernel
theorem dX10_requireProduct_5 : decode cX10_requireProduct 5 = .ok (.aload_n 0, 1) := by decide +kernel
theorem dX10_requireProduct_6 : decode cX10_requireProduct 6 = .ok (.getfield 19, 3) := by decide +kernel
theorem dX10_requireProduct_9 : decode cX10_requireProduct 9 = .ok (.getfield 91, 3) := by decide +kernel
theorem dX10_requireProduct_12 : decode cX10_requireProduct 12 = .ok (.getfield 102, 3) := by decide +kernel
theorem dX10_requireProduct_15 : decode cX10_requireProduct 15 = .ok (.if_icmp .lt 14, 3) := by decide +kernel
theorem dX10_requireProduct_18 : decode cX10_requireProduct 18 = .ok (.new 270, 3) := by decide +kernel
theorem dX10_requireProduct_21 : decode cX10_requireProduct 21 = .ok (.dup, 1) := by decide +kernel
theorem dX10_requireProduct_22 : decode cX10_requireProduct 22 = .ok (.ldc_w 357, 3) := by decide +kernel
theorem dX10_requireProduct_25 : decode cX10_requireProduct 25 = .ok (.invokespecial 274, 3) := by decide +kernel
theorem dX10_requireProduct_28 : decode cX10_requireProduct 28 = .ok (.athrow, 1) := by decide +kernel
theorem dX10_requireProduct_29 : decode cX10_requireProduct 29 = .ok (.return_, 1) := by decide +kernel
theorem dX10_requireItem_0 : decode cX10_requireItem 0 = .ok (.iload_n 1, 1) := by decide +kernel
theorem dX10_requireItem_1 : decode cX10_requireItem 1 = .ok (.ifCond .lt 17, 3) := by decide +kernel
theorem dX10_requireItem_4 : decode cX10_requireItem 4 = .ok (.iload_n 1, 1) := by decide +kernel
theorem dX10_requireItem_5 : decode cX10_requireItem 5 = .ok (.aload_n 0, 1) := by decide +kernel
theorem dX10_requireItem_6 : decode cX10_requireItem 6 = .ok (.getfield 19, 3) := by decide +kernel
theorem dX10_requireItem_9 : decode cX10_requireItem 9 = .ok (.getfield 105, 3) := by decide +kernel
theorem dX10_requireItem_12 : decode cX10_requireItem 12 = .ok (.getfield 109, 3) := by decide +kernel
theorem dX10_requireItem_15 : decode cX10_requireItem 15 = .ok (.if_icmp .lt 14, 3) := by decide +kernel
theorem dX10_requireItem_18 : decode cX10_requireItem 18 = .ok (.new 270, 3) := by decide +kernel
theorem dX10_requireItem_21 : decode cX10_requireItem 21 = .ok (.dup, 1) := by decide +kernel
theorem dX10_requireItem_22 : decode cX10_requireItem 22 = .ok (.ldc_w 359, 3) := by decide +kernel
theorem dX10_requireItem_25 : decode cX10_requireItem 25 = .ok (.invokespecial 274, 3) := by decide +kernel
theorem dX10_requireItem_28 : decode cX10_requireItem 28 = .ok (.athrow, 1) := by decide +kernel
theorem dX10_requireItem_29 : decode cX10_requireItem 29 = .ok (.return_, 1) := by decide +kernel
theorem dX10_requireRange_0 : decode cX10_requireRange 0 = .ok (.iload_n 0, 1) := by decide +kernel
theorem dX10_requireRange_1 : decode cX10_requireRange 1 = .ok (.iload_n 1, 1) := by decide +kernel
theorem dX10_requireRange_2 : decode cX10_requireRange 2 = .ok (.if_icmp .lt 8, 3) := by decide +kernel
theorem dX10_requireRange_5 : decode cX10_requireRange 5 = .ok (.iload_n 0, 1) := by decide +kernel
theorem dX10_requireRange_6 : decode cX10_requireRange 6 = .ok (.iload_n 2, 1) := by decide +kernel
theorem dX10_requireRange_7 : decode cX10_requireRange 7 = .ok (.if_icmp .le 14, 3) := by decide +kernel
theorem dX10_requireRange_10 : decode cX10_requireRange 10 = .ok (.new 66, 3) := by decide +kernel
theorem dX10_requireRange_13 : decode cX10_requireRange 13 = .ok (.dup, 1) := by decide +kernel
theorem dX10_requireRange_14 : decode cX10_requireRange 14 = .ok (.ldc_w 361, 3) := by decide +kernel
theorem dX10_requireRange_17 : decode cX10_requireRange 17 = .ok (.invokespecial 70, 3) := by decide +kernel
theorem dX10_requireRange_20 : decode cX10_requireRange 20 = .ok (.athrow, 1) := by decide +kernel
theorem dX10_requireRange_21 : decode cX10_requireRange 21 = .ok (.return_, 1) := by decide +kernel
set_option maxRecDepth 20000 in
theorem ggX10_requirePieces_X1_piecesOf : GoodIn wsX10_requirePieces wsX1_piecesOf := goodIn_r _ [11, 12, 13, 14, 15, 16, 10, 17, 18, 19, 20, 28, 29, 30, 43, 44, 45, 46, 47, 48, 49, 50, 51, 52, 53, 54, 55, 56, 57, 58, 59, 60, 61, 62, 63, 64, 65] (by decide +kernel) (by decide +kernel)
set_option maxRecDepth 20000 in
theorem gX10_requirePieces_X1_piecesOf : GoodIn wsX10_requirePieces (wsV RX10 247 RX1 yX1_piecesOf wsX1_piecesOf) := goodIn_app (goodIn_of _ (by decide +kernel)) ggX10_requirePieces_X1_piecesOf
theorem dX10_requirePieces_0 : decode cX10_requirePieces 0 = .ok (.iload_n 1, 1) := by decide +kernel
theorem dX10_requirePieces_1 : decode cX10_requirePieces 1 = .ok (.aload_n 0, 1) := by decide +kernel
theorem dX10_requirePieces_2 : decode cX10_requirePieces 2 = .ok (.getfield 19, 3) := by decide +kernel
theorem dX10_requirePieces_5 : decode cX10_requirePieces 5 = .ok (.getfield 91, 3) := by decide +kernel
theorem dX10_requirePieces_8 : decode cX10_requirePieces 8 = .ok (.getfield 136, 3) := by decide +kernel
theorem dX10_requirePieces_11 : decode cX10_requirePieces 11 = .ok (.iload_n 2, 1) := by decide +kernel
theorem dX10_requirePieces_12 : decode cX10_requirePieces 12 = .ok (.iaload, 1) := by decide +kernel
theorem dX10_requirePieces_13 : decode cX10_requirePieces 13 = .ok (.if_icmp .eq 31, 3) := by decide +kernel
theorem dX10_requirePieces_16 : decode cX10_requirePieces 16 = .ok (.aload_n 0, 1) := by decide +kernel
theorem dX10_requirePieces_17 : decode cX10_requirePieces 17 = .ok (.getfield 40, 3) := by decide +kernel
theorem dX10_requirePieces_20 : decode cX10_requirePieces 20 = .ok (.aload_n 0, 1) := by decide +kernel
theorem dX10_requirePieces_21 : decode cX10_requirePieces 21 = .ok (.getfield 19, 3) := by decide +kernel
theorem dX10_requirePieces_24 : decode cX10_requirePieces 24 = .ok (.iload_n 1, 1) := by decide +kernel
theorem dX10_requirePieces_25 : decode cX10_requirePieces 25 = .ok (.iload_n 2, 1) := by decide +kernel
theorem dX10_requirePieces_26 : decode cX10_requirePieces 26 = .ok (.invokevirtual 247, 3) := by decide +kernel
theorem dX10_requirePieces_29 : decode cX10_requirePieces 29 = .ok (.iload_n 3, 1) := by decide +kernel
theorem dX10_requirePieces_30 : decode cX10_requirePieces 30 = .ok (.if_icmp .ge 14, 3) := by decide +kernel
theorem dX10_requirePieces_33 : decode cX10_requirePieces 33 = .ok (.new 186, 3) := by decide +kernel
theorem dX10_requirePieces_36 : decode cX10_requirePieces 36 = .ok (.dup, 1) := by decide +kernel
theorem dX10_requirePieces_37 : decode cX10_requirePieces 37 = .ok (.ldc_w 363, 3) := by decide +kernel
theorem dX10_requirePieces_40 : decode cX10_requirePieces 40 = .ok (.invokespecial 190, 3) := by decide +kernel
theorem dX10_requirePieces_43 : decode cX10_requirePieces 43 = .ok (.athrow, 1) := by decide +kernel
theorem dX10_requirePieces_44 : decode cX10_requirePieces 44 = .ok (.return_, 1) := by decide +kernel
set_option maxRecDepth 20000 in
theorem ggX11_init_X11_setDefaults : GoodIn wsX11_init wsX11_setDefaults := goodIn_r _ [25, 7, 26, 32, 33, 34, 35, 36, 37, 38, 39, 40, 41, 42, 43, 44, 45, 46, 47, 48, 49, 50, 51, 52, 53, 54, 55] (by decide +kernel) (by decide +kernel)
set_option maxRecDepth 20000 in
theorem gX11_init_X11_setDefaults : GoodIn wsX11_init (wsV RX11 52 RX11 yX11_setDefaults wsX11_setDefaults) := goodIn_app (goodIn_of _ (by decide +kernel)) ggX11_init_X11_setDefaults
set_option maxRecDepth 20000 in
theorem ggX11_init_X11_takeDraft : GoodIn wsX11_init wsX11_takeDraft := goodIn_r _ [30, 8, 7, 9, 11, 31, 17, 32, 33, 34, 35, 36, 37, 38, 39, 40, 41, 42, 43, 44, 45, 46, 47, 48, 49, 50, 51, 52, 53, 54, 55] (by decide +kernel) (by decide +kernel)
set_option maxRecDepth 20000 in
theorem gX11_init_X11_takeDraft : GoodIn wsX11_init (wsV RX11 55 RX11 yX11_takeDraft wsX11_takeDraft) := goodIn_app (goodIn_of _ (by decide +kernel)) ggX11_init_X11_takeDraft
theorem dX11_init_0 : decode cX11_init 0 = .ok (.aload_n 0, 1) := by decide +kernel
theorem dX11_init_1 : decode cX11_init 1 = .ok (.invokespecial 1, 3) := by decide +kernel
theorem dX11_init_4 : decode cX11_init 4 = .ok (.aload_n 0, 1) := by decide +kernel
theorem dX11_init_5 : decode cX11_init 5 = .ok (.sipush 600, 3) := by decide +kernel
theorem dX11_init_8 : decode cX11_init 8 = .ok (.newarray .byte, 2) := by decide +kernel
theorem dX11_init_10 : decode cX11_init 10 = .ok (.putfield 7, 3) := by decide +kernel
theorem dX11_init_13 : decode cX11_init 13 = .ok (.aload_n 0, 1) := by decide +kernel
theorem dX11_init_14 : decode cX11_init 14 = .ok (.bipush 40, 2) := by decide +kernel
theorem dX11_init_16 : decode cX11_init 16 = .ok (.newarray .int, 2) := by decide +kernel
theorem dX11_init_18 : decode cX11_init 18 = .ok (.putfield 13, 3) := by decide +kernel
theorem dX11_init_21 : decode cX11_init 21 = .ok (.aload_n 0, 1) := by decide +kernel
theorem dX11_init_22 : decode cX11_init 22 = .ok (.bipush 40, 2) := by decide +kernel
theorem dX11_init_24 : decode cX11_init 24 = .ok (.newarray .int, 2) := by decide +kernel
theorem dX11_init_26 : decode cX11_init 26 = .ok (.putfield 17, 3) := by decide +kernel
theorem dX11_init_29 : decode cX11_init 29 = .ok (.aload_n 0, 1) := by decide +kernel
theorem dX11_init_30 : decode cX11_init 30 = .ok (.sipush 1508, 3) := by decide +kernel
theorem dX11_init_33 : decode cX11_init 33 = .ok (.newarray .int, 2) := by decide +kernel
theorem dX11_init_35 : decode cX11_init 35 = .ok (.putfield 20, 3) := by decide +kernel
theorem dX11_init_38 : decode cX11_init 38 = .ok (.aload_n 0, 1) := by decide +kernel
theorem dX11_init_39 : decode cX11_init 39 = .ok (.sipush 309, 3) := by decide +kernel
theorem dX11_init_42 : decode cX11_init 42 = .ok (.newarray .long, 2) := by decide +kernel
theorem dX11_init_44 : decode cX11_init 44 = .ok (.putfield 23, 3) := by decide +kernel
theorem dX11_init_47 : decode cX11_init 47 = .ok (.aload_n 0, 1) := by decide +kernel
theorem dX11_init_48 : decode cX11_init 48 = .ok (.sipush 15080, 3) := by decide +kernel
theorem dX11_init_51 : decode cX11_init 51 = .ok (.newarray .int, 2) := by decide +kernel
theorem dX11_init_53 : decode cX11_init 53 = .ok (.putfield 27, 3) := by decide +kernel
theorem dX11_init_56 : decode cX11_init 56 = .ok (.aload_n 0, 1) := by decide +kernel
theorem dX11_init_57 : decode cX11_init 57 = .ok (.sipush 3090, 3) := by decide +kernel
theorem dX11_init_60 : decode cX11_init 60 = .ok (.newarray .long, 2) := by decide +kernel
theorem dX11_init_62 : decode cX11_init 62 = .ok (.putfield 30, 3) := by decide +kernel
theorem dX11_init_65 : decode cX11_init 65 = .ok (.aload_n 0, 1) := by decide +kernel
theorem dX11_init_66 : decode cX11_init 66 = .ok (.sipush 3016, 3) := by decide +kernel
theorem dX11_init_69 : decode cX11_init 69 = .ok (.newarray .int, 2) := by decide +kernel
theorem dX11_init_71 : decode cX11_init 71 = .ok (.putfield 33, 3) := by decide +kernel
theorem dX11_init_74 : decode cX11_init 74 = .ok (.aload_n 0, 1) := by decide +kernel
theorem dX11_init_75 : decode cX11_init 75 = .ok (.sipush 618, 3) := by decide +kernel
theorem dX11_init_78 : decode cX11_init 78 = .ok (.newarray .long, 2) := by decide +kernel
theorem dX11_init_80 : decode cX11_init 80 = .ok (.putfield 36, 3) := by decide +kernel
theorem dX11_init_83 : decode cX11_init 83 = .ok (.aload_n 0, 1) := by decide +kernel
theorem dX11_init_84 : decode cX11_init 84 = .ok (.iconst 2, 1) := by decide +kernel
theorem dX11_init_85 : decode cX11_init 85 = .ok (.newarray .boolean, 2) := by decide +kernel
theorem dX11_init_87 : decode cX11_init 87 = .ok (.putfield 39, 3) := by decide +kernel
theorem dX11_init_90 : decode cX11_init 90 = .ok (.aload_n 0, 1) := by decide +kernel
theorem dX11_init_91 : decode cX11_init 91 = .ok (.bipush 100, 2) := by decide +kernel
theorem dX11_init_93 : decode cX11_init 93 = .ok (.newarray .int, 2) := by decide +kernel
theorem dX11_init_95 : decode cX11_init 95 = .ok (.putfield 43, 3) := by decide +kernel
theorem dX11_init_98 : decode cX11_init 98 = .ok (.aload_n 0, 1) := by decide +kernel
theorem dX11_init_99 : decode cX11_init 99 = .ok (.bipush 64, 2) := by decide +kernel
theorem dX11_init_101 : decode cX11_init 101 = .ok (.newarray .long, 2) := by decide +kernel
theorem dX11_init_103 : decode cX11_init 103 = .ok (.putfield 46, 3) := by decide +kernel
theorem dX11_init_106 : decode cX11_init 106 = .ok (.aload_n 0, 1) := by decide +kernel
theorem dX11_init_107 : decode cX11_init 107 = .ok (.bipush 64, 2) := by decide +kernel
theorem dX11_init_109 : decode cX11_init 109 = .ok (.newarray .int, 2) := by decide +kernel
theorem dX11_init_111 : decode cX11_init 111 = .ok (.putfield 49, 3) := by decide +kernel
theorem dX11_init_114 : decode cX11_init 114 = .ok (.aload_n 0, 1) := by decide +kernel
theorem dX11_init_115 : decode cX11_init 115 = .ok (.invokevirtual 52, 3) := by decide +kernel
theorem dX11_init_118 : decode cX11_init 118 = .ok (.aload_n 0, 1) := by decide +kernel
theorem dX11_init_119 : decode cX11_init 119 = .ok (.invokevirtual 55, 3) := by decide +kernel
theorem dX11_init_122 : decode cX11_init 122 = .ok (.return_, 1) := by decide +kernel
theorem dX11_thrown_0 : decode cX11_thrown 0 = .ok (.aload_n 0, 1) := by decide +kernel
theorem dX11_thrown_1 : decode cX11_thrown 1 = .ok (.getfield 58, 3) := by decide +kernel
theorem dX11_thrown_4 : decode cX11_thrown 4 = .ok (.ireturn, 1) := by decide +kernel
theorem dX11_within_0 : decode cX11_within 0 = .ok (.lload_n 0, 1) := by decide +kernel
theorem dX11_within_1 : decode cX11_within 1 = .ok (.lload_n 2, 1) := by decide +kernel
theorem dX11_within_2 : decode cX11_within 2 = .ok (.lcmp, 1) := by decide +kernel
theorem dX11_within_3 : decode cX11_within 3 = .ok (.ifCond .lt 14, 3) := by decide +kernel
theorem dX11_within_6 : decode cX11_within 6 = .ok (.lload_n 0, 1) := by decide +kernel
theorem dX11_within_7 : decode cX11_within 7 = .ok (.lload 4, 2) := by decide +kernel
theorem dX11_within_9 : decode cX11_within 9 = .ok (.lcmp, 1) := by decide +kernel
theorem dX11_within_10 : decode cX11_within 10 = .ok (.ifCond .gt 7, 3) := by decide +kernel
theorem dX11_within_13 : decode cX11_within 13 = .ok (.iconst 1, 1) := by decide +kernel
theorem dX11_within_14 : decode cX11_within 14 = .ok (.goto 4, 3) := by decide +kernel
theorem dX11_within_17 : decode cX11_within 17 = .ok (.iconst 0, 1) := by decide +kernel
theorem dX11_within_18 : decode cX11_within 18 = .ok (.ireturn, 1) := by decide +kernel
theorem dX11_absolute_0 : decode cX11_absolute 0 = .ok (.lload_n 0, 1) := by decide +kernel
theorem dX11_absolute_1 : decode cX11_absolute 1 = .ok (.lconst 0, 1) := by decide +kernel
theorem dX11_absolute_2 : decode cX11_absolute 2 = .ok (.lcmp, 1) := by decide +kernel
theorem dX11_absolute_3 : decode cX11_absolute 3 = .ok (.ifCond .ge 8, 3) := by decide +kernel
theorem dX11_absolute_6 : decode cX11_absolute 6 = .ok (.lload_n 0, 1) := by decide +kernel
theorem dX11_absolute_7 : decode cX11_absolute 7 = .ok (.lneg, 1) := by decide +kernel
theorem dX11_absolute_8 : decode cX11_absolute 8 = .ok (.goto 4, 3) := by decide +kernel
theorem dX11_absolute_11 : decode cX11_absolute 11 = .ok (.lload_n 0, 1) := by decide +kernel
theorem dX11_absolute_12 : decode cX11_absolute 12 = .ok (.lreturn, 1) := by decide +kernel
theorem dX11_fail_0 : decode cX11_fail 0 = .ok (.aload_n 0, 1) := by decide +kernel
theorem dX11_fail_1 : decode cX11_fail 1 = .ok (.iload_n 1, 1) := by decide +kernel
theorem dX11_fail_2 : decode cX11_fail 2 = .ok (.putfield 58, 3) := by decide +kernel
theorem dX11_fail_5 : decode cX11_fail 5 = .ok (.iconst 0, 1) := by decide +kernel
theorem dX11_fail_6 : decode cX11_fail 6 = .ok (.ireturn, 1) := by decide +kernel
theorem dX11_told_0 : decode cX11_told 0 = .ok (.aload_n 0, 1) := by decide +kernel
theorem dX11_told_1 : decode cX11_told 1 = .ok (.iconst 0, 1) := by decide +kernel
theorem dX11_told_2 : decode cX11_told 2 = .ok (.putfield 58, 3) := by decide +kernel
theorem dX11_told_5 : decode cX11_told 5 = .ok (.iload_n 1, 1) := by decide +kernel
theorem dX11_told_6 : decode cX11_told 6 = .ok (.ireturn, 1) := by decide +kernel
theorem dX11_appendInt_0 : decode cX11_appendInt 0 = .ok (.bipush 24, 2) := by decide +kernel
theorem dX11_appendInt_2 : decode cX11_appendInt 2 = .ok (.istore_n 2, 1) := by decide +kernel
theorem dX11_appendInt_3 : decode cX11_appendInt 3 = .ok (.iload_n 2, 1) := by decide +kernel
theorem dX11_appendInt_4 : decode cX11_appendInt 4 = .ok (.ifCond .lt 32, 3) := by decide +kernel
theorem dX11_appendInt_7 : decode cX11_appendInt 7 = .ok (.aload_n 0, 1) := by decide +kernel
theorem dX11_appendInt_8 : decode cX11_appendInt 8 = .ok (.getfield 7, 3) := by decide +kernel
theorem dX11_appendInt_11 : decode cX11_appendInt 11 = .ok (.aload_n 0, 1) := by decide +kernel
theorem dX11_appendInt_12 : decode cX11_appendInt 12 = .ok (.getfield 62, 3) := by decide +kernel
theorem dX11_appendInt_15 : decode cX11_appendInt 15 = .ok (.iload_n 1, 1) := by decide +kernel
theorem dX11_appendInt_16 : decode cX11_appendInt 16 = .ok (.iload_n 2, 1) := by decide +kernel
theorem dX11_appendInt_17 : decode cX11_appendInt 17 = .ok (.ishr, 1) := by decide +kernel
theorem dX11_appendInt_18 : decode cX11_appendInt 18 = .ok (.i2b, 1) := by decide +kernel
theorem dX11_appendInt_19 : decode cX11_appendInt 19 = .ok (.bastore, 1) := by decide +kernel
theorem dX11_appendInt_20 : decode cX11_appendInt 20 = .ok (.aload_n 0, 1) := by decide +kernel
theorem dX11_appendInt_21 : decode cX11_appendInt 21 = .ok (.dup, 1) := by decide +kernel
theorem dX11_appendInt_22 : decode cX11_appendInt 22 = .ok (.getfield 62, 3) := by decide +kernel
theorem dX11_appendInt_25 : decode cX11_appendInt 25 = .ok (.iconst 1, 1) := by decide +kernel
theorem dX11_appendInt_26 : decode cX11_appendInt 26 = .ok (.iadd, 1) := by decide +kernel
theorem dX11_appendInt_27 : decode cX11_appendInt 27 = .ok (.putfield 62, 3) := by decide +kernel
theorem dX11_appendInt_30 : decode cX11_appendInt 30 = .ok (.iinc 2 (-8), 3) := by decide +kernel
theorem dX11_appendInt_33 : decode cX11_appendInt 33 = .ok (.goto (-30), 3) := by decide +kernel
theorem dX11_appendInt_36 : decode cX11_appendInt 36 = .ok (.return_, 1) := by decide +kernel
set_option maxRecDepth 20000 in
theorem ggX11_append_X11_appendInt : GoodIn wsX11_append wsX11_appendInt := goodIn_r _ [7, 8, 2, 9, 10, 11, 12, 13, 14, 15, 16, 17, 18, 19, 20, 21, 22, 23, 24, 25, 26, 27, 28, 29, 30, 31, 32] (by decide +kernel) (by decide +kernel)
set_option maxRecDepth 20000 in
theorem gX11_append_X11_appendInt : GoodIn wsX11_append (wsV RX11 65 RX11 yX11_appendInt wsX11_appendInt) := goodIn_app (goodIn_of _ (by decide +kernel)) ggX11_append_X11_appendInt
theorem dX11_append_0 : decode cX11_append 0 = .ok (.aload_n 0, 1) := by decide +kernel
theorem dX11_append_1 : decode cX11_append 1 = .ok (.iconst 0, 1) := by decide +kernel
theorem dX11_append_2 : decode cX11_append 2 = .ok (.putfield 58, 3) := by decide +kernel
theorem dX11_append_5 : decode cX11_append 5 = .ok (.aload_n 0, 1) := by decide +kernel
theorem dX11_append_6 : decode cX11_append 6 = .ok (.getfield 62, 3) := by decide +kernel
theorem dX11_append_9 : decode cX11_append 9 = .ok (.bipush 20, 2) := by decide +kernel
theorem dX11_append_11 : decode cX11_append 11 = .ok (.iadd, 1) := by decide +kernel
theorem dX11_append_12 : decode cX11_append 12 = .ok (.sipush 600, 3) := by decide +kernel
theorem dX11_append_15 : decode cX11_append 15 = .ok (.if_icmp .le 5, 3) := by decide +kernel
theorem dX11_append_18 : decode cX11_append 18 = .ok (.iconst (-1), 1) := by decide +kernel
theorem dX11_append_19 : decode cX11_append 19 = .ok (.ireturn, 1) := by decide +kernel
theorem dX11_append_20 : decode cX11_append 20 = .ok (.aload_n 0, 1) := by decide +kernel
theorem dX11_append_21 : decode cX11_append 21 = .ok (.iload_n 1, 1) := by decide +kernel
theorem dX11_append_22 : decode cX11_append 22 = .ok (.invokevirtual 65, 3) := by decide +kernel
theorem dX11_append_25 : decode cX11_append 25 = .ok (.aload_n 0, 1) := by decide +kernel
theorem dX11_append_26 : decode cX11_append 26 = .ok (.iload_n 2, 1) := by decide +kernel
theorem dX11_append_27 : decode cX11_append 27 = .ok (.invokevirtual 65, 3) := by decide +kernel
theorem dX11_append_30 : decode cX11_append 30 = .ok (.aload_n 0, 1) := by decide +kernel
theorem dX11_append_31 : decode cX11_append 31 = .ok (.iload_n 3, 1) := by decide +kernel
theorem dX11_append_32 : decode cX11_append 32 = .ok (.invokevirtual 65, 3) := by decide +kernel
theorem dX11_append_35 : decode cX11_append 35 = .ok (.aload_n 0, 1) := by decide +kernel
theorem dX11_append_36 : decode cX11_append 36 = .ok (.iload 4, 2) := by decide +kernel
theorem dX11_append_38 : decode cX11_append 38 = .ok (.invokevirtual 65, 3) := by decide +kernel
theorem dX11_append_41 : decode cX11_append 41 = .ok (.aload_n 0, 1) := by decide +kernel
theorem dX11_append_42 : decode cX11_append 42 = .ok (.iload 5, 2) := by decide +kernel
theorem dX11_append_44 : decode cX11_append 44 = .ok (.invokevirtual 65, 3) := by decide +kernel
theorem dX11_append_47 : decode cX11_append 47 = .ok (.aload_n 0, 1) := by decide +kernel
theorem dX11_append_48 : decode cX11_append 48 = .ok (.getfield 62, 3) := by decide +kernel
theorem dX11_append_51 : decode cX11_append 51 = .ok (.ireturn, 1) := by decide +kernel
theorem dX11_byteAt_0 : decode cX11_byteAt 0 = .ok (.iload_n 1, 1) := by decide +kernel
theorem dX11_byteAt_1 : decode cX11_byteAt 1 = .ok (.aload_n 0, 1) := by decide +kernel
theorem dX11_byteAt_2 : decode cX11_byteAt 2 = .ok (.getfield 69, 3) := by decide +kernel
theorem dX11_byteAt_5 : decode cX11_byteAt 5 = .ok (.if_icmp .ge 16, 3) := by decide +kernel
theorem dX11_byteAt_8 : decode cX11_byteAt 8 = .ok (.aload_n 0, 1) := by decide +kernel
theorem dX11_byteAt_9 : decode cX11_byteAt 9 = .ok (.getfield 7, 3) := by decide +kernel
theorem dX11_byteAt_12 : decode cX11_byteAt 12 = .ok (.iload_n 1, 1) := by decide +kernel
theorem dX11_byteAt_13 : decode cX11_byteAt 13 = .ok (.baload, 1) := by decide +kernel
theorem dX11_byteAt_14 : decode cX11_byteAt 14 = .ok (.sipush 255, 3) := by decide +kernel
theorem dX11_byteAt_17 : decode cX11_byteAt 17 = .ok (.iand, 1) := by decide +kernel
theorem dX11_byteAt_18 : decode cX11_byteAt 18 = .ok (.goto 4, 3) := by decide +kernel
theorem dX11_byteAt_21 : decode cX11_byteAt 21 = .ok (.iconst (-1), 1) := by decide +kernel
theorem dX11_byteAt_22 : decode cX11_byteAt 22 = .ok (.ireturn, 1) := by decide +kernel
set_option maxRecDepth 20000 in
theorem ggX11_nextToken_X11_byteAt : GoodIn wsX11_nextToken wsX11_byteAt := goodIn_r _ [13, 14, 15, 19, 20, 21, 22, 23, 24, 25, 26, 27, 28, 29, 30, 31, 32, 33, 34, 35, 36, 37, 38, 39, 40, 41, 42] (by decide +kernel) (by decide +kernel)
set_option maxRecDepth 20000 in
theorem gX11_nextToken_X11_byteAt : GoodIn wsX11_nextToken (wsV RX11 78 RX11 yX11_byteAt wsX11_byteAt) := goodIn_app (goodIn_of _ (by decide +kernel)) ggX11_nextToken_X11_byteAt
set_option maxRecDepth 20000 in
theorem ggX11_nextToken_X11_within : GoodIn wsX11_nextToken wsX11_within := goodIn_r _ [18] (by decide +kernel) (by decide +kernel)
set_option maxRecDepth 20000 in
theorem gX11_nextToken_X11_within : GoodIn wsX11_nextToken (va_wsS RX11 89 yX11_within wsX11_within) := goodIn_app (goodIn_of _ (by decide +kernel)) ggX11_nextToken_X11_within
theorem dX11_nextToken_0 : decode cX11_nextToken 0 = .ok (.aload_n 0, 1) := by decide +kernel
theorem dX11_nextToken_1 : decode cX11_nextToken 1 = .ok (.aload_n 0, 1) := by decide +kernel
theorem dX11_nextToken_2 : decode cX11_nextToken 2 = .ok (.getfield 72, 3) := by decide +kernel
theorem dX11_nextToken_5 : decode cX11_nextToken 5 = .ok (.putfield 75, 3) := by decide +kernel
theorem dX11_nextToken_8 : decode cX11_nextToken 8 = .ok (.aload_n 0, 1) := by decide +kernel
theorem dX11_nextToken_9 : decode cX11_nextToken 9 = .ok (.aload_n 0, 1) := by decide +kernel
theorem dX11_nextToken_10 : decode cX11_nextToken 10 = .ok (.getfield 75, 3) := by decide +kernel
theorem dX11_nextToken_13 : decode cX11_nextToken 13 = .ok (.invokevirtual 78, 3) := by decide +kernel
theorem dX11_nextToken_16 : decode cX11_nextToken 16 = .ok (.bipush 32, 2) := by decide +kernel
theorem dX11_nextToken_18 : decode cX11_nextToken 18 = .ok (.if_icmp .eq 16, 3) := by decide +kernel
theorem dX11_nextToken_21 : decode cX11_nextToken 21 = .ok (.aload_n 0, 1) := by decide +kernel
theorem dX11_nextToken_22 : decode cX11_nextToken 22 = .ok (.aload_n 0, 1) := by decide +kernel
theorem dX11_nextToken_23 : decode cX11_nextToken 23 = .ok (.getfield 75, 3) := by decide +kernel
theorem dX11_nextToken_26 : decode cX11_nextToken 26 = .ok (.invokevirtual 78, 3) := by decide +kernel
theorem dX11_nextToken_29 : decode cX11_nextToken 29 = .ok (.bipush 10, 2) := by decide +kernel
theorem dX11_nextToken_31 : decode cX11_nextToken 31 = .ok (.if_icmp .ne 16, 3) := by decide +kernel
theorem dX11_nextToken_34 : decode cX11_nextToken 34 = .ok (.aload_n 0, 1) := by decide +kernel
theorem dX11_nextToken_35 : decode cX11_nextToken 35 = .ok (.dup, 1) := by decide +kernel
theorem dX11_nextToken_36 : decode cX11_nextToken 36 = .ok (.getfield 75, 3) := by decide +kernel
theorem dX11_nextToken_39 : decode cX11_nextToken 39 = .ok (.iconst 1, 1) := by decide +kernel
theorem dX11_nextToken_40 : decode cX11_nextToken 40 = .ok (.iadd, 1) := by decide +kernel
theorem dX11_nextToken_41 : decode cX11_nextToken 41 = .ok (.putfield 75, 3) := by decide +kernel
theorem dX11_nextToken_44 : decode cX11_nextToken 44 = .ok (.goto (-36), 3) := by decide +kernel
theorem dX11_nextToken_47 : decode cX11_nextToken 47 = .ok (.aload_n 0, 1) := by decide +kernel
theorem dX11_nextToken_48 : decode cX11_nextToken 48 = .ok (.aload_n 0, 1) := by decide +kernel
theorem dX11_nextToken_49 : decode cX11_nextToken 49 = .ok (.getfield 75, 3) := by decide +kernel
theorem dX11_nextToken_52 : decode cX11_nextToken 52 = .ok (.invokevirtual 78, 3) := by decide +kernel
theorem dX11_nextToken_55 : decode cX11_nextToken 55 = .ok (.istore_n 1, 1) := by decide +kernel
theorem dX11_nextToken_56 : decode cX11_nextToken 56 = .ok (.aload_n 0, 1) := by decide +kernel
theorem dX11_nextToken_57 : decode cX11_nextToken 57 = .ok (.aload_n 0, 1) := by decide +kernel
theorem dX11_nextToken_58 : decode cX11_nextToken 58 = .ok (.getfield 75, 3) := by decide +kernel
theorem dX11_nextToken_61 : decode cX11_nextToken 61 = .ok (.putfield 72, 3) := by decide +kernel
theorem dX11_nextToken_64 : decode cX11_nextToken 64 = .ok (.aload_n 0, 1) := by decide +kernel
theorem dX11_nextToken_65 : decode cX11_nextToken 65 = .ok (.iconst 4, 1) := by decide +kernel
theorem dX11_nextToken_66 : decode cX11_nextToken 66 = .ok (.putfield 82, 3) := by decide +kernel
theorem dX11_nextToken_69 : decode cX11_nextToken 69 = .ok (.iload_n 1, 1) := by decide +kernel
theorem dX11_nextToken_70 : decode cX11_nextToken 70 = .ok (.iconst (-1), 1) := by decide +kernel
theorem dX11_nextToken_71 : decode cX11_nextToken 71 = .ok (.if_icmp .ne 11, 3) := by decide +kernel
theorem dX11_nextToken_74 : decode cX11_nextToken 74 = .ok (.aload_n 0, 1) := by decide +kernel
theorem dX11_nextToken_75 : decode cX11_nextToken 75 = .ok (.iconst 0, 1) := by decide +kernel
theorem dX11_nextToken_76 : decode cX11_nextToken 76 = .ok (.putfield 82, 3) := by decide +kernel
theorem dX11_nextToken_79 : decode cX11_nextToken 79 = .ok (.goto 223, 3) := by decide +kernel
theorem dX11_nextToken_82 : decode cX11_nextToken 82 = .ok (.iload_n 1, 1) := by decide +kernel
theorem dX11_nextToken_83 : decode cX11_nextToken 83 = .ok (.i2l, 1) := by decide +kernel
theorem dX11_nextToken_84 : decode cX11_nextToken 84 = .ok (.ldc2_w 85, 3) := by decide +kernel
theorem dX11_nextToken_87 : decode cX11_nextToken 87 = .ok (.ldc2_w 87, 3) := by decide +kernel
theorem dX11_nextToken_90 : decode cX11_nextToken 90 = .ok (.invokestatic 89, 3) := by decide +kernel
theorem dX11_nextToken_93 : decode cX11_nextToken 93 = .ok (.ifCond .eq 63, 3) := by decide +kernel
theorem dX11_nextToken_96 : decode cX11_nextToken 96 = .ok (.aload_n 0, 1) := by decide +kernel
theorem dX11_nextToken_97 : decode cX11_nextToken 97 = .ok (.aload_n 0, 1) := by decide +kernel
theorem dX11_nextToken_98 : decode cX11_nextToken 98 = .ok (.getfield 72, 3) := by decide +kernel
theorem dX11_nextToken_101 : decode cX11_nextToken 101 = .ok (.invokevirtual 78, 3) := by decide +kernel
theorem dX11_nextToken_104 : decode cX11_nextToken 104 = .ok (.i2l, 1) := by decide +kernel
theorem dX11_nextToken_105 : decode cX11_nextToken 105 = .ok (.ldc2_w 85, 3) := by decide +kernel
theorem dX11_nextToken_108 : decode cX11_nextToken 108 = .ok (.ldc2_w 87, 3) := by decide +kernel
theorem dX11_nextToken_111 : decode cX11_nextToken 111 = .ok (.invokestatic 89, 3) := by decide +kernel
theorem dX11_nextToken_114 : decode cX11_nextToken 114 = .ok (.ifCond .eq 16, 3) := by decide +kernel
theorem dX11_nextToken_117 : decode cX11_nextToken 117 = .ok (.aload_n 0, 1) := by decide +kernel
theorem dX11_nextToken_118 : decode cX11_nextToken 118 = .ok (.dup, 1) := by decide +kernel
theorem dX11_nextToken_119 : decode cX11_nextToken 119 = .ok (.getfield 72, 3) := by decide +kernel
theorem dX11_nextToken_122 : decode cX11_nextToken 122 = .ok (.iconst 1, 1) := by decide +kernel
theorem dX11_nextToken_123 : decode cX11_nextToken 123 = .ok (.iadd, 1) := by decide +kernel
theorem dX11_nextToken_124 : decode cX11_nextToken 124 = .ok (.putfield 72, 3) := by decide +kernel
theorem dX11_nextToken_127 : decode cX11_nextToken 127 = .ok (.goto (-31), 3) := by decide +kernel
theorem dX11_nextToken_130 : decode cX11_nextToken 130 = .ok (.aload_n 0, 1) := by decide +kernel
theorem dX11_nextToken_131 : decode cX11_nextToken 131 = .ok (.aload_n 0, 1) := by decide +kernel
theorem dX11_nextToken_132 : decode cX11_nextToken 132 = .ok (.getfield 72, 3) := by decide +kernel
theorem dX11_nextToken_135 : decode cX11_nextToken 135 = .ok (.aload_n 0, 1) := by decide +kernel
theorem dX11_nextToken_136 : decode cX11_nextToken 136 = .ok (.getfield 75, 3) := by decide +kernel
theorem dX11_nextToken_139 : decode cX11_nextToken 139 = .ok (.isub, 1) := by decide +kernel
theorem dX11_nextToken_140 : decode cX11_nextToken 140 = .ok (.bipush 9, 2) := by decide +kernel
theorem dX11_nextToken_142 : decode cX11_nextToken 142 = .ok (.if_icmp .le 7, 3) := by decide +kernel
theorem dX11_nextToken_145 : decode cX11_nextToken 145 = .ok (.iconst 4, 1) := by decide +kernel
theorem dX11_nextToken_146 : decode cX11_nextToken 146 = .ok (.goto 4, 3) := by decide +kernel
theorem dX11_nextToken_149 : decode cX11_nextToken 149 = .ok (.iconst 1, 1) := by decide +kernel
theorem dX11_nextToken_150 : decode cX11_nextToken 150 = .ok (.putfield 82, 3) := by decide +kernel
theorem dX11_nextToken_153 : decode cX11_nextToken 153 = .ok (.goto 149, 3) := by decide +kernel
theorem dX11_nextToken_156 : decode cX11_nextToken 156 = .ok (.iload_n 1, 1) := by decide +kernel
theorem dX11_nextToken_157 : decode cX11_nextToken 157 = .ok (.i2l, 1) := by decide +kernel
theorem dX11_nextToken_158 : decode cX11_nextToken 158 = .ok (.ldc2_w 93, 3) := by decide +kernel
theorem dX11_nextToken_161 : decode cX11_nextToken 161 = .ok (.ldc2_w 95, 3) := by decide +kernel
theorem dX11_nextToken_164 : decode cX11_nextToken 164 = .ok (.invokestatic 89, 3) := by decide +kernel
theorem dX11_nextToken_167 : decode cX11_nextToken 167 = .ok (.ifCond .eq 110, 3) := by decide +kernel
theorem dX11_nextToken_170 : decode cX11_nextToken 170 = .ok (.aload_n 0, 1) := by decide +kernel
theorem dX11_nextToken_171 : decode cX11_nextToken 171 = .ok (.iconst 0, 1) := by decide +kernel
theorem dX11_nextToken_172 : decode cX11_nextToken 172 = .ok (.putfield 97, 3) := by decide +kernel
theorem dX11_nextToken_175 : decode cX11_nextToken 175 = .ok (.aload_n 0, 1) := by decide +kernel
theorem dX11_nextToken_176 : decode cX11_nextToken 176 = .ok (.aload_n 0, 1) := by decide +kernel
theorem dX11_nextToken_177 : decode cX11_nextToken 177 = .ok (.getfield 72, 3) := by decide +kernel
theorem dX11_nextToken_180 : decode cX11_nextToken 180 = .ok (.invokevirtual 78, 3) := by decide +kernel
theorem dX11_nextToken_183 : decode cX11_nextToken 183 = .ok (.i2l, 1) := by decide +kernel
theorem dX11_nextToken_184 : decode cX11_nextToken 184 = .ok (.ldc2_w 93, 3) := by decide +kernel
theorem dX11_nextToken_187 : decode cX11_nextToken 187 = .ok (.ldc2_w 95, 3) := by decide +kernel
theorem dX11_nextToken_190 : decode cX11_nextToken 190 = .ok (.invokestatic 89, 3) := by decide +kernel
theorem dX11_nextToken_193 : decode cX11_nextToken 193 = .ok (.ifCond .eq 59, 3) := by decide +kernel
theorem dX11_nextToken_196 : decode cX11_nextToken 196 = .ok (.aload_n 0, 1) := by decide +kernel
theorem dX11_nextToken_197 : decode cX11_nextToken 197 = .ok (.aload_n 0, 1) := by decide +kernel
theorem dX11_nextToken_198 : decode cX11_nextToken 198 = .ok (.getfield 72, 3) := by decide +kernel
theorem dX11_nextToken_201 : decode cX11_nextToken 201 = .ok (.aload_n 0, 1) := by decide +kernel
theorem dX11_nextToken_202 : decode cX11_nextToken 202 = .ok (.getfield 75, 3) := by decide +kernel
theorem dX11_nextToken_205 : decode cX11_nextToken 205 = .ok (.isub, 1) := by decide +kernel
theorem dX11_nextToken_206 : decode cX11_nextToken 206 = .ok (.iconst 4, 1) := by decide +kernel
theorem dX11_nextToken_207 : decode cX11_nextToken 207 = .ok (.if_icmp .ge 25, 3) := by decide +kernel
theorem dX11_nextToken_210 : decode cX11_nextToken 210 = .ok (.bipush 10, 2) := by decide +kernel
theorem dX11_nextToken_212 : decode cX11_nextToken 212 = .ok (.aload_n 0, 1) := by decide +kernel
theorem dX11_nextToken_213 : decode cX11_nextToken 213 = .ok (.getfield 97, 3) := by decide +kernel
theorem dX11_nextToken_216 : decode cX11_nextToken 216 = .ok (.imul, 1) := by decide +kernel
theorem dX11_nextToken_217 : decode cX11_nextToken 217 = .ok (.aload_n 0, 1) := by decide +kernel
theorem dX11_nextToken_218 : decode cX11_nextToken 218 = .ok (.aload_n 0, 1) := by decide +kernel
theorem dX11_nextToken_219 : decode cX11_nextToken 219 = .ok (.getfield 72, 3) := by decide +kernel
theorem dX11_nextToken_222 : decode cX11_nextToken 222 = .ok (.invokevirtual 78, 3) := by decide +kernel
theorem dX11_nextToken_225 : decode cX11_nextToken 225 = .ok (.iadd, 1) := by decide +kernel
theorem dX11_nextToken_226 : decode cX11_nextToken 226 = .ok (.bipush 48, 2) := by decide +kernel
theorem dX11_nextToken_228 : decode cX11_nextToken 228 = .ok (.isub, 1) := by decide +kernel
theorem dX11_nextToken_229 : decode cX11_nextToken 229 = .ok (.goto 7, 3) := by decide +kernel
theorem dX11_nextToken_232 : decode cX11_nextToken 232 = .ok (.aload_n 0, 1) := by decide +kernel
theorem dX11_nextToken_233 : decode cX11_nextToken 233 = .ok (.getfield 97, 3) := by decide +kernel
theorem dX11_nextToken_236 : decode cX11_nextToken 236 = .ok (.putfield 97, 3) := by decide +kernel
theorem dX11_nextToken_239 : decode cX11_nextToken 239 = .ok (.aload_n 0, 1) := by decide +kernel
theorem dX11_nextToken_240 : decode cX11_nextToken 240 = .ok (.dup, 1) := by decide +kernel
theorem dX11_nextToken_241 : decode cX11_nextToken 241 = .ok (.getfield 72, 3) := by decide +kernel
theorem dX11_nextToken_244 : decode cX11_nextToken 244 = .ok (.iconst 1, 1) := by decide +kernel
theorem dX11_nextToken_245 : decode cX11_nextToken 245 = .ok (.iadd, 1) := by decide +kernel
theorem dX11_nextToken_246 : decode cX11_nextToken 246 = .ok (.putfield 72, 3) := by decide +kernel
theorem dX11_nextToken_249 : decode cX11_nextToken 249 = .ok (.goto (-74), 3) := by decide +kernel
theorem dX11_nextToken_252 : decode cX11_nextToken 252 = .ok (.aload_n 0, 1) := by decide +kernel
theorem dX11_nextToken_253 : decode cX11_nextToken 253 = .ok (.aload_n 0, 1) := by decide +kernel
theorem dX11_nextToken_254 : decode cX11_nextToken 254 = .ok (.getfield 72, 3) := by decide +kernel
theorem dX11_nextToken_257 : decode cX11_nextToken 257 = .ok (.aload_n 0, 1) := by decide +kernel
theorem dX11_nextToken_258 : decode cX11_nextToken 258 = .ok (.getfield 75, 3) := by decide +kernel
theorem dX11_nextToken_261 : decode cX11_nextToken 261 = .ok (.isub, 1) := by decide +kernel
theorem dX11_nextToken_262 : decode cX11_nextToken 262 = .ok (.iconst 4, 1) := by decide +kernel
theorem dX11_nextToken_263 : decode cX11_nextToken 263 = .ok (.if_icmp .le 7, 3) := by decide +kernel
theorem dX11_nextToken_266 : decode cX11_nextToken 266 = .ok (.iconst 4, 1) := by decide +kernel
theorem dX11_nextToken_267 : decode cX11_nextToken 267 = .ok (.goto 4, 3) := by decide +kernel
theorem dX11_nextToken_270 : decode cX11_nextToken 270 = .ok (.iconst 2, 1) := by decide +kernel
theorem dX11_nextToken_271 : decode cX11_nextToken 271 = .ok (.putfield 82, 3) := by decide +kernel
theorem dX11_nextToken_274 : decode cX11_nextToken 274 = .ok (.goto 28, 3) := by decide +kernel
theorem dX11_nextToken_277 : decode cX11_nextToken 277 = .ok (.aload_n 0, 1) := by decide +kernel
theorem dX11_nextToken_278 : decode cX11_nextToken 278 = .ok (.dup, 1) := by decide +kernel
theorem dX11_nextToken_279 : decode cX11_nextToken 279 = .ok (.getfield 72, 3) := by decide +kernel
theorem dX11_nextToken_282 : decode cX11_nextToken 282 = .ok (.iconst 1, 1) := by decide +kernel
theorem dX11_nextToken_283 : decode cX11_nextToken 283 = .ok (.iadd, 1) := by decide +kernel
theorem dX11_nextToken_284 : decode cX11_nextToken 284 = .ok (.putfield 72, 3) := by decide +kernel
theorem dX11_nextToken_287 : decode cX11_nextToken 287 = .ok (.aload_n 0, 1) := by decide +kernel
theorem dX11_nextToken_288 : decode cX11_nextToken 288 = .ok (.iload_n 1, 1) := by decide +kernel
theorem dX11_nextToken_289 : decode cX11_nextToken 289 = .ok (.bipush 59, 2) := by decide +kernel
theorem dX11_nextToken_291 : decode cX11_nextToken 291 = .ok (.if_icmp .ne 7, 3) := by decide +kernel
theorem dX11_nextToken_294 : decode cX11_nextToken 294 = .ok (.iconst 3, 1) := by decide +kernel
theorem dX11_nextToken_295 : decode cX11_nextToken 295 = .ok (.goto 4, 3) := by decide +kernel
theorem dX11_nextToken_298 : decode cX11_nextToken 298 = .ok (.iconst 4, 1) := by decide +kernel
theorem dX11_nextToken_299 : decode cX11_nextToken 299 = .ok (.putfield 82, 3) := by decide +kernel
theorem dX11_nextToken_302 : decode cX11_nextToken 302 = .ok (.return_, 1) := by decide +kernel
theorem dX11_must_0 : decode cX11_must 0 = .ok (.aload_n 0, 1) := by decide +kernel
theorem dX11_must_1 : decode cX11_must 1 = .ok (.getfield 100, 3) := by decide +kernel
theorem dX11_must_4 : decode cX11_must 4 = .ok (.ifCond .ne 20, 3) := by decide +kernel
theorem dX11_must_7 : decode cX11_must 7 = .ok (.iload_n 1, 1) := by decide +kernel
theorem dX11_must_8 : decode cX11_must 8 = .ok (.ifCond .ne 16, 3) := by decide +kernel
theorem dX11_must_11 : decode cX11_must 11 = .ok (.aload_n 0, 1) := by decide +kernel
theorem dX11_must_12 : decode cX11_must 12 = .ok (.iload_n 2, 1) := by decide +kernel
theorem dX11_must_13 : decode cX11_must 13 = .ok (.putfield 100, 3) := by decide +kernel
theorem dX11_must_16 : decode cX11_must 16 = .ok (.aload_n 0, 1) := by decide +kernel
theorem dX11_must_17 : decode cX11_must 17 = .ok (.aload_n 0, 1) := by decide +kernel
theorem dX11_must_18 : decode cX11_must 18 = .ok (.getfield 75, 3) := by decide +kernel
theorem dX11_must_21 : decode cX11_must 21 = .ok (.putfield 103, 3) := by decide +kernel
theorem dX11_must_24 : decode cX11_must 24 = .ok (.aload_n 0, 1) := by decide +kernel
theorem dX11_must_25 : decode cX11_must 25 = .ok (.getfield 100, 3) := by decide +kernel
theorem dX11_must_28 : decode cX11_must 28 = .ok (.ifCond .ne 7, 3) := by decide +kernel
theorem dX11_must_31 : decode cX11_must 31 = .ok (.iconst 1, 1) := by decide +kernel
theorem dX11_must_32 : decode cX11_must 32 = .ok (.goto 4, 3) := by decide +kernel
theorem dX11_must_35 : decode cX11_must 35 = .ok (.iconst 0, 1) := by decide +kernel
theorem dX11_must_36 : decode cX11_must 36 = .ok (.ireturn, 1) := by decide +kernel
set_option maxRecDepth 20000 in
theorem ggX11_isWord_J0_length_8abf5 : GoodIn wsX11_isWord wsJ0_length_8abf5 := goodIn_r _ [9, 10, 11, 12, 13, 8, 14, 15, 16] (by decide +kernel) (by decide +kernel)
set_option maxRecDepth 20000 in
theorem gX11_isWord_J0_length_8abf5 : GoodIn wsX11_isWord (wsV RX11 106 RJ0 yJ0_length_8abf5 wsJ0_length_8abf5) := goodIn_app (goodIn_of _ (by decide +kernel)) ggX11_isWord_J0_length_8abf5
set_option maxRecDepth 20000 in
theorem ggX11_isWord_J0_charAt_5068e : GoodIn wsX11_isWord wsJ0_charAt_5068e := goodIn_r _ [20, 10, 21, 22, 23, 8, 24, 15, 16, 25, 26, 27, 28, 29, 30, 31, 32, 33, 34, 35, 36, 37, 38, 39, 40, 41, 42, 43, 44, 45, 46, 47, 48, 49, 50, 51, 52, 53] (by decide +kernel) (by decide +kernel)
set_option maxRecDepth 20000 in
theorem gX11_isWord_J0_charAt_5068e : GoodIn wsX11_isWord (wsV RX11 111 RJ0 yJ0_charAt_5068e wsJ0_charAt_5068e) := goodIn_app (goodIn_of _ (by decide +kernel)) ggX11_isWord_J0_charAt_5068e
theorem dX11_isWord_0 : decode cX11_isWord 0 = .ok (.aload_n 0, 1) := by decide +kernel
theorem dX11_isWord_1 : decode cX11_isWord 1 = .ok (.getfield 82, 3) := by decide +kernel
theorem dX11_isWord_4 : decode cX11_isWord 4 = .ok (.iconst 1, 1) := by decide +kernel
theorem dX11_isWord_5 : decode cX11_isWord 5 = .ok (.if_icmp .ne 23, 3) := by decide +kernel
theorem dX11_isWord_8 : decode cX11_isWord 8 = .ok (.aload_n 0, 1) := by decide +kernel
theorem dX11_isWord_9 : decode cX11_isWord 9 = .ok (.getfield 72, 3) := by decide +kernel
theorem dX11_isWord_12 : decode cX11_isWord 12 = .ok (.aload_n 0, 1) := by decide +kernel
theorem dX11_isWord_13 : decode cX11_isWord 13 = .ok (.getfield 75, 3) := by decide +kernel
theorem dX11_isWord_16 : decode cX11_isWord 16 = .ok (.isub, 1) := by decide +kernel
theorem dX11_isWord_17 : decode cX11_isWord 17 = .ok (.aload_n 1, 1) := by decide +kernel
theorem dX11_isWord_18 : decode cX11_isWord 18 = .ok (.invokevirtual 106, 3) := by decide +kernel
theorem dX11_isWord_21 : decode cX11_isWord 21 = .ok (.if_icmp .ne 7, 3) := by decide +kernel
theorem dX11_isWord_24 : decode cX11_isWord 24 = .ok (.iconst 1, 1) := by decide +kernel
theorem dX11_isWord_25 : decode cX11_isWord 25 = .ok (.goto 4, 3) := by decide +kernel
theorem dX11_isWord_28 : decode cX11_isWord 28 = .ok (.iconst 0, 1) := by decide +kernel
theorem dX11_isWord_29 : decode cX11_isWord 29 = .ok (.istore_n 2, 1) := by decide +kernel
theorem dX11_isWord_30 : decode cX11_isWord 30 = .ok (.iconst 0, 1) := by decide +kernel
theorem dX11_isWord_31 : decode cX11_isWord 31 = .ok (.istore_n 3, 1) := by decide +kernel
theorem dX11_isWord_32 : decode cX11_isWord 32 = .ok (.iload_n 3, 1) := by decide +kernel
theorem dX11_isWord_33 : decode cX11_isWord 33 = .ok (.aload_n 1, 1) := by decide +kernel
theorem dX11_isWord_34 : decode cX11_isWord 34 = .ok (.invokevirtual 106, 3) := by decide +kernel
theorem dX11_isWord_37 : decode cX11_isWord 37 = .ok (.if_icmp .ge 38, 3) := by decide +kernel
theorem dX11_isWord_40 : decode cX11_isWord 40 = .ok (.iload_n 2, 1) := by decide +kernel
theorem dX11_isWord_41 : decode cX11_isWord 41 = .ok (.ifCond .eq 34, 3) := by decide +kernel
theorem dX11_isWord_44 : decode cX11_isWord 44 = .ok (.aload_n 0, 1) := by decide +kernel
theorem dX11_isWord_45 : decode cX11_isWord 45 = .ok (.getfield 7, 3) := by decide +kernel
theorem dX11_isWord_48 : decode cX11_isWord 48 = .ok (.aload_n 0, 1) := by decide +kernel
theorem dX11_isWord_49 : decode cX11_isWord 49 = .ok (.getfield 75, 3) := by decide +kernel
theorem dX11_isWord_52 : decode cX11_isWord 52 = .ok (.iload_n 3, 1) := by decide +kernel
theorem dX11_isWord_53 : decode cX11_isWord 53 = .ok (.iadd, 1) := by decide +kernel
theorem dX11_isWord_54 : decode cX11_isWord 54 = .ok (.baload, 1) := by decide +kernel
theorem dX11_isWord_55 : decode cX11_isWord 55 = .ok (.aload_n 1, 1) := by decide +kernel
theorem dX11_isWord_56 : decode cX11_isWord 56 = .ok (.iload_n 3, 1) := by decide +kernel
theorem dX11_isWord_57 : decode cX11_isWord 57 = .ok (.invokevirtual 111, 3) := by decide +kernel
theorem dX11_isWord_60 : decode cX11_isWord 60 = .ok (.if_icmp .ne 7, 3) := by decide +kernel
theorem dX11_isWord_63 : decode cX11_isWord 63 = .ok (.iconst 1, 1) := by decide +kernel
theorem dX11_isWord_64 : decode cX11_isWord 64 = .ok (.goto 4, 3) := by decide +kernel
theorem dX11_isWord_67 : decode cX11_isWord 67 = .ok (.iconst 0, 1) := by decide +kernel
theorem dX11_isWord_68 : decode cX11_isWord 68 = .ok (.istore_n 2, 1) := by decide +kernel
theorem dX11_isWord_69 : decode cX11_isWord 69 = .ok (.iinc 3 1, 3) := by decide +kernel
theorem dX11_isWord_72 : decode cX11_isWord 72 = .ok (.goto (-40), 3) := by decide +kernel
theorem dX11_isWord_75 : decode cX11_isWord 75 = .ok (.iload_n 2, 1) := by decide +kernel
theorem dX11_isWord_76 : decode cX11_isWord 76 = .ok (.ireturn, 1) := by decide +kernel
set_option maxRecDepth 20000 in
theorem ggX11_read_X11_must : GoodIn wsX11_read wsX11_must := goodIn_r _ [7, 8, 9, 10, 29, 30, 31, 32, 33, 34, 35, 36, 37, 38, 39, 40, 41, 42, 43, 44, 45, 46, 47, 48, 49, 50, 51, 52] (by decide +kernel) (by decide +kernel)
set_option maxRecDepth 20000 in
theorem gX11_read_X11_must : GoodIn wsX11_read (wsV RX11 115 RX11 yX11_must wsX11_must) := goodIn_app (goodIn_of _ (by decide +kernel)) ggX11_read_X11_must
set_option maxRecDepth 20000 in
theorem ggX11_read_X11_within : GoodIn wsX11_read wsX11_within := goodIn_r _ [13] (by decide +kernel) (by decide +kernel)
set_option maxRecDepth 20000 in
theorem gX11_read_X11_within : GoodIn wsX11_read (va_wsS RX11 89 yX11_within wsX11_within) := goodIn_app (goodIn_of _ (by decide +kernel)) ggX11_read_X11_within
set_option maxRecDepth 20000 in
theorem ggX11_read_X11_nextToken : GoodIn wsX11_read wsX11_nextToken := goodIn_r _ [17, 18, 9, 1, 19, 20, 21, 22, 2, 23, 24, 25, 6, 26, 27, 28, 11, 12, 13, 29, 30, 31, 32, 33, 34, 35, 36, 37, 38, 39, 40, 41, 42, 43, 44, 45, 46, 47, 48, 49, 50, 51, 52] (by decide +kernel) (by decide +kernel)
set_option maxRecDepth 20000 in
theorem gX11_read_X11_nextToken : GoodIn wsX11_read (wsV RX11 119 RX11 yX11_nextToken wsX11_nextToken) := goodIn_app (goodIn_of _ (by decide +kernel)) ggX11_read_X11_nextToken
theorem dX11_read_0 : decode cX11_read 0 = .ok (.aload_n 0, 1) := by decide +kernel
theorem dX11_read_1 : decode cX11_read 1 = .ok (.aload_n 0, 1) := by decide +kernel
theorem dX11_read_2 : decode cX11_read 2 = .ok (.getfield 82, 3) := by decide +kernel
theorem dX11_read_5 : decode cX11_read 5 = .ok (.iconst 2, 1) := by decide +kernel
theorem dX11_read_6 : decode cX11_read 6 = .ok (.if_icmp .ne 7, 3) := by decide +kernel
theorem dX11_read_9 : decode cX11_read 9 = .ok (.iconst 1, 1) := by decide +kernel
theorem dX11_read_10 : decode cX11_read 10 = .ok (.goto 4, 3) := by decide +kernel
theorem dX11_read_13 : decode cX11_read 13 = .ok (.iconst 0, 1) := by decide +kernel
theorem dX11_read_14 : decode cX11_read 14 = .ok (.iconst 1, 1) := by decide +kernel
theorem dX11_read_15 : decode cX11_read 15 = .ok (.invokevirtual 115, 3) := by decide +kernel
theorem dX11_read_18 : decode cX11_read 18 = .ok (.ifCond .eq 23, 3) := by decide +kernel
theorem dX11_read_21 : decode cX11_read 21 = .ok (.aload_n 0, 1) := by decide +kernel
theorem dX11_read_22 : decode cX11_read 22 = .ok (.aload_n 0, 1) := by decide +kernel
theorem dX11_read_23 : decode cX11_read 23 = .ok (.getfield 97, 3) := by decide +kernel
theorem dX11_read_26 : decode cX11_read 26 = .ok (.i2l, 1) := by decide +kernel
theorem dX11_read_27 : decode cX11_read 27 = .ok (.iload_n 1, 1) := by decide +kernel
theorem dX11_read_28 : decode cX11_read 28 = .ok (.i2l, 1) := by decide +kernel
theorem dX11_read_29 : decode cX11_read 29 = .ok (.iload_n 2, 1) := by decide +kernel
theorem dX11_read_30 : decode cX11_read 30 = .ok (.i2l, 1) := by decide +kernel
theorem dX11_read_31 : decode cX11_read 31 = .ok (.invokestatic 89, 3) := by decide +kernel
theorem dX11_read_34 : decode cX11_read 34 = .ok (.iconst 3, 1) := by decide +kernel
theorem dX11_read_35 : decode cX11_read 35 = .ok (.invokevirtual 115, 3) := by decide +kernel
theorem dX11_read_38 : decode cX11_read 38 = .ok (.ifCond .ne 5, 3) := by decide +kernel
theorem dX11_read_41 : decode cX11_read 41 = .ok (.iload_n 1, 1) := by decide +kernel
theorem dX11_read_42 : decode cX11_read 42 = .ok (.ireturn, 1) := by decide +kernel
theorem dX11_read_43 : decode cX11_read 43 = .ok (.aload_n 0, 1) := by decide +kernel
theorem dX11_read_44 : decode cX11_read 44 = .ok (.getfield 97, 3) := by decide +kernel
theorem dX11_read_47 : decode cX11_read 47 = .ok (.istore_n 3, 1) := by decide +kernel
theorem dX11_read_48 : decode cX11_read 48 = .ok (.aload_n 0, 1) := by decide +kernel
theorem dX11_read_49 : decode cX11_read 49 = .ok (.invokevirtual 119, 3) := by decide +kernel
theorem dX11_read_52 : decode cX11_read 52 = .ok (.iload_n 3, 1) := by decide +kernel
theorem dX11_read_53 : decode cX11_read 53 = .ok (.ireturn, 1) := by decide +kernel
theorem dX11_setDefaults_0 : decode cX11_setDefaults 0 = .ok (.iconst 0, 1) := by decide +kernel
theorem dX11_setDefaults_1 : decode cX11_setDefaults 1 = .ok (.istore_n 1, 1) := by decide +kernel
theorem dX11_setDefaults_2 : decode cX11_setDefaults 2 = .ok (.iload_n 1, 1) := by decide +kernel
theorem dX11_setDefaults_3 : decode cX11_setDefaults 3 = .ok (.bipush 40, 2) := by decide +kernel
theorem dX11_setDefaults_5 : decode cX11_setDefaults 5 = .ok (.if_icmp .ge 16, 3) := by decide +kernel
theorem dX11_setDefaults_8 : decode cX11_setDefaults 8 = .ok (.aload_n 0, 1) := by decide +kernel
theorem dX11_setDefaults_9 : decode cX11_setDefaults 9 = .ok (.getfield 13, 3) := by decide +kernel
theorem dX11_setDefaults_12 : decode cX11_setDefaults 12 = .ok (.iload_n 1, 1) := by decide +kernel
theorem dX11_setDefaults_13 : decode cX11_setDefaults 13 = .ok (.iconst 0, 1) := by decide +kernel
theorem dX11_setDefaults_14 : decode cX11_setDefaults 14 = .ok (.iastore, 1) := by decide +kernel
theorem dX11_setDefaults_15 : decode cX11_setDefaults 15 = .ok (.iinc 1 1, 3) := by decide +kernel
theorem dX11_setDefaults_18 : decode cX11_setDefaults 18 = .ok (.goto (-16), 3) := by decide +kernel
theorem dX11_setDefaults_21 : decode cX11_setDefaults 21 = .ok (.aload_n 0, 1) := by decide +kernel
theorem dX11_setDefaults_22 : decode cX11_setDefaults 22 = .ok (.iconst 0, 1) := by decide +kernel
theorem dX11_setDefaults_23 : decode cX11_setDefaults 23 = .ok (.putfield 122, 3) := by decide +kernel
theorem dX11_setDefaults_26 : decode cX11_setDefaults 26 = .ok (.return_, 1) := by decide +kernel
theorem dX11_takeDraft_0 : decode cX11_takeDraft 0 = .ok (.iconst 0, 1) := by decide +kernel
theorem dX11_takeDraft_1 : decode cX11_takeDraft 1 = .ok (.istore_n 1, 1) := by decide +kernel
theorem dX11_takeDraft_2 : decode cX11_takeDraft 2 = .ok (.iload_n 1, 1) := by decide +kernel
theorem dX11_takeDraft_3 : decode cX11_takeDraft 3 = .ok (.bipush 40, 2) := by decide +kernel
theorem dX11_takeDraft_5 : decode cX11_takeDraft 5 = .ok (.if_icmp .ge 21, 3) := by decide +kernel
theorem dX11_takeDraft_8 : decode cX11_takeDraft 8 = .ok (.aload_n 0, 1) := by decide +kernel
theorem dX11_takeDraft_9 : decode cX11_takeDraft 9 = .ok (.getfield 17, 3) := by decide +kernel
theorem dX11_takeDraft_12 : decode cX11_takeDraft 12 = .ok (.iload_n 1, 1) := by decide +kernel
theorem dX11_takeDraft_13 : decode cX11_takeDraft 13 = .ok (.aload_n 0, 1) := by decide +kernel
theorem dX11_takeDraft_14 : decode cX11_takeDraft 14 = .ok (.getfield 13, 3) := by decide +kernel
theorem dX11_takeDraft_17 : decode cX11_takeDraft 17 = .ok (.iload_n 1, 1) := by decide +kernel
theorem dX11_takeDraft_18 : decode cX11_takeDraft 18 = .ok (.iaload, 1) := by decide +kernel
theorem dX11_takeDraft_19 : decode cX11_takeDraft 19 = .ok (.iastore, 1) := by decide +kernel
theorem dX11_takeDraft_20 : decode cX11_takeDraft 20 = .ok (.iinc 1 1, 3) := by decide +kernel
theorem dX11_takeDraft_23 : decode cX11_takeDraft 23 = .ok (.goto (-21), 3) := by decide +kernel
theorem dX11_takeDraft_26 : decode cX11_takeDraft 26 = .ok (.iconst 0, 1) := by decide +kernel
theorem dX11_takeDraft_27 : decode cX11_takeDraft 27 = .ok (.istore_n 1, 1) := by decide +kernel
theorem dX11_takeDraft_28 : decode cX11_takeDraft 28 = .ok (.iload_n 1, 1) := by decide +kernel
theorem dX11_takeDraft_29 : decode cX11_takeDraft 29 = .ok (.bipush 8, 2) := by decide +kernel
theorem dX11_takeDraft_31 : decode cX11_takeDraft 31 = .ok (.if_icmp .ge 16, 3) := by decide +kernel
theorem dX11_takeDraft_34 : decode cX11_takeDraft 34 = .ok (.aload_n 0, 1) := by decide +kernel
theorem dX11_takeDraft_35 : decode cX11_takeDraft 35 = .ok (.getfield 20, 3) := by decide +kernel
theorem dX11_takeDraft_38 : decode cX11_takeDraft 38 = .ok (.iload_n 1, 1) := by decide +kernel
theorem dX11_takeDraft_39 : decode cX11_takeDraft 39 = .ok (.iconst 0, 1) := by decide +kernel
theorem dX11_takeDraft_40 : decode cX11_takeDraft 40 = .ok (.iastore, 1) := by decide +kernel
theorem dX11_takeDraft_41 : decode cX11_takeDraft 41 = .ok (.iinc 1 1, 3) := by decide +kernel
theorem dX11_takeDraft_44 : decode cX11_takeDraft 44 = .ok (.goto (-16), 3) := by decide +kernel
theorem dX11_takeDraft_47 : decode cX11_takeDraft 47 = .ok (.iconst 0, 1) := by decide +kernel
theorem dX11_takeDraft_48 : decode cX11_takeDraft 48 = .ok (.istore_n 1, 1) := by decide +kernel
theorem dX11_takeDraft_49 : decode cX11_takeDraft 49 = .ok (.iload_n 1, 1) := by decide +kernel
theorem dX11_takeDraft_50 : decode cX11_takeDraft 50 = .ok (.iconst 4, 1) := by decide +kernel
theorem dX11_takeDraft_51 : decode cX11_takeDraft 51 = .ok (.if_icmp .ge 26, 3) := by decide +kernel
theorem dX11_takeDraft_54 : decode cX11_takeDraft 54 = .ok (.aload_n 0, 1) := by decide +kernel
theorem dX11_takeDraft_55 : decode cX11_takeDraft 55 = .ok (.getfield 20, 3) := by decide +kernel
theorem dX11_takeDraft_58 : decode cX11_takeDraft 58 = .ok (.iconst 4, 1) := by decide +kernel
theorem dX11_takeDraft_59 : decode cX11_takeDraft 59 = .ok (.iload_n 1, 1) := by decide +kernel
theorem dX11_takeDraft_60 : decode cX11_takeDraft 60 = .ok (.iadd, 1) := by decide +kernel
theorem dX11_takeDraft_61 : decode cX11_takeDraft 61 = .ok (.aload_n 0, 1) := by decide +kernel
theorem dX11_takeDraft_62 : decode cX11_takeDraft 62 = .ok (.getfield 17, 3) := by decide +kernel
theorem dX11_takeDraft_65 : decode cX11_takeDraft 65 = .ok (.bipush 6, 2) := by decide +kernel
theorem dX11_takeDraft_67 : decode cX11_takeDraft 67 = .ok (.iload_n 1, 1) := by decide +kernel
theorem dX11_takeDraft_68 : decode cX11_takeDraft 68 = .ok (.iadd, 1) := by decide +kernel
theorem dX11_takeDraft_69 : decode cX11_takeDraft 69 = .ok (.iaload, 1) := by decide +kernel
theorem dX11_takeDraft_70 : decode cX11_takeDraft 70 = .ok (.iastore, 1) := by decide +kernel
theorem dX11_takeDraft_71 : decode cX11_takeDraft 71 = .ok (.iinc 1 1, 3) := by decide +kernel
theorem dX11_takeDraft_74 : decode cX11_takeDraft 74 = .ok (.goto (-25), 3) := by decide +kernel
theorem dX11_takeDraft_77 : decode cX11_takeDraft 77 = .ok (.aload_n 0, 1) := by decide +kernel
theorem dX11_takeDraft_78 : decode cX11_takeDraft 78 = .ok (.getfield 20, 3) := by decide +kernel
theorem dX11_takeDraft_81 : decode cX11_takeDraft 81 = .ok (.iconst 3, 1) := by decide +kernel
theorem dX11_takeDraft_82 : decode cX11_takeDraft 82 = .ok (.aload_n 0, 1) := by decide +kernel
theorem dX11_takeDraft_83 : decode cX11_takeDraft 83 = .ok (.getfield 17, 3) := by decide +kernel
theorem dX11_takeDraft_86 : decode cX11_takeDraft 86 = .ok (.iconst 3, 1) := by decide +kernel
theorem dX11_takeDraft_87 : decode cX11_takeDraft 87 = .ok (.iaload, 1) := by decide +kernel
theorem dX11_takeDraft_88 : decode cX11_takeDraft 88 = .ok (.iastore, 1) := by decide +kernel
theorem dX11_takeDraft_89 : decode cX11_takeDraft 89 = .ok (.iconst 0, 1) := by decide +kernel
theorem dX11_takeDraft_90 : decode cX11_takeDraft 90 = .ok (.istore_n 1, 1) := by decide +kernel
theorem dX11_takeDraft_91 : decode cX11_takeDraft 91 = .ok (.iload_n 1, 1) := by decide +kernel
theorem dX11_takeDraft_92 : decode cX11_takeDraft 92 = .ok (.bipush 9, 2) := by decide +kernel
theorem dX11_takeDraft_94 : decode cX11_takeDraft 94 = .ok (.if_icmp .ge 16, 3) := by decide +kernel
theorem dX11_takeDraft_97 : decode cX11_takeDraft 97 = .ok (.aload_n 0, 1) := by decide +kernel
theorem dX11_takeDraft_98 : decode cX11_takeDraft 98 = .ok (.getfield 23, 3) := by decide +kernel
theorem dX11_takeDraft_101 : decode cX11_takeDraft 101 = .ok (.iload_n 1, 1) := by decide +kernel
theorem dX11_takeDraft_102 : decode cX11_takeDraft 102 = .ok (.lconst 0, 1) := by decide +kernel
theorem dX11_takeDraft_103 : decode cX11_takeDraft 103 = .ok (.lastore, 1) := by decide +kernel
theorem dX11_takeDraft_104 : decode cX11_takeDraft 104 = .ok (.iinc 1 1, 3) := by decide +kernel
theorem dX11_takeDraft_107 : decode cX11_takeDraft 107 = .ok (.goto (-16), 3) := by decide +kernel
theorem dX11_takeDraft_110 : decode cX11_takeDraft 110 = .ok (.aload_n 0, 1) := by decide +kernel
theorem dX11_takeDraft_111 : decode cX11_takeDraft 111 = .ok (.iconst 0, 1) := by decide +kernel
theorem dX11_takeDraft_112 : decode cX11_takeDraft 112 = .ok (.putfield 125, 3) := by decide +kernel
theorem dX11_takeDraft_115 : decode cX11_takeDraft 115 = .ok (.aload_n 0, 1) := by decide +kernel
theorem dX11_takeDraft_116 : decode cX11_takeDraft 116 = .ok (.getfield 39, 3) := by decide +kernel
theorem dX11_takeDraft_119 : decode cX11_takeDraft 119 = .ok (.iconst 0, 1) := by decide +kernel
theorem dX11_takeDraft_120 : decode cX11_takeDraft 120 = .ok (.iconst 0, 1) := by decide +kernel
theorem dX11_takeDraft_121 : decode cX11_takeDraft 121 = .ok (.bastore, 1) := by decide +kernel
theorem dX11_takeDraft_122 : decode cX11_takeDraft 122 = .ok (.aload_n 0, 1) := by decide +kernel
theorem dX11_takeDraft_123 : decode cX11_takeDraft 123 = .ok (.getfield 39, 3) := by decide +kernel
theorem dX11_takeDraft_126 : decode cX11_takeDraft 126 = .ok (.iconst 1, 1) := by decide +kernel
theorem dX11_takeDraft_127 : decode cX11_takeDraft 127 = .ok (.iconst 0, 1) := by decide +kernel
theorem dX11_takeDraft_128 : decode cX11_takeDraft 128 = .ok (.bastore, 1) := by decide +kernel
theorem dX11_takeDraft_129 : decode cX11_takeDraft 129 = .ok (.return_, 1) := by decide +kernel
set_option maxRecDepth 20000 in
theorem ggX11_begins_X11_must : GoodIn wsX11_begins wsX11_must := goodIn_r _ [6, 7, 8, 9, 30, 31, 32, 33, 34, 35, 36, 37, 38, 39, 40, 41, 42, 43, 44, 45, 46, 47, 48, 49, 50, 51, 52, 53] (by decide +kernel) (by decide +kernel)
set_option maxRecDepth 20000 in
theorem gX11_begins_X11_must : GoodIn wsX11_begins (wsV RX11 115 RX11 yX11_must wsX11_must) := goodIn_app (goodIn_of _ (by decide +kernel)) ggX11_begins_X11_must
set_option maxRecDepth 20000 in
theorem ggX11_begins_X11_nextToken : GoodIn wsX11_begins wsX11_nextToken := goodIn_r _ [13, 14, 8, 15, 16, 17, 18, 19, 20, 21, 22, 23, 5, 24, 25, 26, 27, 28, 29, 30, 31, 32, 33, 34, 35, 36, 37, 38, 39, 40, 41, 42, 43, 44, 45, 46, 47, 48, 49, 50, 51, 52, 53] (by decide +kernel) (by decide +kernel)
set_option maxRecDepth 20000 in
theorem gX11_begins_X11_nextToken : GoodIn wsX11_begins (wsV RX11 119 RX11 yX11_nextToken wsX11_nextToken) := goodIn_app (goodIn_of _ (by decide +kernel)) ggX11_begins_X11_nextToken
theorem dX11_begins_0 : decode cX11_begins 0 = .ok (.aload_n 0, 1) := by decide +kernel
theorem dX11_begins_1 : decode cX11_begins 1 = .ok (.aload_n 0, 1) := by decide +kernel
theorem dX11_begins_2 : decode cX11_begins 2 = .ok (.getfield 13, 3) := by decide +kernel
theorem dX11_begins_5 : decode cX11_begins 5 = .ok (.iload_n 1, 1) := by decide +kernel
theorem dX11_begins_6 : decode cX11_begins 6 = .ok (.iaload, 1) := by decide +kernel
theorem dX11_begins_7 : decode cX11_begins 7 = .ok (.iload_n 2, 1) := by decide +kernel
theorem dX11_begins_8 : decode cX11_begins 8 = .ok (.if_icmp .ge 7, 3) := by decide +kernel
theorem dX11_begins_11 : decode cX11_begins 11 = .ok (.iconst 1, 1) := by decide +kernel
theorem dX11_begins_12 : decode cX11_begins 12 = .ok (.goto 4, 3) := by decide +kernel
theorem dX11_begins_15 : decode cX11_begins 15 = .ok (.iconst 0, 1) := by decide +kernel
theorem dX11_begins_16 : decode cX11_begins 16 = .ok (.iconst 4, 1) := by decide +kernel
theorem dX11_begins_17 : decode cX11_begins 17 = .ok (.invokevirtual 115, 3) := by decide +kernel
theorem dX11_begins_20 : decode cX11_begins 20 = .ok (.ifCond .ne 5, 3) := by decide +kernel
theorem dX11_begins_23 : decode cX11_begins 23 = .ok (.iconst 0, 1) := by decide +kernel
theorem dX11_begins_24 : decode cX11_begins 24 = .ok (.ireturn, 1) := by decide +kernel
theorem dX11_begins_25 : decode cX11_begins 25 = .ok (.aload_n 0, 1) := by decide +kernel
theorem dX11_begins_26 : decode cX11_begins 26 = .ok (.invokevirtual 119, 3) := by decide +kernel
theorem dX11_begins_29 : decode cX11_begins 29 = .ok (.iconst 1, 1) := by decide +kernel
theorem dX11_begins_30 : decode cX11_begins 30 = .ok (.ireturn, 1) := by decide +kernel
set_option maxRecDepth 20000 in
theorem ggX11_once_X11_must : GoodIn wsX11_once wsX11_must := goodIn_r _ [6, 7, 8, 9, 30, 31, 32, 33, 34, 35, 36, 37, 38, 39, 40, 41, 42, 43, 44, 45, 46, 47, 48, 49, 50, 51, 52, 53] (by decide +kernel) (by decide +kernel)
set_option maxRecDepth 20000 in
theorem gX11_once_X11_must : GoodIn wsX11_once (wsV RX11 115 RX11 yX11_must wsX11_must) := goodIn_app (goodIn_of _ (by decide +kernel)) ggX11_once_X11_must
set_option maxRecDepth 20000 in
theorem ggX11_once_X11_nextToken : GoodIn wsX11_once wsX11_nextToken := goodIn_r _ [13, 14, 8, 15, 16, 17, 18, 19, 20, 21, 22, 23, 5, 24, 25, 26, 27, 28, 29, 30, 31, 32, 33, 34, 35, 36, 37, 38, 39, 40, 41, 42, 43, 44, 45, 46, 47, 48, 49, 50, 51, 52, 53] (by decide +kernel) (by decide +kernel)
set_option maxRecDepth 20000 in
theorem gX11_once_X11_nextToken : GoodIn wsX11_once (wsV RX11 119 RX11 yX11_nextToken wsX11_nextToken) := goodIn_app (goodIn_of _ (by decide +kernel)) ggX11_once_X11_nextToken
theorem dX11_once_0 : decode cX11_once 0 = .ok (.aload_n 0, 1) := by decide +kernel
theorem dX11_once_1 : decode cX11_once 1 = .ok (.aload_n 0, 1) := by decide +kernel
theorem dX11_once_2 : decode cX11_once 2 = .ok (.getfield 122, 3) := by decide +kernel
theorem dX11_once_5 : decode cX11_once 5 = .ok (.iload_n 1, 1) := by decide +kernel
theorem dX11_once_6 : decode cX11_once 6 = .ok (.ishr, 1) := by decide +kernel
theorem dX11_once_7 : decode cX11_once 7 = .ok (.iconst 1, 1) := by decide +kernel
theorem dX11_once_8 : decode cX11_once 8 = .ok (.iand, 1) := by decide +kernel
theorem dX11_once_9 : decode cX11_once 9 = .ok (.ifCond .ne 7, 3) := by decide +kernel
theorem dX11_once_12 : decode cX11_once 12 = .ok (.iconst 1, 1) := by decide +kernel
theorem dX11_once_13 : decode cX11_once 13 = .ok (.goto 4, 3) := by decide +kernel
theorem dX11_once_16 : decode cX11_once 16 = .ok (.iconst 0, 1) := by decide +kernel
theorem dX11_once_17 : decode cX11_once 17 = .ok (.iconst 2, 1) := by decide +kernel
theorem dX11_once_18 : decode cX11_once 18 = .ok (.invokevirtual 115, 3) := by decide +kernel
theorem dX11_once_21 : decode cX11_once 21 = .ok (.ifCond .ne 5, 3) := by decide +kernel
theorem dX11_once_24 : decode cX11_once 24 = .ok (.iconst 0, 1) := by decide +kernel
theorem dX11_once_25 : decode cX11_once 25 = .ok (.ireturn, 1) := by decide +kernel
theorem dX11_once_26 : decode cX11_once 26 = .ok (.aload_n 0, 1) := by decide +kernel
theorem dX11_once_27 : decode cX11_once 27 = .ok (.dup, 1) := by decide +kernel
theorem dX11_once_28 : decode cX11_once 28 = .ok (.getfield 122, 3) := by decide +kernel
theorem dX11_once_31 : decode cX11_once 31 = .ok (.iconst 1, 1) := by decide +kernel
theorem dX11_once_32 : decode cX11_once 32 = .ok (.iload_n 1, 1) := by decide +kernel
theorem dX11_once_33 : decode cX11_once 33 = .ok (.ishl, 1) := by decide +kernel
theorem dX11_once_34 : decode cX11_once 34 = .ok (.ior, 1) := by decide +kernel
theorem dX11_once_35 : decode cX11_once 35 = .ok (.putfield 122, 3) := by decide +kernel
theorem dX11_once_38 : decode cX11_once 38 = .ok (.aload_n 0, 1) := by decide +kernel
theorem dX11_once_39 : decode cX11_once 39 = .ok (.invokevirtual 119, 3) := by decide +kernel
theorem dX11_once_42 : decode cX11_once 42 = .ok (.iconst 1, 1) := by decide +kernel
theorem dX11_once_43 : decode cX11_once 43 = .ok (.ireturn, 1) := by decide +kernel
set_option maxRecDepth 20000 in
theorem ggX11_productLine_X11_begins : GoodIn wsX11_productLine wsX11_begins := goodIn_r _ [6, 1, 7, 8, 9, 5, 10, 11, 12, 13, 14, 15, 16, 17, 18, 19, 20, 21, 22, 23, 24, 25, 26, 27, 28, 29, 30, 31, 32, 33, 38, 39, 40, 41, 42, 43, 44, 45, 46, 47, 48, 49, 50, 51, 52, 53, 54, 55, 56, 57, 58, 59, 60, 61] (by decide +kernel) (by decide +kernel)
set_option maxRecDepth 20000 in
theorem gX11_productLine_X11_begins : GoodIn wsX11_productLine (wsV RX11 128 RX11 yX11_begins wsX11_begins) := goodIn_app (goodIn_of _ (by decide +kernel)) ggX11_productLine_X11_begins
set_option maxRecDepth 20000 in
theorem ggX11_productLine_X11_read : GoodIn wsX11_productLine wsX11_read := goodIn_r _ [37, 19, 24, 7, 8, 9, 5, 10, 11, 12, 13, 31, 32, 33, 14, 15, 16, 17, 18, 20, 21, 22, 23, 25, 26, 27, 28, 29, 30, 38, 39, 40, 41, 42, 43, 44, 45, 46, 47, 48, 49, 50, 51, 52, 53, 54, 55, 56, 57, 58, 59, 60, 61] (by decide +kernel) (by decide +kernel)
set_option maxRecDepth 20000 in
theorem gX11_productLine_X11_read : GoodIn wsX11_productLine (wsV RX11 132 RX11 yX11_read wsX11_read) := goodIn_app (goodIn_of _ (by decide +kernel)) ggX11_productLine_X11_read
theorem dX11_productLine_0 : decode cX11_productLine 0 = .ok (.aload_n 0, 1) := by decide +kernel
theorem dX11_productLine_1 : decode cX11_productLine 1 = .ok (.iconst 2, 1) := by decide +kernel
theorem dX11_productLine_2 : decode cX11_productLine 2 = .ok (.bipush 6, 2) := by decide +kernel
theorem dX11_productLine_4 : decode cX11_productLine 4 = .ok (.invokevirtual 128, 3) := by decide +kernel
theorem dX11_productLine_7 : decode cX11_productLine 7 = .ok (.ifCond .ne 4, 3) := by decide +kernel
theorem dX11_productLine_10 : decode cX11_productLine 10 = .ok (.return_, 1) := by decide +kernel
theorem dX11_productLine_11 : decode cX11_productLine 11 = .ok (.aload_n 0, 1) := by decide +kernel
theorem dX11_productLine_12 : decode cX11_productLine 12 = .ok (.getfield 13, 3) := by decide +kernel
theorem dX11_productLine_15 : decode cX11_productLine 15 = .ok (.iconst 2, 1) := by decide +kernel
theorem dX11_productLine_16 : decode cX11_productLine 16 = .ok (.iaload, 1) := by decide +kernel
theorem dX11_productLine_17 : decode cX11_productLine 17 = .ok (.istore_n 1, 1) := by decide +kernel
theorem dX11_productLine_18 : decode cX11_productLine 18 = .ok (.aload_n 0, 1) := by decide +kernel
theorem dX11_productLine_19 : decode cX11_productLine 19 = .ok (.getfield 13, 3) := by decide +kernel
theorem dX11_productLine_22 : decode cX11_productLine 22 = .ok (.bipush 16, 2) := by decide +kernel
theorem dX11_productLine_24 : decode cX11_productLine 24 = .ok (.iload_n 1, 1) := by decide +kernel
theorem dX11_productLine_25 : decode cX11_productLine 25 = .ok (.iadd, 1) := by decide +kernel
theorem dX11_productLine_26 : decode cX11_productLine 26 = .ok (.aload_n 0, 1) := by decide +kernel
theorem dX11_productLine_27 : decode cX11_productLine 27 = .ok (.iconst 0, 1) := by decide +kernel
theorem dX11_productLine_28 : decode cX11_productLine 28 = .ok (.aload_n 0, 1) := by decide +kernel
theorem dX11_productLine_29 : decode cX11_productLine 29 = .ok (.getfield 13, 3) := by decide +kernel
theorem dX11_productLine_32 : decode cX11_productLine 32 = .ok (.iconst 1, 1) := by decide +kernel
theorem dX11_productLine_33 : decode cX11_productLine 33 = .ok (.iaload, 1) := by decide +kernel
theorem dX11_productLine_34 : decode cX11_productLine 34 = .ok (.iconst 1, 1) := by decide +kernel
theorem dX11_productLine_35 : decode cX11_productLine 35 = .ok (.isub, 1) := by decide +kernel
theorem dX11_productLine_36 : decode cX11_productLine 36 = .ok (.invokevirtual 132, 3) := by decide +kernel
theorem dX11_productLine_39 : decode cX11_productLine 39 = .ok (.iastore, 1) := by decide +kernel
theorem dX11_productLine_40 : decode cX11_productLine 40 = .ok (.aload_n 0, 1) := by decide +kernel
theorem dX11_productLine_41 : decode cX11_productLine 41 = .ok (.getfield 13, 3) := by decide +kernel
theorem dX11_productLine_44 : decode cX11_productLine 44 = .ok (.bipush 22, 2) := by decide +kernel
theorem dX11_productLine_46 : decode cX11_productLine 46 = .ok (.iload_n 1, 1) := by decide +kernel
theorem dX11_productLine_47 : decode cX11_productLine 47 = .ok (.iadd, 1) := by decide +kernel
theorem dX11_productLine_48 : decode cX11_productLine 48 = .ok (.aload_n 0, 1) := by decide +kernel
theorem dX11_productLine_49 : decode cX11_productLine 49 = .ok (.iconst 1, 1) := by decide +kernel
theorem dX11_productLine_50 : decode cX11_productLine 50 = .ok (.sipush 9999, 3) := by decide +kernel
theorem dX11_productLine_53 : decode cX11_productLine 53 = .ok (.invokevirtual 132, 3) := by decide +kernel
theorem dX11_productLine_56 : decode cX11_productLine 56 = .ok (.iastore, 1) := by decide +kernel
theorem dX11_productLine_57 : decode cX11_productLine 57 = .ok (.aload_n 0, 1) := by decide +kernel
theorem dX11_productLine_58 : decode cX11_productLine 58 = .ok (.getfield 13, 3) := by decide +kernel
theorem dX11_productLine_61 : decode cX11_productLine 61 = .ok (.bipush 28, 2) := by decide +kernel
theorem dX11_productLine_63 : decode cX11_productLine 63 = .ok (.iload_n 1, 1) := by decide +kernel
theorem dX11_productLine_64 : decode cX11_productLine 64 = .ok (.iadd, 1) := by decide +kernel
theorem dX11_productLine_65 : decode cX11_productLine 65 = .ok (.aload_n 0, 1) := by decide +kernel
theorem dX11_productLine_66 : decode cX11_productLine 66 = .ok (.iconst 0, 1) := by decide +kernel
theorem dX11_productLine_67 : decode cX11_productLine 67 = .ok (.bipush 99, 2) := by decide +kernel
theorem dX11_productLine_69 : decode cX11_productLine 69 = .ok (.invokevirtual 132, 3) := by decide +kernel
theorem dX11_productLine_72 : decode cX11_productLine 72 = .ok (.iastore, 1) := by decide +kernel
theorem dX11_productLine_73 : decode cX11_productLine 73 = .ok (.aload_n 0, 1) := by decide +kernel
theorem dX11_productLine_74 : decode cX11_productLine 74 = .ok (.getfield 13, 3) := by decide +kernel
theorem dX11_productLine_77 : decode cX11_productLine 77 = .ok (.bipush 34, 2) := by decide +kernel
theorem dX11_productLine_79 : decode cX11_productLine 79 = .ok (.iload_n 1, 1) := by decide +kernel
theorem dX11_productLine_80 : decode cX11_productLine 80 = .ok (.iadd, 1) := by decide +kernel
theorem dX11_productLine_81 : decode cX11_productLine 81 = .ok (.aload_n 0, 1) := by decide +kernel
theorem dX11_productLine_82 : decode cX11_productLine 82 = .ok (.aload_n 0, 1) := by decide +kernel
theorem dX11_productLine_83 : decode cX11_productLine 83 = .ok (.getfield 13, 3) := by decide +kernel
theorem dX11_productLine_86 : decode cX11_productLine 86 = .ok (.bipush 28, 2) := by decide +kernel
theorem dX11_productLine_88 : decode cX11_productLine 88 = .ok (.iload_n 1, 1) := by decide +kernel
theorem dX11_productLine_89 : decode cX11_productLine 89 = .ok (.iadd, 1) := by decide +kernel
theorem dX11_productLine_90 : decode cX11_productLine 90 = .ok (.iaload, 1) := by decide +kernel
theorem dX11_productLine_91 : decode cX11_productLine 91 = .ok (.sipush 999, 3) := by decide +kernel
theorem dX11_productLine_94 : decode cX11_productLine 94 = .ok (.invokevirtual 132, 3) := by decide +kernel
theorem dX11_productLine_97 : decode cX11_productLine 97 = .ok (.iastore, 1) := by decide +kernel
theorem dX11_productLine_98 : decode cX11_productLine 98 = .ok (.aload_n 0, 1) := by decide +kernel
theorem dX11_productLine_99 : decode cX11_productLine 99 = .ok (.getfield 13, 3) := by decide +kernel
theorem dX11_productLine_102 : decode cX11_productLine 102 = .ok (.iconst 2, 1) := by decide +kernel
theorem dX11_productLine_103 : decode cX11_productLine 103 = .ok (.dup2, 1) := by decide +kernel
theorem dX11_productLine_104 : decode cX11_productLine 104 = .ok (.iaload, 1) := by decide +kernel
theorem dX11_productLine_105 : decode cX11_productLine 105 = .ok (.iconst 1, 1) := by decide +kernel
theorem dX11_productLine_106 : decode cX11_productLine 106 = .ok (.iadd, 1) := by decide +kernel
theorem dX11_productLine_107 : decode cX11_productLine 107 = .ok (.iastore, 1) := by decide +kernel
theorem dX11_productLine_108 : decode cX11_productLine 108 = .ok (.return_, 1) := by decide +kernel
set_option maxRecDepth 20000 in
theorem ggX11_statement_X11_isWord : GoodIn wsX11_statement wsX11_isWord := goodIn_r _ [6, 7, 8, 9, 10, 11, 12, 13, 14, 15, 16, 17, 18, 19, 20, 21, 22, 23, 24, 25, 26, 27, 28, 29, 30, 31, 32, 33, 34, 35, 36, 37, 38, 39, 40, 41, 42, 43, 44, 45, 46, 47, 48, 49, 50, 51, 52, 53, 54, 55, 56, 57, 58, 59, 100, 101, 102, 103, 104, 105, 106, 107, 108, 109, 110, 111, 112, 113, 114, 115, 116, 117, 118, 119, 120, 121, 122, 123] (by decide +kernel) (by decide +kernel)
set_option maxRecDepth 20000 in
theorem gX11_statement_X11_isWord : GoodIn wsX11_statement (wsV RX11 138 RX11 yX11_isWord wsX11_isWord) := goodIn_app (goodIn_of _ (by decide +kernel)) ggX11_statement_X11_isWord
set_option maxRecDepth 20000 in
theorem ggX11_statement_X11_begins : GoodIn wsX11_statement wsX11_begins := goodIn_r _ [63, 1, 64, 65, 66, 5, 67, 68, 9, 69, 70, 71, 72, 73, 8, 7, 74, 75, 76, 77, 78, 79, 80, 81, 82, 83, 10, 84, 85, 86, 100, 101, 102, 103, 104, 105, 106, 107, 108, 109, 110, 111, 112, 113, 114, 115, 116, 117, 118, 119, 120, 121, 122, 123] (by decide +kernel) (by decide +kernel)
set_option maxRecDepth 20000 in
theorem gX11_statement_X11_begins : GoodIn wsX11_statement (wsV RX11 128 RX11 yX11_begins wsX11_begins) := goodIn_app (goodIn_of _ (by decide +kernel)) ggX11_statement_X11_begins
set_option maxRecDepth 20000 in
theorem ggX11_statement_X11_read : GoodIn wsX11_statement wsX11_read := goodIn_r _ [90, 7, 78, 64, 65, 66, 5, 67, 68, 9, 69, 84, 85, 86, 70, 71, 72, 73, 8, 74, 75, 76, 77, 79, 80, 81, 82, 83, 10, 100, 101, 102, 103, 104, 105, 106, 107, 108, 109, 110, 111, 112, 113, 114, 115, 116, 117, 118, 119, 120, 121, 122, 123] (by decide +kernel) (by decide +kernel)
set_option maxRecDepth 20000 in
theorem gX11_statement_X11_read : GoodIn wsX11_statement (wsV RX11 132 RX11 yX11_read wsX11_read) := goodIn_app (goodIn_of _ (by decide +kernel)) ggX11_statement_X11_read
set_option maxRecDepth 20000 in
theorem ggX11_statement_X11_productLine : GoodIn wsX11_statement wsX11_productLine := goodIn_r _ [94, 1, 60, 61, 62, 5, 63, 64, 65, 66, 67, 68, 9, 69, 70, 71, 72, 73, 8, 7, 74, 75, 76, 77, 78, 79, 80, 81, 82, 83, 10, 84, 85, 86, 87, 88, 89, 90, 100, 101, 102, 103, 104, 105, 106, 107, 108, 109, 110, 111, 112, 113, 114, 115, 116, 117, 118, 119, 120, 121, 122, 123] (by decide +kernel) (by decide +kernel)
set_option maxRecDepth 20000 in
theorem gX11_statement_X11_productLine : GoodIn wsX11_statement (wsV RX11 146 RX11 yX11_productLine wsX11_productLine) := goodIn_app (goodIn_of _ (by decide +kernel)) ggX11_statement_X11_productLine
set_option maxRecDepth 20000 in
theorem ggX11_statement_X11_once : GoodIn wsX11_statement wsX11_once := goodIn_r _ [98, 99, 64, 65, 66, 5, 67, 68, 9, 69, 70, 71, 72, 73, 8, 7, 74, 75, 76, 77, 78, 79, 80, 81, 82, 83, 10, 84, 85, 86, 100, 101, 102, 103, 104, 105, 106, 107, 108, 109, 110, 111, 112, 113, 114, 115, 116, 117, 118, 119, 120, 121, 122, 123] (by decide +kernel) (by decide +kernel)
set_option maxRecDepth 20000 in
theorem gX11_statement_X11_once : GoodIn wsX11_statement (wsV RX11 151 RX11 yX11_once wsX11_once) := goodIn_app (goodIn_of _ (by decide +kernel)) ggX11_statement_X11_once
set_option maxRecDepth 20000 in
theorem ggX11_statement_X11_must : GoodIn wsX11_statement wsX11_must := goodIn_r _ [67, 68, 9, 69, 100, 101, 102, 103, 104, 105, 106, 107, 108, 109, 110, 111, 112, 113, 114, 115, 116, 117, 118, 119, 120, 121, 122, 123] (by decide +kernel) (by decide +kernel)
set_option maxRecDepth 20000 in
theorem gX11_statement_X11_must : GoodIn wsX11_statement (wsV RX11 115 RX11 yX11_must wsX11_must) := goodIn_app (goodIn_of _ (by decide +kernel)) ggX11_statement_X11_must
theorem dX11_statement_0 : decode cX11_statement 0 = .ok (.aload_n 0, 1) := by decide +kernel
theorem dX11_statement_1 : decode cX11_statement 1 = .ok (.ldc 136, 2) := by decide +kernel
theorem dX11_statement_3 : decode cX11_statement 3 = .ok (.invokevirtual 138, 3) := by decide +kernel
theorem dX11_statement_6 : decode cX11_statement 6 = .ok (.ifCond .eq 48, 3) := by decide +kernel
theorem dX11_statement_9 : decode cX11_statement 9 = .ok (.aload_n 0, 1) := by decide +kernel
theorem dX11_statement_10 : decode cX11_statement 10 = .ok (.iconst 0, 1) := by decide +kernel
theorem dX11_statement_11 : decode cX11_statement 11 = .ok (.iconst 4, 1) := by decide +kernel
theorem dX11_statement_12 : decode cX11_statement 12 = .ok (.invokevirtual 128, 3) := by decide +kernel
theorem dX11_statement_15 : decode cX11_statement 15 = .ok (.ifCond .ne 4, 3) := by decide +kernel
theorem dX11_statement_18 : decode cX11_statement 18 = .ok (.return_, 1) := by decide +kernel
theorem dX11_statement_19 : decode cX11_statement 19 = .ok (.aload_n 0, 1) := by decide +kernel
theorem dX11_statement_20 : decode cX11_statement 20 = .ok (.getfield 13, 3) := by decide +kernel
theorem dX11_statement_23 : decode cX11_statement 23 = .ok (.bipush 6, 2) := by decide +kernel
theorem dX11_statement_25 : decode cX11_statement 25 = .ok (.aload_n 0, 1) := by decide +kernel
theorem dX11_statement_26 : decode cX11_statement 26 = .ok (.getfield 13, 3) := by decide +kernel
theorem dX11_statement_29 : decode cX11_statement 29 = .ok (.iconst 0, 1) := by decide +kernel
theorem dX11_statement_30 : decode cX11_statement 30 = .ok (.iaload, 1) := by decide +kernel
theorem dX11_statement_31 : decode cX11_statement 31 = .ok (.iadd, 1) := by decide +kernel
theorem dX11_statement_32 : decode cX11_statement 32 = .ok (.aload_n 0, 1) := by decide +kernel
theorem dX11_statement_33 : decode cX11_statement 33 = .ok (.iconst 1, 1) := by decide +kernel
theorem dX11_statement_34 : decode cX11_statement 34 = .ok (.sipush 9999, 3) := by decide +kernel
theorem dX11_statement_37 : decode cX11_statement 37 = .ok (.invokevirtual 132, 3) := by decide +kernel
theorem dX11_statement_40 : decode cX11_statement 40 = .ok (.iastore, 1) := by decide +kernel
theorem dX11_statement_41 : decode cX11_statement 41 = .ok (.aload_n 0, 1) := by decide +kernel
theorem dX11_statement_42 : decode cX11_statement 42 = .ok (.getfield 13, 3) := by decide +kernel
theorem dX11_statement_45 : decode cX11_statement 45 = .ok (.iconst 0, 1) := by decide +kernel
theorem dX11_statement_46 : decode cX11_statement 46 = .ok (.dup2, 1) := by decide +kernel
theorem dX11_statement_47 : decode cX11_statement 47 = .ok (.iaload, 1) := by decide +kernel
theorem dX11_statement_48 : decode cX11_statement 48 = .ok (.iconst 1, 1) := by decide +kernel
theorem dX11_statement_49 : decode cX11_statement 49 = .ok (.iadd, 1) := by decide +kernel
theorem dX11_statement_50 : decode cX11_statement 50 = .ok (.iastore, 1) := by decide +kernel
theorem dX11_statement_51 : decode cX11_statement 51 = .ok (.goto 193, 3) := by decide +kernel
theorem dX11_statement_54 : decode cX11_statement 54 = .ok (.aload_n 0, 1) := by decide +kernel
theorem dX11_statement_55 : decode cX11_statement 55 = .ok (.ldc 142, 2) := by decide +kernel
theorem dX11_statement_57 : decode cX11_statement 57 = .ok (.invokevirtual 138, 3) := by decide +kernel
theorem dX11_statement_60 : decode cX11_statement 60 = .ok (.ifCond .eq 54, 3) := by decide +kernel
theorem dX11_statement_63 : decode cX11_statement 63 = .ok (.aload_n 0, 1) := by decide +kernel
theorem dX11_statement_64 : decode cX11_statement 64 = .ok (.iconst 1, 1) := by decide +kernel
theorem dX11_statement_65 : decode cX11_statement 65 = .ok (.bipush 6, 2) := by decide +kernel
theorem dX11_statement_67 : decode cX11_statement 67 = .ok (.invokevirtual 128, 3) := by decide +kernel
theorem dX11_statement_70 : decode cX11_statement 70 = .ok (.ifCond .ne 4, 3) := by decide +kernel
theorem dX11_statement_73 : decode cX11_statement 73 = .ok (.return_, 1) := by decide +kernel
theorem dX11_statement_74 : decode cX11_statement 74 = .ok (.aload_n 0, 1) := by decide +kernel
theorem dX11_statement_75 : decode cX11_statement 75 = .ok (.getfield 13, 3) := by decide +kernel
theorem dX11_statement_78 : decode cX11_statement 78 = .ok (.bipush 10, 2) := by decide +kernel
theorem dX11_statement_80 : decode cX11_statement 80 = .ok (.aload_n 0, 1) := by decide +kernel
theorem dX11_statement_81 : decode cX11_statement 81 = .ok (.getfield 13, 3) := by decide +kernel
theorem dX11_statement_84 : decode cX11_statement 84 = .ok (.iconst 1, 1) := by decide +kernel
theorem dX11_statement_85 : decode cX11_statement 85 = .ok (.iaload, 1) := by decide +kernel
theorem dX11_statement_86 : decode cX11_statement 86 = .ok (.iadd, 1) := by decide +kernel
theorem dX11_statement_87 : decode cX11_statement 87 = .ok (.aload_n 0, 1) := by decide +kernel
theorem dX11_statement_88 : decode cX11_statement 88 = .ok (.iconst 0, 1) := by decide +kernel
theorem dX11_statement_89 : decode cX11_statement 89 = .ok (.aload_n 0, 1) := by decide +kernel
theorem dX11_statement_90 : decode cX11_statement 90 = .ok (.getfield 13, 3) := by decide +kernel
theorem dX11_statement_93 : decode cX11_statement 93 = .ok (.iconst 0, 1) := by decide +kernel
theorem dX11_statement_94 : decode cX11_statement 94 = .ok (.iaload, 1) := by decide +kernel
theorem dX11_statement_95 : decode cX11_statement 95 = .ok (.iconst 1, 1) := by decide +kernel
theorem dX11_statement_96 : decode cX11_statement 96 = .ok (.isub, 1) := by decide +kernel
theorem dX11_statement_97 : decode cX11_statement 97 = .ok (.invokevirtual 132, 3) := by decide +kernel
theorem dX11_statement_100 : decode cX11_statement 100 = .ok (.iastore, 1) := by decide +kernel
theorem dX11_statement_101 : decode cX11_statement 101 = .ok (.aload_n 0, 1) := by decide +kernel
theorem dX11_statement_102 : decode cX11_statement 102 = .ok (.getfield 13, 3) := by decide +kernel
theorem dX11_statement_105 : decode cX11_statement 105 = .ok (.iconst 1, 1) := by decide +kernel
theorem dX11_statement_106 : decode cX11_statement 106 = .ok (.dup2, 1) := by decide +kernel
theorem dX11_statement_107 : decode cX11_statement 107 = .ok (.iaload, 1) := by decide +kernel
theorem dX11_statement_108 : decode cX11_statement 108 = .ok (.iconst 1, 1) := by decide +kernel
theorem dX11_statement_109 : decode cX11_statement 109 = .ok (.iadd, 1) := by decide +kernel
theorem dX11_statement_110 : decode cX11_statement 110 = .ok (.iastore, 1) := by decide +kernel
theorem dX11_statement_111 : decode cX11_statement 111 = .ok (.goto 133, 3) := by decide +kernel
theorem dX11_statement_114 : decode cX11_statement 114 = .ok (.aload_n 0, 1) := by decide +kernel
theorem dX11_statement_115 : decode cX11_statement 115 = .ok (.ldc 144, 2) := by decide +kernel
theorem dX11_statement_117 : decode cX11_statement 117 = .ok (.invokevirtual 138, 3) := by decide +kernel
theorem dX11_statement_120 : decode cX11_statement 120 = .ok (.ifCond .eq 10, 3) := by decide +kernel
theorem dX11_statement_123 : decode cX11_statement 123 = .ok (.aload_n 0, 1) := by decide +kernel
theorem dX11_statement_124 : decode cX11_statement 124 = .ok (.invokevirtual 146, 3) := by decide +kernel
theorem dX11_statement_127 : decode cX11_statement 127 = .ok (.goto 117, 3) := by decide +kernel
theorem dX11_statement_130 : decode cX11_statement 130 = .ok (.aload_n 0, 1) := by decide +kernel
theorem dX11_statement_131 : decode cX11_statement 131 = .ok (.ldc 149, 2) := by decide +kernel
theorem dX11_statement_133 : decode cX11_statement 133 = .ok (.invokevirtual 138, 3) := by decide +kernel
theorem dX11_statement_136 : decode cX11_statement 136 = .ok (.ifCond .eq 28, 3) := by decide +kernel
theorem dX11_statement_139 : decode cX11_statement 139 = .ok (.aload_n 0, 1) := by decide +kernel
theorem dX11_statement_140 : decode cX11_statement 140 = .ok (.iconst 0, 1) := by decide +kernel
theorem dX11_statement_141 : decode cX11_statement 141 = .ok (.invokevirtual 151, 3) := by decide +kernel
theorem dX11_statement_144 : decode cX11_statement 144 = .ok (.ifCond .eq 100, 3) := by decide +kernel
theorem dX11_statement_147 : decode cX11_statement 147 = .ok (.aload_n 0, 1) := by decide +kernel
theorem dX11_statement_148 : decode cX11_statement 148 = .ok (.getfield 13, 3) := by decide +kernel
theorem dX11_statement_151 : decode cX11_statement 151 = .ok (.iconst 3, 1) := by decide +kernel
theorem dX11_statement_152 : decode cX11_statement 152 = .ok (.aload_n 0, 1) := by decide +kernel
theorem dX11_statement_153 : decode cX11_statement 153 = .ok (.iconst 0, 1) := by decide +kernel
theorem dX11_statement_154 : decode cX11_statement 154 = .ok (.sipush 9999, 3) := by decide +kernel
theorem dX11_statement_157 : decode cX11_statement 157 = .ok (.invokevirtual 132, 3) := by decide +kernel
theorem dX11_statement_160 : decode cX11_statement 160 = .ok (.iastore, 1) := by decide +kernel
theorem dX11_statement_161 : decode cX11_statement 161 = .ok (.goto 83, 3) := by decide +kernel
theorem dX11_statement_164 : decode cX11_statement 164 = .ok (.aload_n 0, 1) := by decide +kernel
theorem dX11_statement_165 : decode cX11_statement 165 = .ok (.ldc 155, 2) := by decide +kernel
theorem dX11_statement_167 : decode cX11_statement 167 = .ok (.invokevirtual 138, 3) := by decide +kernel
theorem dX11_statement_170 : decode cX11_statement 170 = .ok (.ifCond .eq 33, 3) := by decide +kernel
theorem dX11_statement_173 : decode cX11_statement 173 = .ok (.aload_n 0, 1) := by decide +kernel
theorem dX11_statement_174 : decode cX11_statement 174 = .ok (.iconst 1, 1) := by decide +kernel
theorem dX11_statement_175 : decode cX11_statement 175 = .ok (.invokevirtual 151, 3) := by decide +kernel
theorem dX11_statement_178 : decode cX11_statement 178 = .ok (.ifCond .eq 66, 3) := by decide +kernel
theorem dX11_statement_181 : decode cX11_statement 181 = .ok (.aload_n 0, 1) := by decide +kernel
theorem dX11_statement_182 : decode cX11_statement 182 = .ok (.getfield 13, 3) := by decide +kernel
theorem dX11_statement_185 : decode cX11_statement 185 = .ok (.iconst 4, 1) := by decide +kernel
theorem dX11_statement_186 : decode cX11_statement 186 = .ok (.aload_n 0, 1) := by decide +kernel
theorem dX11_statement_187 : decode cX11_statement 187 = .ok (.iconst 0, 1) := by decide +kernel
theorem dX11_statement_188 : decode cX11_statement 188 = .ok (.aload_n 0, 1) := by decide +kernel
theorem dX11_statement_189 : decode cX11_statement 189 = .ok (.getfield 13, 3) := by decide +kernel
theorem dX11_statement_192 : decode cX11_statement 192 = .ok (.iconst 1, 1) := by decide +kernel
theorem dX11_statement_193 : decode cX11_statement 193 = .ok (.iaload, 1) := by decide +kernel
theorem dX11_statement_194 : decode cX11_statement 194 = .ok (.iconst 1, 1) := by decide +kernel
theorem dX11_statement_195 : decode cX11_statement 195 = .ok (.isub, 1) := by decide +kernel
theorem dX11_statement_196 : decode cX11_statement 196 = .ok (.invokevirtual 132, 3) := by decide +kernel
theorem dX11_statement_199 : decode cX11_statement 199 = .ok (.iastore, 1) := by decide +kernel
theorem dX11_statement_200 : decode cX11_statement 200 = .ok (.goto 44, 3) := by decide +kernel
theorem dX11_statement_203 : decode cX11_statement 203 = .ok (.aload_n 0, 1) := by decide +kernel
theorem dX11_statement_204 : decode cX11_statement 204 = .ok (.ldc 157, 2) := by decide +kernel
theorem dX11_statement_206 : decode cX11_statement 206 = .ok (.invokevirtual 138, 3) := by decide +kernel
theorem dX11_statement_209 : decode cX11_statement 209 = .ok (.ifCond .eq 28, 3) := by decide +kernel
theorem dX11_statement_212 : decode cX11_statement 212 = .ok (.aload_n 0, 1) := by decide +kernel
theorem dX11_statement_213 : decode cX11_statement 213 = .ok (.iconst 2, 1) := by decide +kernel
theorem dX11_statement_214 : decode cX11_statement 214 = .ok (.invokevirtual 151, 3) := by decide +kernel
theorem dX11_statement_217 : decode cX11_statement 217 = .ok (.ifCond .eq 27, 3) := by decide +kernel
theorem dX11_statement_220 : decode cX11_statement 220 = .ok (.aload_n 0, 1) := by decide +kernel
theorem dX11_statement_221 : decode cX11_statement 221 = .ok (.getfield 13, 3) := by decide +kernel
theorem dX11_statement_224 : decode cX11_statement 224 = .ok (.iconst 5, 1) := by decide +kernel
theorem dX11_statement_225 : decode cX11_statement 225 = .ok (.aload_n 0, 1) := by decide +kernel
theorem dX11_statement_226 : decode cX11_statement 226 = .ok (.iconst 0, 1) := by decide +kernel
theorem dX11_statement_227 : decode cX11_statement 227 = .ok (.sipush 9999, 3) := by decide +kernel
theorem dX11_statement_230 : decode cX11_statement 230 = .ok (.invokevirtual 132, 3) := by decide +kernel
theorem dX11_statement_233 : decode cX11_statement 233 = .ok (.iastore, 1) := by decide +kernel
theorem dX11_statement_234 : decode cX11_statement 234 = .ok (.goto 10, 3) := by decide +kernel
theorem dX11_statement_237 : decode cX11_statement 237 = .ok (.aload_n 0, 1) := by decide +kernel
theorem dX11_statement_238 : decode cX11_statement 238 = .ok (.iconst 0, 1) := by decide +kernel
theorem dX11_statement_239 : decode cX11_statement 239 = .ok (.iconst 1, 1) := by decide +kernel
theorem dX11_statement_240 : decode cX11_statement 240 = .ok (.invokevirtual 115, 3) := by decide +kernel
theorem dX11_statement_243 : decode cX11_statement 243 = .ok (.pop, 1) := by decide +kernel
theorem dX11_statement_244 : decode cX11_statement 244 = .ok (.return_, 1) := by decide +kernel
set_option maxRecDepth 20000 in
theorem ggX11_parse_X11_within : GoodIn wsX11_parse wsX11_within := goodIn_r _ [12] (by decide +kernel) (by decide +kernel)
set_option maxRecDepth 20000 in
theorem gX11_parse_X11_within : GoodIn wsX11_parse (va_wsS RX11 89 yX11_within wsX11_within) := goodIn_app (goodIn_of _ (by decide +kernel)) ggX11_parse_X11_within
set_option maxRecDepth 20000 in
theorem ggX11_parse_X11_fail : GoodIn wsX11_parse wsX11_fail := goodIn_r _ [16, 1, 123, 124, 125, 126, 127, 128, 129, 130, 131, 132, 133, 134, 135, 136, 137, 138, 139, 140, 141, 142, 143, 144, 145, 146] (by decide +kernel) (by decide +kernel)
set_option maxRecDepth 20000 in
theorem gX11_parse_X11_fail : GoodIn wsX11_parse (wsV RX11 159 RX11 yX11_fail wsX11_fail) := goodIn_app (goodIn_of _ (by decide +kernel)) ggX11_parse_X11_fail
set_option maxRecDepth 20000 in
theorem ggX11_parse_X11_setDefaults : GoodIn wsX11_parse wsX11_setDefaults := goodIn_r _ [20, 21, 22, 123, 124, 125, 126, 127, 128, 129, 130, 131, 132, 133, 134, 135, 136, 137, 138, 139, 140, 141, 142, 143, 144, 145, 146] (by decide +kernel) (by decide +kernel)
set_option maxRecDepth 20000 in
theorem gX11_parse_X11_setDefaults : GoodIn wsX11_parse (wsV RX11 52 RX11 yX11_setDefaults wsX11_setDefaults) := goodIn_app (goodIn_of _ (by decide +kernel)) ggX11_parse_X11_setDefaults
set_option maxRecDepth 20000 in
theorem ggX11_parse_X11_nextToken : GoodIn wsX11_parse wsX11_nextToken := goodIn_r _ [26, 4, 27, 6, 28, 29, 30, 31, 32, 33, 34, 35, 11, 36, 3, 37, 9, 10, 12, 123, 124, 125, 126, 127, 128, 129, 130, 131, 132, 133, 134, 135, 136, 137, 138, 139, 140, 141, 142, 143, 144, 145, 146] (by decide +kernel) (by decide +kernel)
set_option maxRecDepth 20000 in
theorem gX11_parse_X11_nextToken : GoodIn wsX11_parse (wsV RX11 119 RX11 yX11_nextToken wsX11_nextToken) := goodIn_app (goodIn_of _ (by decide +kernel)) ggX11_parse_X11_nextToken
set_option maxRecDepth 20000 in
theorem ggX11_parse_X11_statement : GoodIn wsX11_parse wsX11_statement := goodIn_r _ [41, 21, 42, 43, 44, 11, 45, 6, 4, 27, 37, 46, 47, 48, 49, 50, 51, 52, 53, 54, 55, 56, 57, 58, 59, 60, 61, 62, 63, 64, 65, 66, 67, 68, 69, 70, 71, 72, 73, 74, 75, 76, 77, 78, 79, 80, 81, 82, 83, 84, 85, 86, 87, 88, 89, 90, 91, 92, 93, 94, 95, 96, 97, 98, 99, 100, 101, 102, 5, 7, 23, 24, 25, 26, 28, 29, 30, 31, 32, 33, 34, 35, 36, 3, 9, 10, 12, 103, 104, 105, 106, 107, 108, 109, 110, 111, 112, 113, 114, 22, 123, 124, 125, 126, 127, 128, 129, 130, 131, 132, 133, 134, 135, 136, 137, 138, 139, 140, 141, 142, 143, 144, 145, 146] (by decide +kernel) (by decide +kernel)
set_option maxRecDepth 20000 in
theorem gX11_parse_X11_statement : GoodIn wsX11_parse (wsV RX11 162 RX11 yX11_statement wsX11_statement) := goodIn_app (goodIn_of _ (by decide +kernel)) ggX11_parse_X11_statement
set_option maxRecDepth 20000 in
theorem ggX11_parse_X11_must : GoodIn wsX11_parse wsX11_must := goodIn_r _ [102, 5, 27, 7, 123, 124, 125, 126, 127, 128, 129, 130, 131, 132, 133, 134, 135, 136, 137, 138, 139, 140, 141, 142, 143, 144, 145, 146] (by decide +kernel) (by decide +kernel)
set_option maxRecDepth 20000 in
theorem gX11_parse_X11_must : GoodIn wsX11_parse (wsV RX11 115 RX11 yX11_must wsX11_must) := goodIn_app (goodIn_of _ (by decide +kernel)) ggX11_parse_X11_must
set_option maxRecDepth 20000 in
theorem ggX11_parse_X11_takeDraft : GoodIn wsX11_parse wsX11_takeDraft := goodIn_r _ [118, 8, 21, 119, 120, 121, 122, 123, 124, 125, 126, 127, 128, 129, 130, 131, 132, 133, 134, 135, 136, 137, 138, 139, 140, 141, 142, 143, 144, 145, 146] (by decide +kernel) (by decide +kernel)
set_option maxRecDepth 20000 in
theorem gX11_parse_X11_takeDraft : GoodIn wsX11_parse (wsV RX11 55 RX11 yX11_takeDraft wsX11_takeDraft) := goodIn_app (goodIn_of _ (by decide +kernel)) ggX11_parse_X11_takeDraft
theorem dX11_parse_0 : decode cX11_parse 0 = .ok (.aload_n 0, 1) := by decide +kernel
theorem dX11_parse_1 : decode cX11_parse 1 = .ok (.iconst 0, 1) := by decide +kernel
theorem dX11_parse_2 : decode cX11_parse 2 = .ok (.putfield 58, 3) := by decide +kernel
theorem dX11_parse_5 : decode cX11_parse 5 = .ok (.iload_n 1, 1) := by decide +kernel
theorem dX11_parse_6 : decode cX11_parse 6 = .ok (.i2l, 1) := by decide +kernel
theorem dX11_parse_7 : decode cX11_parse 7 = .ok (.lconst 0, 1) := by decide +kernel
theorem dX11_parse_8 : decode cX11_parse 8 = .ok (.aload_n 0, 1) := by decide +kernel
theorem dX11_parse_9 : decode cX11_parse 9 = .ok (.getfield 62, 3) := by decide +kernel
theorem dX11_parse_12 : decode cX11_parse 12 = .ok (.i2l, 1) := by decide +kernel
theorem dX11_parse_13 : decode cX11_parse 13 = .ok (.invokestatic 89, 3) := by decide +kernel
theorem dX11_parse_16 : decode cX11_parse 16 = .ok (.ifCond .ne 9, 3) := by decide +kernel
theorem dX11_parse_19 : decode cX11_parse 19 = .ok (.aload_n 0, 1) := by decide +kernel
theorem dX11_parse_20 : decode cX11_parse 20 = .ok (.iconst 1, 1) := by decide +kernel
theorem dX11_parse_21 : decode cX11_parse 21 = .ok (.invokevirtual 159, 3) := by decide +kernel
theorem dX11_parse_24 : decode cX11_parse 24 = .ok (.ireturn, 1) := by decide +kernel
theorem dX11_parse_25 : decode cX11_parse 25 = .ok (.aload_n 0, 1) := by decide +kernel
theorem dX11_parse_26 : decode cX11_parse 26 = .ok (.iload_n 1, 1) := by decide +kernel
theorem dX11_parse_27 : decode cX11_parse 27 = .ok (.putfield 69, 3) := by decide +kernel
theorem dX11_parse_30 : decode cX11_parse 30 = .ok (.aload_n 0, 1) := by decide +kernel
theorem dX11_parse_31 : decode cX11_parse 31 = .ok (.iconst 0, 1) := by decide +kernel
theorem dX11_parse_32 : decode cX11_parse 32 = .ok (.putfield 62, 3) := by decide +kernel
theorem dX11_parse_35 : decode cX11_parse 35 = .ok (.aload_n 0, 1) := by decide +kernel
theorem dX11_parse_36 : decode cX11_parse 36 = .ok (.iconst 0, 1) := by decide +kernel
theorem dX11_parse_37 : decode cX11_parse 37 = .ok (.putfield 72, 3) := by decide +kernel
theorem dX11_parse_40 : decode cX11_parse 40 = .ok (.aload_n 0, 1) := by decide +kernel
theorem dX11_parse_41 : decode cX11_parse 41 = .ok (.iconst 0, 1) := by decide +kernel
theorem dX11_parse_42 : decode cX11_parse 42 = .ok (.putfield 100, 3) := by decide +kernel
theorem dX11_parse_45 : decode cX11_parse 45 = .ok (.aload_n 0, 1) := by decide +kernel
theorem dX11_parse_46 : decode cX11_parse 46 = .ok (.invokevirtual 52, 3) := by decide +kernel
theorem dX11_parse_49 : decode cX11_parse 49 = .ok (.aload_n 0, 1) := by decide +kernel
theorem dX11_parse_50 : decode cX11_parse 50 = .ok (.invokevirtual 119, 3) := by decide +kernel
theorem dX11_parse_53 : decode cX11_parse 53 = .ok (.aload_n 0, 1) := by decide +kernel
theorem dX11_parse_54 : decode cX11_parse 54 = .ok (.getfield 100, 3) := by decide +kernel
theorem dX11_parse_57 : decode cX11_parse 57 = .ok (.ifCond .ne 42, 3) := by decide +kernel
theorem dX11_parse_60 : decode cX11_parse 60 = .ok (.aload_n 0, 1) := by decide +kernel
theorem dX11_parse_61 : decode cX11_parse 61 = .ok (.getfield 82, 3) := by decide +kernel
theorem dX11_parse_64 : decode cX11_parse 64 = .ok (.ifCond .eq 35, 3) := by decide +kernel
theorem dX11_parse_67 : decode cX11_parse 67 = .ok (.aload_n 0, 1) := by decide +kernel
theorem dX11_parse_68 : decode cX11_parse 68 = .ok (.invokevirtual 162, 3) := by decide +kernel
theorem dX11_parse_71 : decode cX11_parse 71 = .ok (.aload_n 0, 1) := by decide +kernel
theorem dX11_parse_72 : decode cX11_parse 72 = .ok (.aload_n 0, 1) := by decide +kernel
theorem dX11_parse_73 : decode cX11_parse 73 = .ok (.getfield 82, 3) := by decide +kernel
theorem dX11_parse_76 : decode cX11_parse 76 = .ok (.iconst 3, 1) := by decide +kernel
theorem dX11_parse_77 : decode cX11_parse 77 = .ok (.if_icmp .ne 7, 3) := by decide +kernel
theorem dX11_parse_80 : decode cX11_parse 80 = .ok (.iconst 1, 1) := by decide +kernel
theorem dX11_parse_81 : decode cX11_parse 81 = .ok (.goto 4, 3) := by decide +kernel
theorem dX11_parse_84 : decode cX11_parse 84 = .ok (.iconst 0, 1) := by decide +kernel
theorem dX11_parse_85 : decode cX11_parse 85 = .ok (.iconst 1, 1) := by decide +kernel
theorem dX11_parse_86 : decode cX11_parse 86 = .ok (.invokevirtual 115, 3) := by decide +kernel
theorem dX11_parse_89 : decode cX11_parse 89 = .ok (.ifCond .eq (-36), 3) := by decide +kernel
theorem dX11_parse_92 : decode cX11_parse 92 = .ok (.aload_n 0, 1) := by decide +kernel
theorem dX11_parse_93 : decode cX11_parse 93 = .ok (.invokevirtual 119, 3) := by decide +kernel
theorem dX11_parse_96 : decode cX11_parse 96 = .ok (.goto (-43), 3) := by decide +kernel
theorem dX11_parse_99 : decode cX11_parse 99 = .ok (.aload_n 0, 1) := by decide +kernel
theorem dX11_parse_100 : decode cX11_parse 100 = .ok (.getfield 100, 3) := by decide +kernel
theorem dX11_parse_103 : decode cX11_parse 103 = .ok (.ifCond .eq 19, 3) := by decide +kernel
theorem dX11_parse_106 : decode cX11_parse 106 = .ok (.bipush (-2), 2) := by decide +kernel
theorem dX11_parse_108 : decode cX11_parse 108 = .ok (.bipush 8, 2) := by decide +kernel
theorem dX11_parse_110 : decode cX11_parse 110 = .ok (.aload_n 0, 1) := by decide +kernel
theorem dX11_parse_111 : decode cX11_parse 111 = .ok (.getfield 103, 3) := by decide +kernel
theorem dX11_parse_114 : decode cX11_parse 114 = .ok (.imul, 1) := by decide +kernel
theorem dX11_parse_115 : decode cX11_parse 115 = .ok (.aload_n 0, 1) := by decide +kernel
theorem dX11_parse_116 : decode cX11_parse 116 = .ok (.getfield 100, 3) := by decide +kernel
theorem dX11_parse_119 : decode cX11_parse 119 = .ok (.iadd, 1) := by decide +kernel
theorem dX11_parse_120 : decode cX11_parse 120 = .ok (.isub, 1) := by decide +kernel
theorem dX11_parse_121 : decode cX11_parse 121 = .ok (.ireturn, 1) := by decide +kernel
theorem dX11_parse_122 : decode cX11_parse 122 = .ok (.aload_n 0, 1) := by decide +kernel
theorem dX11_parse_123 : decode cX11_parse 123 = .ok (.invokevirtual 55, 3) := by decide +kernel
theorem dX11_parse_126 : decode cX11_parse 126 = .ok (.aload_n 0, 1) := by decide +kernel
theorem dX11_parse_127 : decode cX11_parse 127 = .ok (.getfield 17, 3) := by decide +kernel
theorem dX11_parse_130 : decode cX11_parse 130 = .ok (.iconst 1, 1) := by decide +kernel
theorem dX11_parse_131 : decode cX11_parse 131 = .ok (.iaload, 1) := by decide +kernel
theorem dX11_parse_132 : decode cX11_parse 132 = .ok (.ireturn, 1) := by decide +kernel
theorem dX11_copy_0 : decode cX11_copy 0 = .ok (.iconst 0, 1) := by decide +kernel
theorem dX11_copy_1 : decode cX11_copy 1 = .ok (.istore 6, 2) := by decide +kernel
theorem dX11_copy_3 : decode cX11_copy 3 = .ok (.iload 6, 2) := by decide +kernel
theorem dX11_copy_5 : decode cX11_copy 5 = .ok (.sipush 1508, 3) := by decide +kernel
theorem dX11_copy_8 : decode cX11_copy 8 = .ok (.if_icmp .ge 30, 3) := by decide +kernel
theorem dX11_copy_11 : decode cX11_copy 11 = .ok (.aload_n 3, 1) := by decide +kernel
theorem dX11_copy_12 : decode cX11_copy 12 = .ok (.sipush 1508, 3) := by decide +kernel
theorem dX11_copy_15 : decode cX11_copy 15 = .ok (.iload 5, 2) := by decide +kernel
theorem dX11_copy_17 : decode cX11_copy 17 = .ok (.imul, 1) := by decide +kernel
theorem dX11_copy_18 : decode cX11_copy 18 = .ok (.iload 6, 2) := by decide +kernel
theorem dX11_copy_20 : decode cX11_copy 20 = .ok (.iadd, 1) := by decide +kernel
theorem dX11_copy_21 : decode cX11_copy 21 = .ok (.aload_n 0, 1) := by decide +kernel
theorem dX11_copy_22 : decode cX11_copy 22 = .ok (.sipush 1508, 3) := by decide +kernel
theorem dX11_copy_25 : decode cX11_copy 25 = .ok (.iload_n 2, 1) := by decide +kernel
theorem dX11_copy_26 : decode cX11_copy 26 = .ok (.imul, 1) := by decide +kernel
theorem dX11_copy_27 : decode cX11_copy 27 = .ok (.iload 6, 2) := by decide +kernel
theorem dX11_copy_29 : decode cX11_copy 29 = .ok (.iadd, 1) := by decide +kernel
theorem dX11_copy_30 : decode cX11_copy 30 = .ok (.iaload, 1) := by decide +kernel
theorem dX11_copy_31 : decode cX11_copy 31 = .ok (.iastore, 1) := by decide +kernel
theorem dX11_copy_32 : decode cX11_copy 32 = .ok (.iinc 6 1, 3) := by decide +kernel
theorem dX11_copy_35 : decode cX11_copy 35 = .ok (.goto (-32), 3) := by decide +kernel
theorem dX11_copy_38 : decode cX11_copy 38 = .ok (.iconst 0, 1) := by decide +kernel
theorem dX11_copy_39 : decode cX11_copy 39 = .ok (.istore 6, 2) := by decide +kernel
theorem dX11_copy_41 : decode cX11_copy 41 = .ok (.iload 6, 2) := by decide +kernel
theorem dX11_copy_43 : decode cX11_copy 43 = .ok (.sipush 309, 3) := by decide +kernel
theorem dX11_copy_46 : decode cX11_copy 46 = .ok (.if_icmp .ge 31, 3) := by decide +kernel
theorem dX11_copy_49 : decode cX11_copy 49 = .ok (.aload 4, 2) := by decide +kernel
theorem dX11_copy_51 : decode cX11_copy 51 = .ok (.sipush 309, 3) := by decide +kernel
theorem dX11_copy_54 : decode cX11_copy 54 = .ok (.iload 5, 2) := by decide +kernel
theorem dX11_copy_56 : decode cX11_copy 56 = .ok (.imul, 1) := by decide +kernel
theorem dX11_copy_57 : decode cX11_copy 57 = .ok (.iload 6, 2) := by decide +kernel
theorem dX11_copy_59 : decode cX11_copy 59 = .ok (.iadd, 1) := by decide +kernel
theorem dX11_copy_60 : decode cX11_copy 60 = .ok (.aload_n 1, 1) := by decide +kernel
theorem dX11_copy_61 : decode cX11_copy 61 = .ok (.sipush 309, 3) := by decide +kernel
theorem dX11_copy_64 : decode cX11_copy 64 = .ok (.iload_n 2, 1) := by decide +kernel
theorem dX11_copy_65 : decode cX11_copy 65 = .ok (.imul, 1) := by decide +kernel
theorem dX11_copy_66 : decode cX11_copy 66 = .ok (.iload 6, 2) := by decide +kernel
theorem dX11_copy_68 : decode cX11_copy 68 = .ok (.iadd, 1) := by decide +kernel
theorem dX11_copy_69 : decode cX11_copy 69 = .ok (.laload, 1) := by decide +kernel
theorem dX11_copy_70 : decode cX11_copy 70 = .ok (.lastore, 1) := by decide +kernel
theorem dX11_copy_71 : decode cX11_copy 71 = .ok (.iinc 6 1, 3) := by decide +kernel
theorem dX11_copy_74 : decode cX11_copy 74 = .ok (.goto (-33), 3) := by decide +kernel
theorem dX11_copy_77 : decode cX11_copy 77 = .ok (.return_, 1) := by decide +kernel
set_option maxRecDepth 20000 in
theorem ggX11_keep_X11_copy : GoodIn wsX11_keep wsX11_copy := goodIn_r _ [9] (by decide +kernel) (by decide +kernel)
set_option maxRecDepth 20000 in
theorem gX11_keep_X11_copy : GoodIn wsX11_keep (va_wsS RX11 165 yX11_copy wsX11_copy) := goodIn_app (goodIn_of _ (by decide +kernel)) ggX11_keep_X11_copy
theorem dX11_keep_0 : decode cX11_keep 0 = .ok (.aload_n 0, 1) := by decide +kernel
theorem dX11_keep_1 : decode cX11_keep 1 = .ok (.getfield 125, 3) := by decide +kernel
theorem dX11_keep_4 : decode cX11_keep 4 = .ok (.bipush 10, 2) := by decide +kernel
theorem dX11_keep_6 : decode cX11_keep 6 = .ok (.if_icmp .ne 50, 3) := by decide +kernel
theorem dX11_keep_9 : decode cX11_keep 9 = .ok (.iconst 1, 1) := by decide +kernel
theorem dX11_keep_10 : decode cX11_keep 10 = .ok (.istore_n 1, 1) := by decide +kernel
theorem dX11_keep_11 : decode cX11_keep 11 = .ok (.iload_n 1, 1) := by decide +kernel
theorem dX11_keep_12 : decode cX11_keep 12 = .ok (.bipush 10, 2) := by decide +kernel
theorem dX11_keep_14 : decode cX11_keep 14 = .ok (.if_icmp .ge 32, 3) := by decide +kernel
theorem dX11_keep_17 : decode cX11_keep 17 = .ok (.aload_n 0, 1) := by decide +kernel
theorem dX11_keep_18 : decode cX11_keep 18 = .ok (.getfield 27, 3) := by decide +kernel
theorem dX11_keep_21 : decode cX11_keep 21 = .ok (.aload_n 0, 1) := by decide +kernel
theorem dX11_keep_22 : decode cX11_keep 22 = .ok (.getfield 30, 3) := by decide +kernel
theorem dX11_keep_25 : decode cX11_keep 25 = .ok (.iload_n 1, 1) := by decide +kernel
theorem dX11_keep_26 : decode cX11_keep 26 = .ok (.aload_n 0, 1) := by decide +kernel
theorem dX11_keep_27 : decode cX11_keep 27 = .ok (.getfield 27, 3) := by decide +kernel
theorem dX11_keep_30 : decode cX11_keep 30 = .ok (.aload_n 0, 1) := by decide +kernel
theorem dX11_keep_31 : decode cX11_keep 31 = .ok (.getfield 30, 3) := by decide +kernel
theorem dX11_keep_34 : decode cX11_keep 34 = .ok (.iload_n 1, 1) := by decide +kernel
theorem dX11_keep_35 : decode cX11_keep 35 = .ok (.iconst 1, 1) := by decide +kernel
theorem dX11_keep_36 : decode cX11_keep 36 = .ok (.isub, 1) := by decide +kernel
theorem dX11_keep_37 : decode cX11_keep 37 = .ok (.invokestatic 165, 3) := by decide +kernel
theorem dX11_keep_40 : decode cX11_keep 40 = .ok (.iinc 1 1, 3) := by decide +kernel
theorem dX11_keep_43 : decode cX11_keep 43 = .ok (.goto (-32), 3) := by decide +kernel
theorem dX11_keep_46 : decode cX11_keep 46 = .ok (.aload_n 0, 1) := by decide +kernel
theorem dX11_keep_47 : decode cX11_keep 47 = .ok (.dup, 1) := by decide +kernel
theorem dX11_keep_48 : decode cX11_keep 48 = .ok (.getfield 125, 3) := by decide +kernel
theorem dX11_keep_51 : decode cX11_keep 51 = .ok (.iconst 1, 1) := by decide +kernel
theorem dX11_keep_52 : decode cX11_keep 52 = .ok (.isub, 1) := by decide +kernel
theorem dX11_keep_53 : decode cX11_keep 53 = .ok (.putfield 125, 3) := by decide +kernel
theorem dX11_keep_56 : decode cX11_keep 56 = .ok (.aload_n 0, 1) := by decide +kernel
theorem dX11_keep_57 : decode cX11_keep 57 = .ok (.getfield 20, 3) := by decide +kernel
theorem dX11_keep_60 : decode cX11_keep 60 = .ok (.aload_n 0, 1) := by decide +kernel
theorem dX11_keep_61 : decode cX11_keep 61 = .ok (.getfield 23, 3) := by decide +kernel
theorem dX11_keep_64 : decode cX11_keep 64 = .ok (.iconst 0, 1) := by decide +kernel
theorem dX11_keep_65 : decode cX11_keep 65 = .ok (.aload_n 0, 1) := by decide +kernel
theorem dX11_keep_66 : decode cX11_keep 66 = .ok (.getfield 27, 3) := by decide +kernel
theorem dX11_keep_69 : decode cX11_keep 69 = .ok (.aload_n 0, 1) := by decide +kernel
theorem dX11_keep_70 : decode cX11_keep 70 = .ok (.getfield 30, 3) := by decide +kernel
theorem dX11_keep_73 : decode cX11_keep 73 = .ok (.aload_n 0, 1) := by decide +kernel
