theorem dX11_keep_74 : decode cX11_keep 74 = .ok (.getfield 125, 3) := by decide +kernel
theorem dX11_keep_77 : decode cX11_keep 77 = .ok (.invokestatic 165, 3) := by decide +kernel
theorem dX11_keep_80 : decode cX11_keep 80 = .ok (.aload_n 0, 1) := by decide +kernel
theorem dX11_keep_81 : decode cX11_keep 81 = .ok (.dup, 1) := by decide +kernel
theorem dX11_keep_82 : decode cX11_keep 82 = .ok (.getfield 125, 3) := by decide +kernel
theorem dX11_keep_85 : decode cX11_keep 85 = .ok (.iconst 1, 1) := by decide +kernel
theorem dX11_keep_86 : decode cX11_keep 86 = .ok (.iadd, 1) := by decide +kernel
theorem dX11_keep_87 : decode cX11_keep 87 = .ok (.putfield 125, 3) := by decide +kernel
theorem dX11_keep_90 : decode cX11_keep 90 = .ok (.return_, 1) := by decide +kernel
set_option maxRecDepth 20000 in
theorem ggX11_isCompany_X11_within : GoodIn wsX11_isCompany wsX11_within := goodIn_r _ [5] (by decide +kernel) (by decide +kernel)
set_option maxRecDepth 20000 in
theorem gX11_isCompany_X11_within : GoodIn wsX11_isCompany (va_wsS RX11 89 yX11_within wsX11_within) := goodIn_app (goodIn_of _ (by decide +kernel)) ggX11_isCompany_X11_within
theorem dX11_isCompany_0 : decode cX11_isCompany 0 = .ok (.iload_n 1, 1) := by decide +kernel
theorem dX11_isCompany_1 : decode cX11_isCompany 1 = .ok (.i2l, 1) := by decide +kernel
theorem dX11_isCompany_2 : decode cX11_isCompany 2 = .ok (.lconst 0, 1) := by decide +kernel
theorem dX11_isCompany_3 : decode cX11_isCompany 3 = .ok (.aload_n 0, 1) := by decide +kernel
theorem dX11_isCompany_4 : decode cX11_isCompany 4 = .ok (.getfield 17, 3) := by decide +kernel
theorem dX11_isCompany_7 : decode cX11_isCompany 7 = .ok (.iconst 1, 1) := by decide +kernel
theorem dX11_isCompany_8 : decode cX11_isCompany 8 = .ok (.iaload, 1) := by decide +kernel
theorem dX11_isCompany_9 : decode cX11_isCompany 9 = .ok (.iconst 1, 1) := by decide +kernel
theorem dX11_isCompany_10 : decode cX11_isCompany 10 = .ok (.isub, 1) := by decide +kernel
theorem dX11_isCompany_11 : decode cX11_isCompany 11 = .ok (.i2l, 1) := by decide +kernel
theorem dX11_isCompany_12 : decode cX11_isCompany 12 = .ok (.invokestatic 89, 3) := by decide +kernel
theorem dX11_isCompany_15 : decode cX11_isCompany 15 = .ok (.ireturn, 1) := by decide +kernel
set_option maxRecDepth 20000 in
theorem ggX11_isProduct_X11_within : GoodIn wsX11_isProduct wsX11_within := goodIn_r _ [5] (by decide +kernel) (by decide +kernel)
set_option maxRecDepth 20000 in
theorem gX11_isProduct_X11_within : GoodIn wsX11_isProduct (va_wsS RX11 89 yX11_within wsX11_within) := goodIn_app (goodIn_of _ (by decide +kernel)) ggX11_isProduct_X11_within
theorem dX11_isProduct_0 : decode cX11_isProduct 0 = .ok (.iload_n 1, 1) := by decide +kernel
theorem dX11_isProduct_1 : decode cX11_isProduct 1 = .ok (.i2l, 1) := by decide +kernel
theorem dX11_isProduct_2 : decode cX11_isProduct 2 = .ok (.lconst 0, 1) := by decide +kernel
theorem dX11_isProduct_3 : decode cX11_isProduct 3 = .ok (.aload_n 0, 1) := by decide +kernel
theorem dX11_isProduct_4 : decode cX11_isProduct 4 = .ok (.getfield 17, 3) := by decide +kernel
theorem dX11_isProduct_7 : decode cX11_isProduct 7 = .ok (.iconst 2, 1) := by decide +kernel
theorem dX11_isProduct_8 : decode cX11_isProduct 8 = .ok (.iaload, 1) := by decide +kernel
theorem dX11_isProduct_9 : decode cX11_isProduct 9 = .ok (.iconst 1, 1) := by decide +kernel
theorem dX11_isProduct_10 : decode cX11_isProduct 10 = .ok (.isub, 1) := by decide +kernel
theorem dX11_isProduct_11 : decode cX11_isProduct 11 = .ok (.i2l, 1) := by decide +kernel
theorem dX11_isProduct_12 : decode cX11_isProduct 12 = .ok (.invokestatic 89, 3) := by decide +kernel
theorem dX11_isProduct_15 : decode cX11_isProduct 15 = .ok (.ireturn, 1) := by decide +kernel
set_option maxRecDepth 20000 in
theorem ggX11_isItem_X11_within : GoodIn wsX11_isItem wsX11_within := goodIn_r _ [5] (by decide +kernel) (by decide +kernel)
set_option maxRecDepth 20000 in
theorem gX11_isItem_X11_within : GoodIn wsX11_isItem (va_wsS RX11 89 yX11_within wsX11_within) := goodIn_app (goodIn_of _ (by decide +kernel)) ggX11_isItem_X11_within
theorem dX11_isItem_0 : decode cX11_isItem 0 = .ok (.iload_n 1, 1) := by decide +kernel
theorem dX11_isItem_1 : decode cX11_isItem 1 = .ok (.i2l, 1) := by decide +kernel
theorem dX11_isItem_2 : decode cX11_isItem 2 = .ok (.lconst 0, 1) := by decide +kernel
theorem dX11_isItem_3 : decode cX11_isItem 3 = .ok (.aload_n 0, 1) := by decide +kernel
theorem dX11_isItem_4 : decode cX11_isItem 4 = .ok (.getfield 20, 3) := by decide +kernel
theorem dX11_isItem_7 : decode cX11_isItem 7 = .ok (.iconst 0, 1) := by decide +kernel
theorem dX11_isItem_8 : decode cX11_isItem 8 = .ok (.iaload, 1) := by decide +kernel
theorem dX11_isItem_9 : decode cX11_isItem 9 = .ok (.iconst 1, 1) := by decide +kernel
theorem dX11_isItem_10 : decode cX11_isItem 10 = .ok (.isub, 1) := by decide +kernel
theorem dX11_isItem_11 : decode cX11_isItem 11 = .ok (.i2l, 1) := by decide +kernel
theorem dX11_isItem_12 : decode cX11_isItem 12 = .ok (.invokestatic 89, 3) := by decide +kernel
theorem dX11_isItem_15 : decode cX11_isItem 15 = .ok (.ireturn, 1) := by decide +kernel
theorem dX11_of_0 : decode cX11_of 0 = .ok (.aload_n 0, 1) := by decide +kernel
theorem dX11_of_1 : decode cX11_of 1 = .ok (.getfield 20, 3) := by decide +kernel
theorem dX11_of_4 : decode cX11_of 4 = .ok (.bipush 8, 2) := by decide +kernel
theorem dX11_of_6 : decode cX11_of 6 = .ok (.bipush 6, 2) := by decide +kernel
theorem dX11_of_8 : decode cX11_of 8 = .ok (.iload_n 1, 1) := by decide +kernel
theorem dX11_of_9 : decode cX11_of 9 = .ok (.imul, 1) := by decide +kernel
theorem dX11_of_10 : decode cX11_of 10 = .ok (.iadd, 1) := by decide +kernel
theorem dX11_of_11 : decode cX11_of 11 = .ok (.iload_n 2, 1) := by decide +kernel
theorem dX11_of_12 : decode cX11_of 12 = .ok (.iadd, 1) := by decide +kernel
theorem dX11_of_13 : decode cX11_of 13 = .ok (.iaload, 1) := by decide +kernel
theorem dX11_of_14 : decode cX11_of 14 = .ok (.ireturn, 1) := by decide +kernel
theorem dX11_put_0 : decode cX11_put 0 = .ok (.aload_n 0, 1) := by decide +kernel
theorem dX11_put_1 : decode cX11_put 1 = .ok (.getfield 20, 3) := by decide +kernel
theorem dX11_put_4 : decode cX11_put 4 = .ok (.bipush 8, 2) := by decide +kernel
theorem dX11_put_6 : decode cX11_put 6 = .ok (.bipush 6, 2) := by decide +kernel
theorem dX11_put_8 : decode cX11_put 8 = .ok (.iload_n 1, 1) := by decide +kernel
theorem dX11_put_9 : decode cX11_put 9 = .ok (.imul, 1) := by decide +kernel
theorem dX11_put_10 : decode cX11_put 10 = .ok (.iadd, 1) := by decide +kernel
theorem dX11_put_11 : decode cX11_put 11 = .ok (.iload_n 2, 1) := by decide +kernel
theorem dX11_put_12 : decode cX11_put 12 = .ok (.iadd, 1) := by decide +kernel
theorem dX11_put_13 : decode cX11_put 13 = .ok (.iload_n 3, 1) := by decide +kernel
theorem dX11_put_14 : decode cX11_put 14 = .ok (.iastore, 1) := by decide +kernel
theorem dX11_put_15 : decode cX11_put 15 = .ok (.return_, 1) := by decide +kernel
set_option maxRecDepth 20000 in
theorem ggX11_rateOf_X11_of : GoodIn wsX11_rateOf wsX11_of := goodIn_r _ [7, 1, 8, 9, 10, 11, 12, 13, 14, 15, 16, 17, 18, 19, 20, 21, 22, 23, 24, 25, 26, 27, 28, 29, 30, 31] (by decide +kernel) (by decide +kernel)
set_option maxRecDepth 20000 in
theorem gX11_rateOf_X11_of : GoodIn wsX11_rateOf (wsV RX11 169 RX11 yX11_of wsX11_of) := goodIn_app (goodIn_of _ (by decide +kernel)) ggX11_rateOf_X11_of
theorem dX11_rateOf_0 : decode cX11_rateOf 0 = .ok (.aload_n 0, 1) := by decide +kernel
theorem dX11_rateOf_1 : decode cX11_rateOf 1 = .ok (.getfield 20, 3) := by decide +kernel
theorem dX11_rateOf_4 : decode cX11_rateOf 4 = .ok (.iconst 4, 1) := by decide +kernel
theorem dX11_rateOf_5 : decode cX11_rateOf 5 = .ok (.aload_n 0, 1) := by decide +kernel
theorem dX11_rateOf_6 : decode cX11_rateOf 6 = .ok (.getfield 17, 3) := by decide +kernel
theorem dX11_rateOf_9 : decode cX11_rateOf 9 = .ok (.bipush 10, 2) := by decide +kernel
theorem dX11_rateOf_11 : decode cX11_rateOf 11 = .ok (.aload_n 0, 1) := by decide +kernel
theorem dX11_rateOf_12 : decode cX11_rateOf 12 = .ok (.iload_n 1, 1) := by decide +kernel
theorem dX11_rateOf_13 : decode cX11_rateOf 13 = .ok (.iconst 0, 1) := by decide +kernel
theorem dX11_rateOf_14 : decode cX11_rateOf 14 = .ok (.invokevirtual 169, 3) := by decide +kernel
theorem dX11_rateOf_17 : decode cX11_rateOf 17 = .ok (.iadd, 1) := by decide +kernel
theorem dX11_rateOf_18 : decode cX11_rateOf 18 = .ok (.iaload, 1) := by decide +kernel
theorem dX11_rateOf_19 : decode cX11_rateOf 19 = .ok (.iadd, 1) := by decide +kernel
theorem dX11_rateOf_20 : decode cX11_rateOf 20 = .ok (.iaload, 1) := by decide +kernel
theorem dX11_rateOf_21 : decode cX11_rateOf 21 = .ok (.ireturn, 1) := by decide +kernel
set_option maxRecDepth 20000 in
theorem ggX11_valueOf_X11_of : GoodIn wsX11_valueOf wsX11_of := goodIn_r _ [7, 8, 14, 15, 16, 17, 18, 19, 20, 21, 22, 23, 24, 25, 26, 27, 28, 29, 30, 31, 32, 33, 34, 35, 36, 37] (by decide +kernel) (by decide +kernel)
set_option maxRecDepth 20000 in
theorem gX11_valueOf_X11_of : GoodIn wsX11_valueOf (wsV RX11 169 RX11 yX11_of wsX11_of) := goodIn_app (goodIn_of _ (by decide +kernel)) ggX11_valueOf_X11_of
set_option maxRecDepth 20000 in
theorem ggX11_valueOf_X11_rateOf : GoodIn wsX11_valueOf wsX11_rateOf := goodIn_r _ [12, 8, 13, 3, 4, 5, 6, 7, 14, 15, 16, 17, 18, 19, 20, 21, 22, 23, 24, 25, 26, 27, 28, 29, 30, 31, 32, 33, 34, 35, 36, 37] (by decide +kernel) (by decide +kernel)
set_option maxRecDepth 20000 in
theorem gX11_valueOf_X11_rateOf : GoodIn wsX11_valueOf (wsV RX11 172 RX11 yX11_rateOf wsX11_rateOf) := goodIn_app (goodIn_of _ (by decide +kernel)) ggX11_valueOf_X11_rateOf
theorem dX11_valueOf_0 : decode cX11_valueOf 0 = .ok (.aload_n 0, 1) := by decide +kernel
theorem dX11_valueOf_1 : decode cX11_valueOf 1 = .ok (.iload_n 1, 1) := by decide +kernel
theorem dX11_valueOf_2 : decode cX11_valueOf 2 = .ok (.iconst 4, 1) := by decide +kernel
theorem dX11_valueOf_3 : decode cX11_valueOf 3 = .ok (.invokevirtual 169, 3) := by decide +kernel
theorem dX11_valueOf_6 : decode cX11_valueOf 6 = .ok (.iconst 4, 1) := by decide +kernel
theorem dX11_valueOf_7 : decode cX11_valueOf 7 = .ok (.if_icmp .ne 5, 3) := by decide +kernel
theorem dX11_valueOf_10 : decode cX11_valueOf 10 = .ok (.lconst 0, 1) := by decide +kernel
theorem dX11_valueOf_11 : decode cX11_valueOf 11 = .ok (.lreturn, 1) := by decide +kernel
theorem dX11_valueOf_12 : decode cX11_valueOf 12 = .ok (.aload_n 0, 1) := by decide +kernel
theorem dX11_valueOf_13 : decode cX11_valueOf 13 = .ok (.iload_n 1, 1) := by decide +kernel
theorem dX11_valueOf_14 : decode cX11_valueOf 14 = .ok (.iconst 4, 1) := by decide +kernel
theorem dX11_valueOf_15 : decode cX11_valueOf 15 = .ok (.invokevirtual 169, 3) := by decide +kernel
theorem dX11_valueOf_18 : decode cX11_valueOf 18 = .ok (.iconst 3, 1) := by decide +kernel
theorem dX11_valueOf_19 : decode cX11_valueOf 19 = .ok (.if_icmp .ne 16, 3) := by decide +kernel
theorem dX11_valueOf_22 : decode cX11_valueOf 22 = .ok (.aload_n 0, 1) := by decide +kernel
theorem dX11_valueOf_23 : decode cX11_valueOf 23 = .ok (.getfield 23, 3) := by decide +kernel
theorem dX11_valueOf_26 : decode cX11_valueOf 26 = .ok (.sipush 209, 3) := by decide +kernel
theorem dX11_valueOf_29 : decode cX11_valueOf 29 = .ok (.iload_n 1, 1) := by decide +kernel
theorem dX11_valueOf_30 : decode cX11_valueOf 30 = .ok (.iadd, 1) := by decide +kernel
theorem dX11_valueOf_31 : decode cX11_valueOf 31 = .ok (.laload, 1) := by decide +kernel
theorem dX11_valueOf_32 : decode cX11_valueOf 32 = .ok (.goto 23, 3) := by decide +kernel
theorem dX11_valueOf_35 : decode cX11_valueOf 35 = .ok (.aload_n 0, 1) := by decide +kernel
theorem dX11_valueOf_36 : decode cX11_valueOf 36 = .ok (.getfield 23, 3) := by decide +kernel
theorem dX11_valueOf_39 : decode cX11_valueOf 39 = .ok (.bipush 9, 2) := by decide +kernel
theorem dX11_valueOf_41 : decode cX11_valueOf 41 = .ok (.iload_n 1, 1) := by decide +kernel
theorem dX11_valueOf_42 : decode cX11_valueOf 42 = .ok (.iadd, 1) := by decide +kernel
theorem dX11_valueOf_43 : decode cX11_valueOf 43 = .ok (.laload, 1) := by decide +kernel
theorem dX11_valueOf_44 : decode cX11_valueOf 44 = .ok (.aload_n 0, 1) := by decide +kernel
theorem dX11_valueOf_45 : decode cX11_valueOf 45 = .ok (.iload_n 1, 1) := by decide +kernel
theorem dX11_valueOf_46 : decode cX11_valueOf 46 = .ok (.invokevirtual 172, 3) := by decide +kernel
theorem dX11_valueOf_49 : decode cX11_valueOf 49 = .ok (.i2l, 1) := by decide +kernel
theorem dX11_valueOf_50 : decode cX11_valueOf 50 = .ok (.lmul, 1) := by decide +kernel
theorem dX11_valueOf_51 : decode cX11_valueOf 51 = .ok (.ldc2_w 175, 3) := by decide +kernel
theorem dX11_valueOf_54 : decode cX11_valueOf 54 = .ok (.ldiv, 1) := by decide +kernel
theorem dX11_valueOf_55 : decode cX11_valueOf 55 = .ok (.lreturn, 1) := by decide +kernel
set_option maxRecDepth 20000 in
theorem ggX11_is_X11_of : GoodIn wsX11_is wsX11_of := goodIn_r _ [5, 6, 7, 8, 9, 10, 11, 12, 13, 14, 15, 16, 17, 18, 19, 20, 21, 22, 23, 24, 25, 26, 27, 28, 29, 30] (by decide +kernel) (by decide +kernel)
set_option maxRecDepth 20000 in
theorem gX11_is_X11_of : GoodIn wsX11_is (wsV RX11 169 RX11 yX11_of wsX11_of) := goodIn_app (goodIn_of _ (by decide +kernel)) ggX11_is_X11_of
theorem dX11_is_0 : decode cX11_is 0 = .ok (.aload_n 0, 1) := by decide +kernel
theorem dX11_is_1 : decode cX11_is 1 = .ok (.iload_n 1, 1) := by decide +kernel
theorem dX11_is_2 : decode cX11_is 2 = .ok (.iconst 2, 1) := by decide +kernel
theorem dX11_is_3 : decode cX11_is 3 = .ok (.invokevirtual 169, 3) := by decide +kernel
theorem dX11_is_6 : decode cX11_is 6 = .ok (.iload_n 2, 1) := by decide +kernel
theorem dX11_is_7 : decode cX11_is 7 = .ok (.if_icmp .ne 17, 3) := by decide +kernel
theorem dX11_is_10 : decode cX11_is 10 = .ok (.aload_n 0, 1) := by decide +kernel
theorem dX11_is_11 : decode cX11_is 11 = .ok (.iload_n 1, 1) := by decide +kernel
theorem dX11_is_12 : decode cX11_is 12 = .ok (.iconst 4, 1) := by decide +kernel
theorem dX11_is_13 : decode cX11_is 13 = .ok (.invokevirtual 169, 3) := by decide +kernel
theorem dX11_is_16 : decode cX11_is 16 = .ok (.iload_n 3, 1) := by decide +kernel
theorem dX11_is_17 : decode cX11_is 17 = .ok (.if_icmp .ne 7, 3) := by decide +kernel
theorem dX11_is_20 : decode cX11_is 20 = .ok (.iconst 1, 1) := by decide +kernel
theorem dX11_is_21 : decode cX11_is 21 = .ok (.goto 4, 3) := by decide +kernel
theorem dX11_is_24 : decode cX11_is 24 = .ok (.iconst 0, 1) := by decide +kernel
theorem dX11_is_25 : decode cX11_is 25 = .ok (.ireturn, 1) := by decide +kernel
set_option maxRecDepth 20000 in
theorem ggX11_size_X11_fail : GoodIn wsX11_size wsX11_fail := goodIn_r _ [8, 1, 9, 10, 11, 12, 13, 14, 15, 16, 17, 18, 19, 20, 21, 22, 23, 24, 25, 26, 27, 28, 29, 30, 31, 32] (by decide +kernel) (by decide +kernel)
set_option maxRecDepth 20000 in
theorem gX11_size_X11_fail : GoodIn wsX11_size (wsV RX11 159 RX11 yX11_fail wsX11_fail) := goodIn_app (goodIn_of _ (by decide +kernel)) ggX11_size_X11_fail
theorem dX11_size_0 : decode cX11_size 0 = .ok (.aload_n 0, 1) := by decide +kernel
theorem dX11_size_1 : decode cX11_size 1 = .ok (.iconst 0, 1) := by decide +kernel
theorem dX11_size_2 : decode cX11_size 2 = .ok (.putfield 58, 3) := by decide +kernel
theorem dX11_size_5 : decode cX11_size 5 = .ok (.iload_n 1, 1) := by decide +kernel
theorem dX11_size_6 : decode cX11_size 6 = .ok (.tableswitch 69 0 4 #[34, 41, 48, 55, 62], 34) := by decide +kernel
theorem dX11_size_40 : decode cX11_size 40 = .ok (.aload_n 0, 1) := by decide +kernel
theorem dX11_size_41 : decode cX11_size 41 = .ok (.getfield 17, 3) := by decide +kernel
theorem dX11_size_44 : decode cX11_size 44 = .ok (.iconst 0, 1) := by decide +kernel
theorem dX11_size_45 : decode cX11_size 45 = .ok (.iaload, 1) := by decide +kernel
theorem dX11_size_46 : decode cX11_size 46 = .ok (.ireturn, 1) := by decide +kernel
theorem dX11_size_47 : decode cX11_size 47 = .ok (.aload_n 0, 1) := by decide +kernel
theorem dX11_size_48 : decode cX11_size 48 = .ok (.getfield 17, 3) := by decide +kernel
theorem dX11_size_51 : decode cX11_size 51 = .ok (.iconst 1, 1) := by decide +kernel
theorem dX11_size_52 : decode cX11_size 52 = .ok (.iaload, 1) := by decide +kernel
theorem dX11_size_53 : decode cX11_size 53 = .ok (.ireturn, 1) := by decide +kernel
theorem dX11_size_54 : decode cX11_size 54 = .ok (.aload_n 0, 1) := by decide +kernel
theorem dX11_size_55 : decode cX11_size 55 = .ok (.getfield 17, 3) := by decide +kernel
theorem dX11_size_58 : decode cX11_size 58 = .ok (.iconst 2, 1) := by decide +kernel
theorem dX11_size_59 : decode cX11_size 59 = .ok (.iaload, 1) := by decide +kernel
theorem dX11_size_60 : decode cX11_size 60 = .ok (.ireturn, 1) := by decide +kernel
theorem dX11_size_61 : decode cX11_size 61 = .ok (.aload_n 0, 1) := by decide +kernel
theorem dX11_size_62 : decode cX11_size 62 = .ok (.getfield 20, 3) := by decide +kernel
theorem dX11_size_65 : decode cX11_size 65 = .ok (.iconst 0, 1) := by decide +kernel
theorem dX11_size_66 : decode cX11_size 66 = .ok (.iaload, 1) := by decide +kernel
theorem dX11_size_67 : decode cX11_size 67 = .ok (.ireturn, 1) := by decide +kernel
theorem dX11_size_68 : decode cX11_size 68 = .ok (.aload_n 0, 1) := by decide +kernel
theorem dX11_size_69 : decode cX11_size 69 = .ok (.getfield 20, 3) := by decide +kernel
theorem dX11_size_72 : decode cX11_size 72 = .ok (.iconst 2, 1) := by decide +kernel
theorem dX11_size_73 : decode cX11_size 73 = .ok (.iaload, 1) := by decide +kernel
theorem dX11_size_74 : decode cX11_size 74 = .ok (.ireturn, 1) := by decide +kernel
theorem dX11_size_75 : decode cX11_size 75 = .ok (.aload_n 0, 1) := by decide +kernel
theorem dX11_size_76 : decode cX11_size 76 = .ok (.iconst 1, 1) := by decide +kernel
theorem dX11_size_77 : decode cX11_size 77 = .ok (.invokevirtual 159, 3) := by decide +kernel
theorem dX11_size_80 : decode cX11_size 80 = .ok (.ireturn, 1) := by decide +kernel
set_option maxRecDepth 20000 in
theorem ggX11_rate_X11_within : GoodIn wsX11_rate wsX11_within := goodIn_r _ [7] (by decide +kernel) (by decide +kernel)
set_option maxRecDepth 20000 in
theorem gX11_rate_X11_within : GoodIn wsX11_rate (va_wsS RX11 89 yX11_within wsX11_within) := goodIn_app (goodIn_of _ (by decide +kernel)) ggX11_rate_X11_within
set_option maxRecDepth 20000 in
theorem ggX11_rate_X11_fail : GoodIn wsX11_rate wsX11_fail := goodIn_r _ [11, 1, 12, 13, 14, 15, 16, 17, 18, 19, 20, 21, 22, 23, 24, 25, 26, 27, 28, 29, 30, 31, 32, 33, 34, 35] (by decide +kernel) (by decide +kernel)
set_option maxRecDepth 20000 in
theorem gX11_rate_X11_fail : GoodIn wsX11_rate (wsV RX11 159 RX11 yX11_fail wsX11_fail) := goodIn_app (goodIn_of _ (by decide +kernel)) ggX11_rate_X11_fail
theorem dX11_rate_0 : decode cX11_rate 0 = .ok (.aload_n 0, 1) := by decide +kernel
theorem dX11_rate_1 : decode cX11_rate 1 = .ok (.iconst 0, 1) := by decide +kernel
theorem dX11_rate_2 : decode cX11_rate 2 = .ok (.putfield 58, 3) := by decide +kernel
theorem dX11_rate_5 : decode cX11_rate 5 = .ok (.iload_n 1, 1) := by decide +kernel
theorem dX11_rate_6 : decode cX11_rate 6 = .ok (.i2l, 1) := by decide +kernel
theorem dX11_rate_7 : decode cX11_rate 7 = .ok (.lconst 0, 1) := by decide +kernel
theorem dX11_rate_8 : decode cX11_rate 8 = .ok (.aload_n 0, 1) := by decide +kernel
theorem dX11_rate_9 : decode cX11_rate 9 = .ok (.getfield 17, 3) := by decide +kernel
theorem dX11_rate_12 : decode cX11_rate 12 = .ok (.iconst 0, 1) := by decide +kernel
theorem dX11_rate_13 : decode cX11_rate 13 = .ok (.iaload, 1) := by decide +kernel
theorem dX11_rate_14 : decode cX11_rate 14 = .ok (.iconst 1, 1) := by decide +kernel
theorem dX11_rate_15 : decode cX11_rate 15 = .ok (.isub, 1) := by decide +kernel
theorem dX11_rate_16 : decode cX11_rate 16 = .ok (.i2l, 1) := by decide +kernel
theorem dX11_rate_17 : decode cX11_rate 17 = .ok (.invokestatic 89, 3) := by decide +kernel
theorem dX11_rate_20 : decode cX11_rate 20 = .ok (.ifCond .eq 14, 3) := by decide +kernel
theorem dX11_rate_23 : decode cX11_rate 23 = .ok (.aload_n 0, 1) := by decide +kernel
theorem dX11_rate_24 : decode cX11_rate 24 = .ok (.getfield 20, 3) := by decide +kernel
theorem dX11_rate_27 : decode cX11_rate 27 = .ok (.iconst 4, 1) := by decide +kernel
theorem dX11_rate_28 : decode cX11_rate 28 = .ok (.iload_n 1, 1) := by decide +kernel
theorem dX11_rate_29 : decode cX11_rate 29 = .ok (.iadd, 1) := by decide +kernel
theorem dX11_rate_30 : decode cX11_rate 30 = .ok (.iaload, 1) := by decide +kernel
theorem dX11_rate_31 : decode cX11_rate 31 = .ok (.goto 8, 3) := by decide +kernel
theorem dX11_rate_34 : decode cX11_rate 34 = .ok (.aload_n 0, 1) := by decide +kernel
theorem dX11_rate_35 : decode cX11_rate 35 = .ok (.iconst 1, 1) := by decide +kernel
theorem dX11_rate_36 : decode cX11_rate 36 = .ok (.invokevirtual 159, 3) := by decide +kernel
theorem dX11_rate_39 : decode cX11_rate 39 = .ok (.ireturn, 1) := by decide +kernel
set_option maxRecDepth 20000 in
theorem ggX11_currencyOf_X11_isCompany : GoodIn wsX11_currencyOf wsX11_isCompany := goodIn_r _ [7, 2, 8, 9, 6, 10, 15, 16, 17, 18, 19, 20, 21, 22, 23, 24, 25, 26, 27, 28, 29, 30, 31, 32, 33, 34, 35, 36, 37, 38] (by decide +kernel) (by decide +kernel)
set_option maxRecDepth 20000 in
theorem gX11_currencyOf_X11_isCompany : GoodIn wsX11_currencyOf (wsV RX11 177 RX11 yX11_isCompany wsX11_isCompany) := goodIn_app (goodIn_of _ (by decide +kernel)) ggX11_currencyOf_X11_isCompany
set_option maxRecDepth 20000 in
theorem ggX11_currencyOf_X11_fail : GoodIn wsX11_currencyOf wsX11_fail := goodIn_r _ [14, 1, 15, 16, 17, 18, 19, 20, 21, 22, 23, 24, 25, 26, 27, 28, 29, 30, 31, 32, 33, 34, 35, 36, 37, 38] (by decide +kernel) (by decide +kernel)
set_option maxRecDepth 20000 in
theorem gX11_currencyOf_X11_fail : GoodIn wsX11_currencyOf (wsV RX11 159 RX11 yX11_fail wsX11_fail) := goodIn_app (goodIn_of _ (by decide +kernel)) ggX11_currencyOf_X11_fail
theorem dX11_currencyOf_0 : decode cX11_currencyOf 0 = .ok (.aload_n 0, 1) := by decide +kernel
theorem dX11_currencyOf_1 : decode cX11_currencyOf 1 = .ok (.iconst 0, 1) := by decide +kernel
theorem dX11_currencyOf_2 : decode cX11_currencyOf 2 = .ok (.putfield 58, 3) := by decide +kernel
theorem dX11_currencyOf_5 : decode cX11_currencyOf 5 = .ok (.aload_n 0, 1) := by decide +kernel
theorem dX11_currencyOf_6 : decode cX11_currencyOf 6 = .ok (.iload_n 1, 1) := by decide +kernel
theorem dX11_currencyOf_7 : decode cX11_currencyOf 7 = .ok (.invokevirtual 177, 3) := by decide +kernel
theorem dX11_currencyOf_10 : decode cX11_currencyOf 10 = .ok (.ifCond .eq 15, 3) := by decide +kernel
theorem dX11_currencyOf_13 : decode cX11_currencyOf 13 = .ok (.aload_n 0, 1) := by decide +kernel
theorem dX11_currencyOf_14 : decode cX11_currencyOf 14 = .ok (.getfield 17, 3) := by decide +kernel
theorem dX11_currencyOf_17 : decode cX11_currencyOf 17 = .ok (.bipush 10, 2) := by decide +kernel
theorem dX11_currencyOf_19 : decode cX11_currencyOf 19 = .ok (.iload_n 1, 1) := by decide +kernel
theorem dX11_currencyOf_20 : decode cX11_currencyOf 20 = .ok (.iadd, 1) := by decide +kernel
theorem dX11_currencyOf_21 : decode cX11_currencyOf 21 = .ok (.iaload, 1) := by decide +kernel
theorem dX11_currencyOf_22 : decode cX11_currencyOf 22 = .ok (.goto 8, 3) := by decide +kernel
theorem dX11_currencyOf_25 : decode cX11_currencyOf 25 = .ok (.aload_n 0, 1) := by decide +kernel
theorem dX11_currencyOf_26 : decode cX11_currencyOf 26 = .ok (.iconst 1, 1) := by decide +kernel
theorem dX11_currencyOf_27 : decode cX11_currencyOf 27 = .ok (.invokevirtual 159, 3) := by decide +kernel
theorem dX11_currencyOf_30 : decode cX11_currencyOf 30 = .ok (.ireturn, 1) := by decide +kernel
theorem dX11_bound_0 : decode cX11_bound 0 = .ok (.aload_n 0, 1) := by decide +kernel
theorem dX11_bound_1 : decode cX11_bound 1 = .ok (.getfield 17, 3) := by decide +kernel
theorem dX11_bound_4 : decode cX11_bound 4 = .ok (.bipush 22, 2) := by decide +kernel
theorem dX11_bound_6 : decode cX11_bound 6 = .ok (.iload_n 1, 1) := by decide +kernel
theorem dX11_bound_7 : decode cX11_bound 7 = .ok (.iadd, 1) := by decide +kernel
theorem dX11_bound_8 : decode cX11_bound 8 = .ok (.iaload, 1) := by decide +kernel
theorem dX11_bound_9 : decode cX11_bound 9 = .ok (.aload_n 0, 1) := by decide +kernel
theorem dX11_bound_10 : decode cX11_bound 10 = .ok (.getfield 17, 3) := by decide +kernel
theorem dX11_bound_13 : decode cX11_bound 13 = .ok (.bipush 22, 2) := by decide +kernel
theorem dX11_bound_15 : decode cX11_bound 15 = .ok (.iload_n 1, 1) := by decide +kernel
theorem dX11_bound_16 : decode cX11_bound 16 = .ok (.iadd, 1) := by decide +kernel
theorem dX11_bound_17 : decode cX11_bound 17 = .ok (.iaload, 1) := by decide +kernel
theorem dX11_bound_18 : decode cX11_bound 18 = .ok (.aload_n 0, 1) := by decide +kernel
theorem dX11_bound_19 : decode cX11_bound 19 = .ok (.getfield 17, 3) := by decide +kernel
theorem dX11_bound_22 : decode cX11_bound 22 = .ok (.iload_n 2, 1) := by decide +kernel
theorem dX11_bound_23 : decode cX11_bound 23 = .ok (.iload_n 1, 1) := by decide +kernel
theorem dX11_bound_24 : decode cX11_bound 24 = .ok (.iadd, 1) := by decide +kernel
theorem dX11_bound_25 : decode cX11_bound 25 = .ok (.iaload, 1) := by decide +kernel
theorem dX11_bound_26 : decode cX11_bound 26 = .ok (.imul, 1) := by decide +kernel
theorem dX11_bound_27 : decode cX11_bound 27 = .ok (.bipush 100, 2) := by decide +kernel
theorem dX11_bound_29 : decode cX11_bound 29 = .ok (.idiv, 1) := by decide +kernel
theorem dX11_bound_30 : decode cX11_bound 30 = .ok (.iadd, 1) := by decide +kernel
theorem dX11_bound_31 : decode cX11_bound 31 = .ok (.ireturn, 1) := by decide +kernel
set_option maxRecDepth 20000 in
theorem ggX11_product_X11_isProduct : GoodIn wsX11_product wsX11_isProduct := goodIn_r _ [7, 2, 8, 9, 6, 10, 19, 20, 21, 22, 23, 24, 25, 26, 27, 28, 29, 30, 31, 32, 33, 34, 35, 36, 37, 38, 39, 40, 41, 42] (by decide +kernel) (by decide +kernel)
set_option maxRecDepth 20000 in
theorem gX11_product_X11_isProduct : GoodIn wsX11_product (wsV RX11 180 RX11 yX11_isProduct wsX11_isProduct) := goodIn_app (goodIn_of _ (by decide +kernel)) ggX11_product_X11_isProduct
set_option maxRecDepth 20000 in
theorem ggX11_product_X11_fail : GoodIn wsX11_product wsX11_fail := goodIn_r _ [14, 1, 19, 20, 21, 22, 23, 24, 25, 26, 27, 28, 29, 30, 31, 32, 33, 34, 35, 36, 37, 38, 39, 40, 41, 42] (by decide +kernel) (by decide +kernel)
set_option maxRecDepth 20000 in
theorem gX11_product_X11_fail : GoodIn wsX11_product (wsV RX11 159 RX11 yX11_fail wsX11_fail) := goodIn_app (goodIn_of _ (by decide +kernel)) ggX11_product_X11_fail
set_option maxRecDepth 20000 in
theorem ggX11_product_X11_bound : GoodIn wsX11_product wsX11_bound := goodIn_r _ [18, 2, 19, 20, 21, 22, 23, 24, 25, 26, 27, 28, 29, 30, 31, 32, 33, 34, 35, 36, 37, 38, 39, 40, 41, 42] (by decide +kernel) (by decide +kernel)
set_option maxRecDepth 20000 in
theorem gX11_product_X11_bound : GoodIn wsX11_product (wsV RX11 183 RX11 yX11_bound wsX11_bound) := goodIn_app (goodIn_of _ (by decide +kernel)) ggX11_product_X11_bound
theorem dX11_product_0 : decode cX11_product 0 = .ok (.aload_n 0, 1) := by decide +kernel
theorem dX11_product_1 : decode cX11_product 1 = .ok (.iconst 0, 1) := by decide +kernel
theorem dX11_product_2 : decode cX11_product 2 = .ok (.putfield 58, 3) := by decide +kernel
theorem dX11_product_5 : decode cX11_product 5 = .ok (.aload_n 0, 1) := by decide +kernel
theorem dX11_product_6 : decode cX11_product 6 = .ok (.iload_n 1, 1) := by decide +kernel
theorem dX11_product_7 : decode cX11_product 7 = .ok (.invokevirtual 180, 3) := by decide +kernel
theorem dX11_product_10 : decode cX11_product 10 = .ok (.ifCond .ne 9, 3) := by decide +kernel
theorem dX11_product_13 : decode cX11_product 13 = .ok (.aload_n 0, 1) := by decide +kernel
theorem dX11_product_14 : decode cX11_product 14 = .ok (.iconst 1, 1) := by decide +kernel
theorem dX11_product_15 : decode cX11_product 15 = .ok (.invokevirtual 159, 3) := by decide +kernel
theorem dX11_product_18 : decode cX11_product 18 = .ok (.ireturn, 1) := by decide +kernel
theorem dX11_product_19 : decode cX11_product 19 = .ok (.iload_n 2, 1) := by decide +kernel
theorem dX11_product_20 : decode cX11_product 20 = .ok (.tableswitch 68 0 3 #[32, 42, 52, 60], 32) := by decide +kernel
theorem dX11_product_52 : decode cX11_product 52 = .ok (.aload_n 0, 1) := by decide +kernel
theorem dX11_product_53 : decode cX11_product 53 = .ok (.getfield 17, 3) := by decide +kernel
theorem dX11_product_56 : decode cX11_product 56 = .ok (.bipush 16, 2) := by decide +kernel
theorem dX11_product_58 : decode cX11_product 58 = .ok (.iload_n 1, 1) := by decide +kernel
theorem dX11_product_59 : decode cX11_product 59 = .ok (.iadd, 1) := by decide +kernel
theorem dX11_product_60 : decode cX11_product 60 = .ok (.iaload, 1) := by decide +kernel
theorem dX11_product_61 : decode cX11_product 61 = .ok (.ireturn, 1) := by decide +kernel
theorem dX11_product_62 : decode cX11_product 62 = .ok (.aload_n 0, 1) := by decide +kernel
theorem dX11_product_63 : decode cX11_product 63 = .ok (.getfield 17, 3) := by decide +kernel
theorem dX11_product_66 : decode cX11_product 66 = .ok (.bipush 22, 2) := by decide +kernel
theorem dX11_product_68 : decode cX11_product 68 = .ok (.iload_n 1, 1) := by decide +kernel
theorem dX11_product_69 : decode cX11_product 69 = .ok (.iadd, 1) := by decide +kernel
theorem dX11_product_70 : decode cX11_product 70 = .ok (.iaload, 1) := by decide +kernel
theorem dX11_product_71 : decode cX11_product 71 = .ok (.ireturn, 1) := by decide +kernel
theorem dX11_product_72 : decode cX11_product 72 = .ok (.aload_n 0, 1) := by decide +kernel
theorem dX11_product_73 : decode cX11_product 73 = .ok (.iload_n 1, 1) := by decide +kernel
theorem dX11_product_74 : decode cX11_product 74 = .ok (.bipush 28, 2) := by decide +kernel
theorem dX11_product_76 : decode cX11_product 76 = .ok (.invokevirtual 183, 3) := by decide +kernel
theorem dX11_product_79 : decode cX11_product 79 = .ok (.ireturn, 1) := by decide +kernel
theorem dX11_product_80 : decode cX11_product 80 = .ok (.aload_n 0, 1) := by decide +kernel
theorem dX11_product_81 : decode cX11_product 81 = .ok (.iload_n 1, 1) := by decide +kernel
theorem dX11_product_82 : decode cX11_product 82 = .ok (.bipush 34, 2) := by decide +kernel
theorem dX11_product_84 : decode cX11_product 84 = .ok (.invokevirtual 183, 3) := by decide +kernel
theorem dX11_product_87 : decode cX11_product 87 = .ok (.ireturn, 1) := by decide +kernel
theorem dX11_product_88 : decode cX11_product 88 = .ok (.aload_n 0, 1) := by decide +kernel
theorem dX11_product_89 : decode cX11_product 89 = .ok (.iconst 2, 1) := by decide +kernel
theorem dX11_product_90 : decode cX11_product 90 = .ok (.invokevirtual 159, 3) := by decide +kernel
theorem dX11_product_93 : decode cX11_product 93 = .ok (.ireturn, 1) := by decide +kernel
set_option maxRecDepth 20000 in
theorem ggX11_item_X11_isItem : GoodIn wsX11_item wsX11_isItem := goodIn_r _ [7, 8, 9, 10, 6, 11, 20, 21, 22, 23, 24, 25, 26, 27, 28, 29, 30, 31, 32, 33, 34, 35, 36, 37, 38, 39, 40, 41, 42, 43] (by decide +kernel) (by decide +kernel)
set_option maxRecDepth 20000 in
theorem gX11_item_X11_isItem : GoodIn wsX11_item (wsV RX11 186 RX11 yX11_isItem wsX11_isItem) := goodIn_app (goodIn_of _ (by decide +kernel)) ggX11_item_X11_isItem
set_option maxRecDepth 20000 in
theorem ggX11_item_X11_fail : GoodIn wsX11_item wsX11_fail := goodIn_r _ [15, 1, 20, 21, 22, 23, 24, 25, 26, 27, 28, 29, 30, 31, 32, 33, 34, 35, 36, 37, 38, 39, 40, 41, 42, 43] (by decide +kernel) (by decide +kernel)
set_option maxRecDepth 20000 in
theorem gX11_item_X11_fail : GoodIn wsX11_item (wsV RX11 159 RX11 yX11_fail wsX11_fail) := goodIn_app (goodIn_of _ (by decide +kernel)) ggX11_item_X11_fail
set_option maxRecDepth 20000 in
theorem ggX11_item_X11_within : GoodIn wsX11_item wsX11_within := goodIn_r _ [11] (by decide +kernel) (by decide +kernel)
set_option maxRecDepth 20000 in
theorem gX11_item_X11_within : GoodIn wsX11_item (va_wsS RX11 89 yX11_within wsX11_within) := goodIn_app (goodIn_of _ (by decide +kernel)) ggX11_item_X11_within
set_option maxRecDepth 20000 in
theorem ggX11_item_X11_of : GoodIn wsX11_item wsX11_of := goodIn_r _ [19, 8, 20, 21, 22, 23, 24, 25, 26, 27, 28, 29, 30, 31, 32, 33, 34, 35, 36, 37, 38, 39, 40, 41, 42, 43] (by decide +kernel) (by decide +kernel)
set_option maxRecDepth 20000 in
theorem gX11_item_X11_of : GoodIn wsX11_item (wsV RX11 169 RX11 yX11_of wsX11_of) := goodIn_app (goodIn_of _ (by decide +kernel)) ggX11_item_X11_of
theorem dX11_item_0 : decode cX11_item 0 = .ok (.aload_n 0, 1) := by decide +kernel
theorem dX11_item_1 : decode cX11_item 1 = .ok (.iconst 0, 1) := by decide +kernel
theorem dX11_item_2 : decode cX11_item 2 = .ok (.putfield 58, 3) := by decide +kernel
theorem dX11_item_5 : decode cX11_item 5 = .ok (.aload_n 0, 1) := by decide +kernel
theorem dX11_item_6 : decode cX11_item 6 = .ok (.iload_n 1, 1) := by decide +kernel
theorem dX11_item_7 : decode cX11_item 7 = .ok (.invokevirtual 186, 3) := by decide +kernel
theorem dX11_item_10 : decode cX11_item 10 = .ok (.ifCond .ne 9, 3) := by decide +kernel
theorem dX11_item_13 : decode cX11_item 13 = .ok (.aload_n 0, 1) := by decide +kernel
theorem dX11_item_14 : decode cX11_item 14 = .ok (.iconst 1, 1) := by decide +kernel
theorem dX11_item_15 : decode cX11_item 15 = .ok (.invokevirtual 159, 3) := by decide +kernel
theorem dX11_item_18 : decode cX11_item 18 = .ok (.ireturn, 1) := by decide +kernel
theorem dX11_item_19 : decode cX11_item 19 = .ok (.iload_n 2, 1) := by decide +kernel
theorem dX11_item_20 : decode cX11_item 20 = .ok (.i2l, 1) := by decide +kernel
theorem dX11_item_21 : decode cX11_item 21 = .ok (.lconst 0, 1) := by decide +kernel
theorem dX11_item_22 : decode cX11_item 22 = .ok (.ldc2_w 189, 3) := by decide +kernel
theorem dX11_item_25 : decode cX11_item 25 = .ok (.invokestatic 89, 3) := by decide +kernel
theorem dX11_item_28 : decode cX11_item 28 = .ok (.ifCond .eq 12, 3) := by decide +kernel
theorem dX11_item_31 : decode cX11_item 31 = .ok (.aload_n 0, 1) := by decide +kernel
theorem dX11_item_32 : decode cX11_item 32 = .ok (.iload_n 1, 1) := by decide +kernel
theorem dX11_item_33 : decode cX11_item 33 = .ok (.iload_n 2, 1) := by decide +kernel
theorem dX11_item_34 : decode cX11_item 34 = .ok (.invokevirtual 169, 3) := by decide +kernel
theorem dX11_item_37 : decode cX11_item 37 = .ok (.goto 8, 3) := by decide +kernel
theorem dX11_item_40 : decode cX11_item 40 = .ok (.aload_n 0, 1) := by decide +kernel
theorem dX11_item_41 : decode cX11_item 41 = .ok (.iconst 2, 1) := by decide +kernel
theorem dX11_item_42 : decode cX11_item 42 = .ok (.invokevirtual 159, 3) := by decide +kernel
theorem dX11_item_45 : decode cX11_item 45 = .ok (.ireturn, 1) := by decide +kernel
set_option maxRecDepth 20000 in
theorem ggX11_amount_X11_isItem : GoodIn wsX11_amount wsX11_isItem := goodIn_r _ [7, 8, 9, 10, 6, 11, 12, 13, 14, 15, 16, 17, 18, 19, 20, 21, 22, 23, 24, 25, 26, 27, 28, 29, 30, 31, 32, 33, 34, 35] (by decide +kernel) (by decide +kernel)
set_option maxRecDepth 20000 in
theorem gX11_amount_X11_isItem : GoodIn wsX11_amount (wsV RX11 186 RX11 yX11_isItem wsX11_isItem) := goodIn_app (goodIn_of _ (by decide +kernel)) ggX11_amount_X11_isItem
theorem dX11_amount_0 : decode cX11_amount 0 = .ok (.aload_n 0, 1) := by decide +kernel
theorem dX11_amount_1 : decode cX11_amount 1 = .ok (.aload_n 0, 1) := by decide +kernel
theorem dX11_amount_2 : decode cX11_amount 2 = .ok (.iload_n 1, 1) := by decide +kernel
theorem dX11_amount_3 : decode cX11_amount 3 = .ok (.invokevirtual 186, 3) := by decide +kernel
theorem dX11_amount_6 : decode cX11_amount 6 = .ok (.ifCond .eq 7, 3) := by decide +kernel
theorem dX11_amount_9 : decode cX11_amount 9 = .ok (.iconst 0, 1) := by decide +kernel
theorem dX11_amount_10 : decode cX11_amount 10 = .ok (.goto 4, 3) := by decide +kernel
theorem dX11_amount_13 : decode cX11_amount 13 = .ok (.iconst 1, 1) := by decide +kernel
theorem dX11_amount_14 : decode cX11_amount 14 = .ok (.putfield 58, 3) := by decide +kernel
theorem dX11_amount_17 : decode cX11_amount 17 = .ok (.aload_n 0, 1) := by decide +kernel
theorem dX11_amount_18 : decode cX11_amount 18 = .ok (.getfield 58, 3) := by decide +kernel
theorem dX11_amount_21 : decode cX11_amount 21 = .ok (.ifCond .ne 15, 3) := by decide +kernel
theorem dX11_amount_24 : decode cX11_amount 24 = .ok (.aload_n 0, 1) := by decide +kernel
theorem dX11_amount_25 : decode cX11_amount 25 = .ok (.getfield 23, 3) := by decide +kernel
theorem dX11_amount_28 : decode cX11_amount 28 = .ok (.bipush 9, 2) := by decide +kernel
theorem dX11_amount_30 : decode cX11_amount 30 = .ok (.iload_n 1, 1) := by decide +kernel
theorem dX11_amount_31 : decode cX11_amount 31 = .ok (.iadd, 1) := by decide +kernel
theorem dX11_amount_32 : decode cX11_amount 32 = .ok (.laload, 1) := by decide +kernel
theorem dX11_amount_33 : decode cX11_amount 33 = .ok (.goto 4, 3) := by decide +kernel
theorem dX11_amount_36 : decode cX11_amount 36 = .ok (.lconst 0, 1) := by decide +kernel
theorem dX11_amount_37 : decode cX11_amount 37 = .ok (.lreturn, 1) := by decide +kernel
set_option maxRecDepth 20000 in
theorem ggX11_value_X11_isItem : GoodIn wsX11_value wsX11_isItem := goodIn_r _ [6, 7, 8, 9, 5, 10, 26, 27, 28, 29, 30, 31, 32, 33, 34, 35, 36, 37, 38, 39, 40, 41, 42, 43, 44, 45, 46, 47, 48, 49] (by decide +kernel) (by decide +kernel)
set_option maxRecDepth 20000 in
theorem gX11_value_X11_isItem : GoodIn wsX11_value (wsV RX11 186 RX11 yX11_isItem wsX11_isItem) := goodIn_app (goodIn_of _ (by decide +kernel)) ggX11_value_X11_isItem
set_option maxRecDepth 20000 in
theorem ggX11_value_X11_valueOf : GoodIn wsX11_value wsX11_valueOf := goodIn_r _ [14, 15, 16, 17, 18, 19, 5, 20, 7, 21, 22, 23, 24, 25, 26, 27, 28, 29, 30, 31, 32, 33, 34, 35, 36, 37, 38, 39, 40, 41, 42, 43, 44, 45, 46, 47, 48, 49] (by decide +kernel) (by decide +kernel)
set_option maxRecDepth 20000 in
theorem gX11_value_X11_valueOf : GoodIn wsX11_value (wsV RX11 191 RX11 yX11_valueOf wsX11_valueOf) := goodIn_app (goodIn_of _ (by decide +kernel)) ggX11_value_X11_valueOf
theorem dX11_value_0 : decode cX11_value 0 = .ok (.aload_n 0, 1) := by decide +kernel
theorem dX11_value_1 : decode cX11_value 1 = .ok (.aload_n 0, 1) := by decide +kernel
theorem dX11_value_2 : decode cX11_value 2 = .ok (.iload_n 1, 1) := by decide +kernel
theorem dX11_value_3 : decode cX11_value 3 = .ok (.invokevirtual 186, 3) := by decide +kernel
theorem dX11_value_6 : decode cX11_value 6 = .ok (.ifCond .eq 7, 3) := by decide +kernel
theorem dX11_value_9 : decode cX11_value 9 = .ok (.iconst 0, 1) := by decide +kernel
theorem dX11_value_10 : decode cX11_value 10 = .ok (.goto 4, 3) := by decide +kernel
theorem dX11_value_13 : decode cX11_value 13 = .ok (.iconst 1, 1) := by decide +kernel
theorem dX11_value_14 : decode cX11_value 14 = .ok (.putfield 58, 3) := by decide +kernel
theorem dX11_value_17 : decode cX11_value 17 = .ok (.aload_n 0, 1) := by decide +kernel
theorem dX11_value_18 : decode cX11_value 18 = .ok (.getfield 58, 3) := by decide +kernel
theorem dX11_value_21 : decode cX11_value 21 = .ok (.ifCond .ne 11, 3) := by decide +kernel
theorem dX11_value_24 : decode cX11_value 24 = .ok (.aload_n 0, 1) := by decide +kernel
theorem dX11_value_25 : decode cX11_value 25 = .ok (.iload_n 1, 1) := by decide +kernel
theorem dX11_value_26 : decode cX11_value 26 = .ok (.invokevirtual 191, 3) := by decide +kernel
theorem dX11_value_29 : decode cX11_value 29 = .ok (.goto 4, 3) := by decide +kernel
theorem dX11_value_32 : decode cX11_value 32 = .ok (.lconst 0, 1) := by decide +kernel
theorem dX11_value_33 : decode cX11_value 33 = .ok (.lreturn, 1) := by decide +kernel
set_option maxRecDepth 20000 in
theorem ggX11_currencyDifference_X11_isItem : GoodIn wsX11_currencyDifference wsX11_isItem := goodIn_r _ [7, 8, 9, 10, 6, 11, 26, 27, 28, 29, 30, 31, 32, 33, 34, 35, 36, 37, 38, 39, 40, 41, 42, 43, 44, 45, 46, 47, 48, 49] (by decide +kernel) (by decide +kernel)
set_option maxRecDepth 20000 in
theorem gX11_currencyDifference_X11_isItem : GoodIn wsX11_currencyDifference (wsV RX11 186 RX11 yX11_isItem wsX11_isItem) := goodIn_app (goodIn_of _ (by decide +kernel)) ggX11_currencyDifference_X11_isItem
set_option maxRecDepth 20000 in
theorem ggX11_currencyDifference_X11_of : GoodIn wsX11_currencyDifference wsX11_of := goodIn_r _ [15, 8, 26, 27, 28, 29, 30, 31, 32, 33, 34, 35, 36, 37, 38, 39, 40, 41, 42, 43, 44, 45, 46, 47, 48, 49] (by decide +kernel) (by decide +kernel)
set_option maxRecDepth 20000 in
theorem gX11_currencyDifference_X11_of : GoodIn wsX11_currencyDifference (wsV RX11 169 RX11 yX11_of wsX11_of) := goodIn_app (goodIn_of _ (by decide +kernel)) ggX11_currencyDifference_X11_of
set_option maxRecDepth 20000 in
theorem ggX11_currencyDifference_X11_valueOf : GoodIn wsX11_currencyDifference wsX11_valueOf := goodIn_r _ [19, 2, 20, 12, 13, 14, 6, 15, 8, 21, 22, 23, 24, 25, 26, 27, 28, 29, 30, 31, 32, 33, 34, 35, 36, 37, 38, 39, 40, 41, 42, 43, 44, 45, 46, 47, 48, 49] (by decide +kernel) (by decide +kernel)
set_option maxRecDepth 20000 in
theorem gX11_currencyDifference_X11_valueOf : GoodIn wsX11_currencyDifference (wsV RX11 191 RX11 yX11_valueOf wsX11_valueOf) := goodIn_app (goodIn_of _ (by decide +kernel)) ggX11_currencyDifference_X11_valueOf
theorem dX11_currencyDifference_0 : decode cX11_currencyDifference 0 = .ok (.aload_n 0, 1) := by decide +kernel
theorem dX11_currencyDifference_1 : decode cX11_currencyDifference 1 = .ok (.aload_n 0, 1) := by decide +kernel
theorem dX11_currencyDifference_2 : decode cX11_currencyDifference 2 = .ok (.iload_n 1, 1) := by decide +kernel
theorem dX11_currencyDifference_3 : decode cX11_currencyDifference 3 = .ok (.invokevirtual 186, 3) := by decide +kernel
theorem dX11_currencyDifference_6 : decode cX11_currencyDifference 6 = .ok (.ifCond .eq 7, 3) := by decide +kernel
theorem dX11_currencyDifference_9 : decode cX11_currencyDifference 9 = .ok (.iconst 0, 1) := by decide +kernel
theorem dX11_currencyDifference_10 : decode cX11_currencyDifference 10 = .ok (.goto 4, 3) := by decide +kernel
theorem dX11_currencyDifference_13 : decode cX11_currencyDifference 13 = .ok (.iconst 1, 1) := by decide +kernel
theorem dX11_currencyDifference_14 : decode cX11_currencyDifference 14 = .ok (.putfield 58, 3) := by decide +kernel
theorem dX11_currencyDifference_17 : decode cX11_currencyDifference 17 = .ok (.aload_n 0, 1) := by decide +kernel
theorem dX11_currencyDifference_18 : decode cX11_currencyDifference 18 = .ok (.getfield 58, 3) := by decide +kernel
theorem dX11_currencyDifference_21 : decode cX11_currencyDifference 21 = .ok (.iconst 1, 1) := by decide +kernel
theorem dX11_currencyDifference_22 : decode cX11_currencyDifference 22 = .ok (.if_icmp .eq 13, 3) := by decide +kernel
theorem dX11_currencyDifference_25 : decode cX11_currencyDifference 25 = .ok (.aload_n 0, 1) := by decide +kernel
theorem dX11_currencyDifference_26 : decode cX11_currencyDifference 26 = .ok (.iload_n 1, 1) := by decide +kernel
theorem dX11_currencyDifference_27 : decode cX11_currencyDifference 27 = .ok (.iconst 4, 1) := by decide +kernel
theorem dX11_currencyDifference_28 : decode cX11_currencyDifference 28 = .ok (.invokevirtual 169, 3) := by decide +kernel
theorem dX11_currencyDifference_31 : decode cX11_currencyDifference 31 = .ok (.iconst 4, 1) := by decide +kernel
theorem dX11_currencyDifference_32 : decode cX11_currencyDifference 32 = .ok (.if_icmp .ne 7, 3) := by decide +kernel
theorem dX11_currencyDifference_35 : decode cX11_currencyDifference 35 = .ok (.lconst 0, 1) := by decide +kernel
theorem dX11_currencyDifference_36 : decode cX11_currencyDifference 36 = .ok (.goto 18, 3) := by decide +kernel
theorem dX11_currencyDifference_39 : decode cX11_currencyDifference 39 = .ok (.aload_n 0, 1) := by decide +kernel
theorem dX11_currencyDifference_40 : decode cX11_currencyDifference 40 = .ok (.iload_n 1, 1) := by decide +kernel
theorem dX11_currencyDifference_41 : decode cX11_currencyDifference 41 = .ok (.invokevirtual 191, 3) := by decide +kernel
theorem dX11_currencyDifference_44 : decode cX11_currencyDifference 44 = .ok (.aload_n 0, 1) := by decide +kernel
theorem dX11_currencyDifference_45 : decode cX11_currencyDifference 45 = .ok (.getfield 23, 3) := by decide +kernel
theorem dX11_currencyDifference_48 : decode cX11_currencyDifference 48 = .ok (.bipush 109, 2) := by decide +kernel
theorem dX11_currencyDifference_50 : decode cX11_currencyDifference 50 = .ok (.iload_n 1, 1) := by decide +kernel
theorem dX11_currencyDifference_51 : decode cX11_currencyDifference 51 = .ok (.iadd, 1) := by decide +kernel
theorem dX11_currencyDifference_52 : decode cX11_currencyDifference 52 = .ok (.laload, 1) := by decide +kernel
theorem dX11_currencyDifference_53 : decode cX11_currencyDifference 53 = .ok (.lsub, 1) := by decide +kernel
theorem dX11_currencyDifference_54 : decode cX11_currencyDifference 54 = .ok (.lreturn, 1) := by decide +kernel
set_option maxRecDepth 20000 in
theorem ggX11_differenceOf_X11_valueOf : GoodIn wsX11_differenceOf wsX11_valueOf := goodIn_r _ [5, 6, 7, 8, 9, 10, 4, 11, 12, 13, 14, 15, 16, 17, 18, 19, 20, 21, 22, 23, 24, 25, 26, 27, 28, 29, 30, 31, 32, 33, 34, 35, 36, 37, 38, 39, 40, 41] (by decide +kernel) (by decide +kernel)
set_option maxRecDepth 20000 in
theorem gX11_differenceOf_X11_valueOf : GoodIn wsX11_differenceOf (wsV RX11 191 RX11 yX11_valueOf wsX11_valueOf) := goodIn_app (goodIn_of _ (by decide +kernel)) ggX11_differenceOf_X11_valueOf
set_option maxRecDepth 20000 in
theorem ggX11_differenceOf_X11_of : GoodIn wsX11_differenceOf wsX11_of := goodIn_r _ [11, 12, 18, 19, 20, 21, 22, 23, 24, 25, 26, 27, 28, 29, 30, 31, 32, 33, 34, 35, 36, 37, 38, 39, 40, 41] (by decide +kernel) (by decide +kernel)
set_option maxRecDepth 20000 in
theorem gX11_differenceOf_X11_of : GoodIn wsX11_differenceOf (wsV RX11 169 RX11 yX11_of wsX11_of) := goodIn_app (goodIn_of _ (by decide +kernel)) ggX11_differenceOf_X11_of
theorem dX11_differenceOf_0 : decode cX11_differenceOf 0 = .ok (.aload_n 0, 1) := by decide +kernel
theorem dX11_differenceOf_1 : decode cX11_differenceOf 1 = .ok (.iload_n 1, 1) := by decide +kernel
theorem dX11_differenceOf_2 : decode cX11_differenceOf 2 = .ok (.invokevirtual 191, 3) := by decide +kernel
theorem dX11_differenceOf_5 : decode cX11_differenceOf 5 = .ok (.aload_n 0, 1) := by decide +kernel
theorem dX11_differenceOf_6 : decode cX11_differenceOf 6 = .ok (.aload_n 0, 1) := by decide +kernel
theorem dX11_differenceOf_7 : decode cX11_differenceOf 7 = .ok (.iload_n 1, 1) := by decide +kernel
theorem dX11_differenceOf_8 : decode cX11_differenceOf 8 = .ok (.iconst 5, 1) := by decide +kernel
theorem dX11_differenceOf_9 : decode cX11_differenceOf 9 = .ok (.invokevirtual 169, 3) := by decide +kernel
theorem dX11_differenceOf_12 : decode cX11_differenceOf 12 = .ok (.invokevirtual 191, 3) := by decide +kernel
theorem dX11_differenceOf_15 : decode cX11_differenceOf 15 = .ok (.lsub, 1) := by decide +kernel
theorem dX11_differenceOf_16 : decode cX11_differenceOf 16 = .ok (.lreturn, 1) := by decide +kernel
set_option maxRecDepth 20000 in
theorem ggX11_pairDifference_X11_isItem : GoodIn wsX11_pairDifference wsX11_isItem := goodIn_r _ [6, 7, 8, 9, 5, 10, 30, 31, 32, 33, 34, 35, 36, 37, 38, 39, 40, 41, 42, 43, 44, 45, 46, 47, 48, 49, 50, 51, 52, 53] (by decide +kernel) (by decide +kernel)
set_option maxRecDepth 20000 in
theorem gX11_pairDifference_X11_isItem : GoodIn wsX11_pairDifference (wsV RX11 186 RX11 yX11_isItem wsX11_isItem) := goodIn_app (goodIn_of _ (by decide +kernel)) ggX11_pairDifference_X11_isItem
set_option maxRecDepth 20000 in
theorem ggX11_pairDifference_X11_of : GoodIn wsX11_pairDifference wsX11_of := goodIn_r _ [14, 7, 30, 31, 32, 33, 34, 35, 36, 37, 38, 39, 40, 41, 42, 43, 44, 45, 46, 47, 48, 49, 50, 51, 52, 53] (by decide +kernel) (by decide +kernel)
set_option maxRecDepth 20000 in
theorem gX11_pairDifference_X11_of : GoodIn wsX11_pairDifference (wsV RX11 169 RX11 yX11_of wsX11_of) := goodIn_app (goodIn_of _ (by decide +kernel)) ggX11_pairDifference_X11_of
set_option maxRecDepth 20000 in
theorem ggX11_pairDifference_X11_differenceOf : GoodIn wsX11_pairDifference wsX11_differenceOf := goodIn_r _ [18, 19, 20, 21, 5, 22, 23, 24, 11, 12, 13, 14, 7, 25, 26, 27, 28, 29, 30, 31, 32, 33, 34, 35, 36, 37, 38, 39, 40, 41, 42, 43, 44, 45, 46, 47, 48, 49, 50, 51, 52, 53] (by decide +kernel) (by decide +kernel)
set_option maxRecDepth 20000 in
theorem gX11_pairDifference_X11_differenceOf : GoodIn wsX11_pairDifference (wsV RX11 195 RX11 yX11_differenceOf wsX11_differenceOf) := goodIn_app (goodIn_of _ (by decide +kernel)) ggX11_pairDifference_X11_differenceOf
theorem dX11_pairDifference_0 : decode cX11_pairDifference 0 = .ok (.aload_n 0, 1) := by decide +kernel
theorem dX11_pairDifference_1 : decode cX11_pairDifference 1 = .ok (.aload_n 0, 1) := by decide +kernel
theorem dX11_pairDifference_2 : decode cX11_pairDifference 2 = .ok (.iload_n 1, 1) := by decide +kernel
theorem dX11_pairDifference_3 : decode cX11_pairDifference 3 = .ok (.invokevirtual 186, 3) := by decide +kernel
theorem dX11_pairDifference_6 : decode cX11_pairDifference 6 = .ok (.ifCond .ne 7, 3) := by decide +kernel
theorem dX11_pairDifference_9 : decode cX11_pairDifference 9 = .ok (.iconst 1, 1) := by decide +kernel
theorem dX11_pairDifference_10 : decode cX11_pairDifference 10 = .ok (.goto 17, 3) := by decide +kernel
theorem dX11_pairDifference_13 : decode cX11_pairDifference 13 = .ok (.aload_n 0, 1) := by decide +kernel
theorem dX11_pairDifference_14 : decode cX11_pairDifference 14 = .ok (.iload_n 1, 1) := by decide +kernel
theorem dX11_pairDifference_15 : decode cX11_pairDifference 15 = .ok (.iconst 5, 1) := by decide +kernel
theorem dX11_pairDifference_16 : decode cX11_pairDifference 16 = .ok (.invokevirtual 169, 3) := by decide +kernel
theorem dX11_pairDifference_19 : decode cX11_pairDifference 19 = .ok (.ifCond .ge 7, 3) := by decide +kernel
theorem dX11_pairDifference_22 : decode cX11_pairDifference 22 = .ok (.iconst 2, 1) := by decide +kernel
theorem dX11_pairDifference_23 : decode cX11_pairDifference 23 = .ok (.goto 4, 3) := by decide +kernel
theorem dX11_pairDifference_26 : decode cX11_pairDifference 26 = .ok (.iconst 0, 1) := by decide +kernel
theorem dX11_pairDifference_27 : decode cX11_pairDifference 27 = .ok (.putfield 58, 3) := by decide +kernel
theorem dX11_pairDifference_30 : decode cX11_pairDifference 30 = .ok (.aload_n 0, 1) := by decide +kernel
theorem dX11_pairDifference_31 : decode cX11_pairDifference 31 = .ok (.getfield 58, 3) := by decide +kernel
theorem dX11_pairDifference_34 : decode cX11_pairDifference 34 = .ok (.ifCond .le 5, 3) := by decide +kernel
theorem dX11_pairDifference_37 : decode cX11_pairDifference 37 = .ok (.lconst 0, 1) := by decide +kernel
theorem dX11_pairDifference_38 : decode cX11_pairDifference 38 = .ok (.lreturn, 1) := by decide +kernel
theorem dX11_pairDifference_39 : decode cX11_pairDifference 39 = .ok (.aload_n 0, 1) := by decide +kernel
theorem dX11_pairDifference_40 : decode cX11_pairDifference 40 = .ok (.aload_n 0, 1) := by decide +kernel
theorem dX11_pairDifference_41 : decode cX11_pairDifference 41 = .ok (.iload_n 1, 1) := by decide +kernel
theorem dX11_pairDifference_42 : decode cX11_pairDifference 42 = .ok (.iconst 2, 1) := by decide +kernel
theorem dX11_pairDifference_43 : decode cX11_pairDifference 43 = .ok (.invokevirtual 169, 3) := by decide +kernel
theorem dX11_pairDifference_46 : decode cX11_pairDifference 46 = .ok (.ifCond .ne 7, 3) := by decide +kernel
theorem dX11_pairDifference_49 : decode cX11_pairDifference 49 = .ok (.iload_n 1, 1) := by decide +kernel
theorem dX11_pairDifference_50 : decode cX11_pairDifference 50 = .ok (.goto 9, 3) := by decide +kernel
theorem dX11_pairDifference_53 : decode cX11_pairDifference 53 = .ok (.aload_n 0, 1) := by decide +kernel
theorem dX11_pairDifference_54 : decode cX11_pairDifference 54 = .ok (.iload_n 1, 1) := by decide +kernel
theorem dX11_pairDifference_55 : decode cX11_pairDifference 55 = .ok (.iconst 5, 1) := by decide +kernel
theorem dX11_pairDifference_56 : decode cX11_pairDifference 56 = .ok (.invokevirtual 169, 3) := by decide +kernel
theorem dX11_pairDifference_59 : decode cX11_pairDifference 59 = .ok (.invokevirtual 195, 3) := by decide +kernel
theorem dX11_pairDifference_62 : decode cX11_pairDifference 62 = .ok (.lreturn, 1) := by decide +kernel
set_option maxRecDepth 20000 in
theorem ggX11_mirrors_X11_of : GoodIn wsX11_mirrors wsX11_of := goodIn_r _ [5, 6, 7, 8, 9, 10, 11, 12, 13, 14, 15, 16, 17, 18, 19, 20, 21, 22, 23, 24, 25, 26, 27, 28, 29, 30] (by decide +kernel) (by decide +kernel)
set_option maxRecDepth 20000 in
theorem gX11_mirrors_X11_of : GoodIn wsX11_mirrors (wsV RX11 169 RX11 yX11_of wsX11_of) := goodIn_app (goodIn_of _ (by decide +kernel)) ggX11_mirrors_X11_of
theorem dX11_mirrors_0 : decode cX11_mirrors 0 = .ok (.aload_n 0, 1) := by decide +kernel
theorem dX11_mirrors_1 : decode cX11_mirrors 1 = .ok (.iload_n 1, 1) := by decide +kernel
theorem dX11_mirrors_2 : decode cX11_mirrors 2 = .ok (.iconst 2, 1) := by decide +kernel
theorem dX11_mirrors_3 : decode cX11_mirrors 3 = .ok (.invokevirtual 169, 3) := by decide +kernel
theorem dX11_mirrors_6 : decode cX11_mirrors 6 = .ok (.aload_n 0, 1) := by decide +kernel
theorem dX11_mirrors_7 : decode cX11_mirrors 7 = .ok (.iload_n 2, 1) := by decide +kernel
theorem dX11_mirrors_8 : decode cX11_mirrors 8 = .ok (.iconst 2, 1) := by decide +kernel
theorem dX11_mirrors_9 : decode cX11_mirrors 9 = .ok (.invokevirtual 169, 3) := by decide +kernel
theorem dX11_mirrors_12 : decode cX11_mirrors 12 = .ok (.if_icmp .eq 52, 3) := by decide +kernel
theorem dX11_mirrors_15 : decode cX11_mirrors 15 = .ok (.aload_n 0, 1) := by decide +kernel
theorem dX11_mirrors_16 : decode cX11_mirrors 16 = .ok (.iload_n 1, 1) := by decide +kernel
theorem dX11_mirrors_17 : decode cX11_mirrors 17 = .ok (.iconst 0, 1) := by decide +kernel
theorem dX11_mirrors_18 : decode cX11_mirrors 18 = .ok (.invokevirtual 169, 3) := by decide +kernel
theorem dX11_mirrors_21 : decode cX11_mirrors 21 = .ok (.aload_n 0, 1) := by decide +kernel
theorem dX11_mirrors_22 : decode cX11_mirrors 22 = .ok (.iload_n 2, 1) := by decide +kernel
theorem dX11_mirrors_23 : decode cX11_mirrors 23 = .ok (.iconst 1, 1) := by decide +kernel
theorem dX11_mirrors_24 : decode cX11_mirrors 24 = .ok (.invokevirtual 169, 3) := by decide +kernel
theorem dX11_mirrors_27 : decode cX11_mirrors 27 = .ok (.if_icmp .ne 37, 3) := by decide +kernel
theorem dX11_mirrors_30 : decode cX11_mirrors 30 = .ok (.aload_n 0, 1) := by decide +kernel
theorem dX11_mirrors_31 : decode cX11_mirrors 31 = .ok (.iload_n 1, 1) := by decide +kernel
theorem dX11_mirrors_32 : decode cX11_mirrors 32 = .ok (.iconst 1, 1) := by decide +kernel
theorem dX11_mirrors_33 : decode cX11_mirrors 33 = .ok (.invokevirtual 169, 3) := by decide +kernel
theorem dX11_mirrors_36 : decode cX11_mirrors 36 = .ok (.aload_n 0, 1) := by decide +kernel
theorem dX11_mirrors_37 : decode cX11_mirrors 37 = .ok (.iload_n 2, 1) := by decide +kernel
theorem dX11_mirrors_38 : decode cX11_mirrors 38 = .ok (.iconst 0, 1) := by decide +kernel
theorem dX11_mirrors_39 : decode cX11_mirrors 39 = .ok (.invokevirtual 169, 3) := by decide +kernel
theorem dX11_mirrors_42 : decode cX11_mirrors 42 = .ok (.if_icmp .ne 22, 3) := by decide +kernel
theorem dX11_mirrors_45 : decode cX11_mirrors 45 = .ok (.aload_n 0, 1) := by decide +kernel
theorem dX11_mirrors_46 : decode cX11_mirrors 46 = .ok (.iload_n 1, 1) := by decide +kernel
theorem dX11_mirrors_47 : decode cX11_mirrors 47 = .ok (.iconst 3, 1) := by decide +kernel
theorem dX11_mirrors_48 : decode cX11_mirrors 48 = .ok (.invokevirtual 169, 3) := by decide +kernel
theorem dX11_mirrors_51 : decode cX11_mirrors 51 = .ok (.aload_n 0, 1) := by decide +kernel
theorem dX11_mirrors_52 : decode cX11_mirrors 52 = .ok (.iload_n 2, 1) := by decide +kernel
theorem dX11_mirrors_53 : decode cX11_mirrors 53 = .ok (.iconst 3, 1) := by decide +kernel
theorem dX11_mirrors_54 : decode cX11_mirrors 54 = .ok (.invokevirtual 169, 3) := by decide +kernel
theorem dX11_mirrors_57 : decode cX11_mirrors 57 = .ok (.if_icmp .ne 7, 3) := by decide +kernel
theorem dX11_mirrors_60 : decode cX11_mirrors 60 = .ok (.iconst 1, 1) := by decide +kernel
theorem dX11_mirrors_61 : decode cX11_mirrors 61 = .ok (.goto 4, 3) := by decide +kernel
theorem dX11_mirrors_64 : decode cX11_mirrors 64 = .ok (.iconst 0, 1) := by decide +kernel
theorem dX11_mirrors_65 : decode cX11_mirrors 65 = .ok (.ireturn, 1) := by decide +kernel
set_option maxRecDepth 20000 in
theorem ggX11_candidates_X11_isItem : GoodIn wsX11_candidates wsX11_isItem := goodIn_r _ [7, 2, 8, 9, 6, 10, 23, 24, 25, 26, 27, 28, 29, 30, 31, 32, 33, 34, 35, 36, 37, 38, 39, 40, 41, 42, 43, 44, 45, 46] (by decide +kernel) (by decide +kernel)
set_option maxRecDepth 20000 in
theorem gX11_candidates_X11_isItem : GoodIn wsX11_candidates (wsV RX11 186 RX11 yX11_isItem wsX11_isItem) := goodIn_app (goodIn_of _ (by decide +kernel)) ggX11_candidates_X11_isItem
set_option maxRecDepth 20000 in
theorem ggX11_candidates_X11_fail : GoodIn wsX11_candidates wsX11_fail := goodIn_r _ [14, 1, 23, 24, 25, 26, 27, 28, 29, 30, 31, 32, 33, 34, 35, 36, 37, 38, 39, 40, 41, 42, 43, 44, 45, 46] (by decide +kernel) (by decide +kernel)
set_option maxRecDepth 20000 in
theorem gX11_candidates_X11_fail : GoodIn wsX11_candidates (wsV RX11 159 RX11 yX11_fail wsX11_fail) := goodIn_app (goodIn_of _ (by decide +kernel)) ggX11_candidates_X11_fail
set_option maxRecDepth 20000 in
theorem ggX11_candidates_X11_of : GoodIn wsX11_candidates wsX11_of := goodIn_r _ [18, 2, 23, 24, 25, 26, 27, 28, 29, 30, 31, 32, 33, 34, 35, 36, 37, 38, 39, 40, 41, 42, 43, 44, 45, 46] (by decide +kernel) (by decide +kernel)
set_option maxRecDepth 20000 in
theorem gX11_candidates_X11_of : GoodIn wsX11_candidates (wsV RX11 169 RX11 yX11_of wsX11_of) := goodIn_app (goodIn_of _ (by decide +kernel)) ggX11_candidates_X11_of
set_option maxRecDepth 20000 in
theorem ggX11_candidates_X11_mirrors : GoodIn wsX11_candidates wsX11_mirrors := goodIn_r _ [22, 15, 16, 17, 6, 18, 2, 23, 24, 25, 26, 27, 28, 29, 30, 31, 32, 33, 34, 35, 36, 37, 38, 39, 40, 41, 42, 43, 44, 45, 46] (by decide +kernel) (by decide +kernel)
set_option maxRecDepth 20000 in
theorem gX11_candidates_X11_mirrors : GoodIn wsX11_candidates (wsV RX11 198 RX11 yX11_mirrors wsX11_mirrors) := goodIn_app (goodIn_of _ (by decide +kernel)) ggX11_candidates_X11_mirrors
theorem dX11_candidates_0 : decode cX11_candidates 0 = .ok (.aload_n 0, 1) := by decide +kernel
theorem dX11_candidates_1 : decode cX11_candidates 1 = .ok (.iconst 0, 1) := by decide +kernel
theorem dX11_candidates_2 : decode cX11_candidates 2 = .ok (.putfield 58, 3) := by decide +kernel
theorem dX11_candidates_5 : decode cX11_candidates 5 = .ok (.aload_n 0, 1) := by decide +kernel
theorem dX11_candidates_6 : decode cX11_candidates 6 = .ok (.iload_n 1, 1) := by decide +kernel
theorem dX11_candidates_7 : decode cX11_candidates 7 = .ok (.invokevirtual 186, 3) := by decide +kernel
theorem dX11_candidates_10 : decode cX11_candidates 10 = .ok (.ifCond .ne 9, 3) := by decide +kernel
theorem dX11_candidates_13 : decode cX11_candidates 13 = .ok (.aload_n 0, 1) := by decide +kernel
theorem dX11_candidates_14 : decode cX11_candidates 14 = .ok (.iconst 1, 1) := by decide +kernel
theorem dX11_candidates_15 : decode cX11_candidates 15 = .ok (.invokevirtual 159, 3) := by decide +kernel
theorem dX11_candidates_18 : decode cX11_candidates 18 = .ok (.ireturn, 1) := by decide +kernel
theorem dX11_candidates_19 : decode cX11_candidates 19 = .ok (.iconst 0, 1) := by decide +kernel
theorem dX11_candidates_20 : decode cX11_candidates 20 = .ok (.istore_n 2, 1) := by decide +kernel
theorem dX11_candidates_21 : decode cX11_candidates 21 = .ok (.iconst 0, 1) := by decide +kernel
theorem dX11_candidates_22 : decode cX11_candidates 22 = .ok (.istore_n 3, 1) := by decide +kernel
theorem dX11_candidates_23 : decode cX11_candidates 23 = .ok (.iload_n 3, 1) := by decide +kernel
theorem dX11_candidates_24 : decode cX11_candidates 24 = .ok (.aload_n 0, 1) := by decide +kernel
theorem dX11_candidates_25 : decode cX11_candidates 25 = .ok (.getfield 20, 3) := by decide +kernel
theorem dX11_candidates_28 : decode cX11_candidates 28 = .ok (.iconst 0, 1) := by decide +kernel
theorem dX11_candidates_29 : decode cX11_candidates 29 = .ok (.iaload, 1) := by decide +kernel
theorem dX11_candidates_30 : decode cX11_candidates 30 = .ok (.if_icmp .ge 30, 3) := by decide +kernel
theorem dX11_candidates_33 : decode cX11_candidates 33 = .ok (.aload_n 0, 1) := by decide +kernel
theorem dX11_candidates_34 : decode cX11_candidates 34 = .ok (.iload_n 3, 1) := by decide +kernel
theorem dX11_candidates_35 : decode cX11_candidates 35 = .ok (.iconst 4, 1) := by decide +kernel
theorem dX11_candidates_36 : decode cX11_candidates 36 = .ok (.invokevirtual 169, 3) := by decide +kernel
theorem dX11_candidates_39 : decode cX11_candidates 39 = .ok (.ifCond .ne 15, 3) := by decide +kernel
theorem dX11_candidates_42 : decode cX11_candidates 42 = .ok (.aload_n 0, 1) := by decide +kernel
theorem dX11_candidates_43 : decode cX11_candidates 43 = .ok (.iload_n 1, 1) := by decide +kernel
theorem dX11_candidates_44 : decode cX11_candidates 44 = .ok (.iload_n 3, 1) := by decide +kernel
theorem dX11_candidates_45 : decode cX11_candidates 45 = .ok (.invokevirtual 198, 3) := by decide +kernel
theorem dX11_candidates_48 : decode cX11_candidates 48 = .ok (.ifCond .eq 6, 3) := by decide +kernel
theorem dX11_candidates_51 : decode cX11_candidates 51 = .ok (.iinc 2 1, 3) := by decide +kernel
theorem dX11_candidates_54 : decode cX11_candidates 54 = .ok (.iinc 3 1, 3) := by decide +kernel
theorem dX11_candidates_57 : decode cX11_candidates 57 = .ok (.goto (-34), 3) := by decide +kernel
theorem dX11_candidates_60 : decode cX11_candidates 60 = .ok (.iload_n 2, 1) := by decide +kernel
theorem dX11_candidates_61 : decode cX11_candidates 61 = .ok (.ireturn, 1) := by decide +kernel
set_option maxRecDepth 20000 in
theorem ggX11_payableFor_X11_is : GoodIn wsX11_payableFor wsX11_is := goodIn_r _ [7, 8, 9, 10, 6, 11, 1, 30, 31, 32, 33, 34, 35, 36, 37, 38, 39, 40, 41, 42, 43, 44, 45, 46, 47, 48, 49, 50, 51, 52, 53] (by decide +kernel) (by decide +kernel)
set_option maxRecDepth 20000 in
theorem gX11_payableFor_X11_is : GoodIn wsX11_payableFor (wsV RX11 201 RX11 yX11_is wsX11_is) := goodIn_app (goodIn_of _ (by decide +kernel)) ggX11_payableFor_X11_is
set_option maxRecDepth 20000 in
theorem ggX11_payableFor_X11_mirrors : GoodIn wsX11_payableFor wsX11_mirrors := goodIn_r _ [15, 8, 9, 10, 6, 11, 1, 30, 31, 32, 33, 34, 35, 36, 37, 38, 39, 40, 41, 42, 43, 44, 45, 46, 47, 48, 49, 50, 51, 52, 53] (by decide +kernel) (by decide +kernel)
set_option maxRecDepth 20000 in
theorem gX11_payableFor_X11_mirrors : GoodIn wsX11_payableFor (wsV RX11 198 RX11 yX11_mirrors wsX11_mirrors) := goodIn_app (goodIn_of _ (by decide +kernel)) ggX11_payableFor_X11_mirrors
set_option maxRecDepth 20000 in
theorem ggX11_payableFor_X11_valueOf : GoodIn wsX11_payableFor wsX11_valueOf := goodIn_r _ [19, 20, 21, 8, 9, 10, 6, 11, 1, 22, 23, 24, 25, 26, 30, 31, 32, 33, 34, 35, 36, 37, 38, 39, 40, 41, 42, 43, 44, 45, 46, 47, 48, 49, 50, 51, 52, 53] (by decide +kernel) (by decide +kernel)
set_option maxRecDepth 20000 in
theorem gX11_payableFor_X11_valueOf : GoodIn wsX11_payableFor (wsV RX11 191 RX11 yX11_valueOf wsX11_valueOf) := goodIn_app (goodIn_of _ (by decide +kernel)) ggX11_payableFor_X11_valueOf
set_option maxRecDepth 20000 in
theorem ggX11_payableFor_X11_absolute : GoodIn wsX11_payableFor wsX11_absolute := goodIn_r _ [29] (by decide +kernel) (by decide +kernel)
set_option maxRecDepth 20000 in
theorem gX11_payableFor_X11_absolute : GoodIn wsX11_payableFor (va_wsS RX11 205 yX11_absolute wsX11_absolute) := goodIn_app (goodIn_of _ (by decide +kernel)) ggX11_payableFor_X11_absolute
theorem dX11_payableFor_0 : decode cX11_payableFor 0 = .ok (.iconst (-1), 1) := by decide +kernel
theorem dX11_payableFor_1 : decode cX11_payableFor 1 = .ok (.istore_n 2, 1) := by decide +kernel
theorem dX11_payableFor_2 : decode cX11_payableFor 2 = .ok (.iconst 0, 1) := by decide +kernel
theorem dX11_payableFor_3 : decode cX11_payableFor 3 = .ok (.istore_n 3, 1) := by decide +kernel
theorem dX11_payableFor_4 : decode cX11_payableFor 4 = .ok (.iload_n 3, 1) := by decide +kernel
theorem dX11_payableFor_5 : decode cX11_payableFor 5 = .ok (.aload_n 0, 1) := by decide +kernel
theorem dX11_payableFor_6 : decode cX11_payableFor 6 = .ok (.getfield 20, 3) := by decide +kernel
theorem dX11_payableFor_9 : decode cX11_payableFor 9 = .ok (.iconst 0, 1) := by decide +kernel
theorem dX11_payableFor_10 : decode cX11_payableFor 10 = .ok (.iaload, 1) := by decide +kernel
theorem dX11_payableFor_11 : decode cX11_payableFor 11 = .ok (.if_icmp .ge 78, 3) := by decide +kernel
theorem dX11_payableFor_14 : decode cX11_payableFor 14 = .ok (.aload_n 0, 1) := by decide +kernel
theorem dX11_payableFor_15 : decode cX11_payableFor 15 = .ok (.iload_n 3, 1) := by decide +kernel
theorem dX11_payableFor_16 : decode cX11_payableFor 16 = .ok (.iconst 1, 1) := by decide +kernel
theorem dX11_payableFor_17 : decode cX11_payableFor 17 = .ok (.iconst 0, 1) := by decide +kernel
theorem dX11_payableFor_18 : decode cX11_payableFor 18 = .ok (.invokevirtual 201, 3) := by decide +kernel
theorem dX11_payableFor_21 : decode cX11_payableFor 21 = .ok (.ifCond .eq 62, 3) := by decide +kernel
theorem dX11_payableFor_24 : decode cX11_payableFor 24 = .ok (.aload_n 0, 1) := by decide +kernel
theorem dX11_payableFor_25 : decode cX11_payableFor 25 = .ok (.getfield 43, 3) := by decide +kernel
theorem dX11_payableFor_28 : decode cX11_payableFor 28 = .ok (.iload_n 3, 1) := by decide +kernel
theorem dX11_payableFor_29 : decode cX11_payableFor 29 = .ok (.iaload, 1) := by decide +kernel
theorem dX11_payableFor_30 : decode cX11_payableFor 30 = .ok (.ifCond .ge 53, 3) := by decide +kernel
theorem dX11_payableFor_33 : decode cX11_payableFor 33 = .ok (.aload_n 0, 1) := by decide +kernel
theorem dX11_payableFor_34 : decode cX11_payableFor 34 = .ok (.iload_n 1, 1) := by decide +kernel
theorem dX11_payableFor_35 : decode cX11_payableFor 35 = .ok (.iload_n 3, 1) := by decide +kernel
theorem dX11_payableFor_36 : decode cX11_payableFor 36 = .ok (.invokevirtual 198, 3) := by decide +kernel
theorem dX11_payableFor_39 : decode cX11_payableFor 39 = .ok (.ifCond .ne 6, 3) := by decide +kernel
theorem dX11_payableFor_42 : decode cX11_payableFor 42 = .ok (.goto 41, 3) := by decide +kernel
theorem dX11_payableFor_45 : decode cX11_payableFor 45 = .ok (.iload_n 2, 1) := by decide +kernel
theorem dX11_payableFor_46 : decode cX11_payableFor 46 = .ok (.ifCond .lt 35, 3) := by decide +kernel
theorem dX11_payableFor_49 : decode cX11_payableFor 49 = .ok (.aload_n 0, 1) := by decide +kernel
theorem dX11_payableFor_50 : decode cX11_payableFor 50 = .ok (.iload_n 1, 1) := by decide +kernel
theorem dX11_payableFor_51 : decode cX11_payableFor 51 = .ok (.invokevirtual 191, 3) := by decide +kernel
theorem dX11_payableFor_54 : decode cX11_payableFor 54 = .ok (.aload_n 0, 1) := by decide +kernel
theorem dX11_payableFor_55 : decode cX11_payableFor 55 = .ok (.iload_n 3, 1) := by decide +kernel
theorem dX11_payableFor_56 : decode cX11_payableFor 56 = .ok (.invokevirtual 191, 3) := by decide +kernel
theorem dX11_payableFor_59 : decode cX11_payableFor 59 = .ok (.lsub, 1) := by decide +kernel
theorem dX11_payableFor_60 : decode cX11_payableFor 60 = .ok (.invokestatic 205, 3) := by decide +kernel
theorem dX11_payableFor_63 : decode cX11_payableFor 63 = .ok (.aload_n 0, 1) := by decide +kernel
theorem dX11_payableFor_64 : decode cX11_payableFor 64 = .ok (.iload_n 1, 1) := by decide +kernel
theorem dX11_payableFor_65 : decode cX11_payableFor 65 = .ok (.invokevirtual 191, 3) := by decide +kernel
theorem dX11_payableFor_68 : decode cX11_payableFor 68 = .ok (.aload_n 0, 1) := by decide +kernel
theorem dX11_payableFor_69 : decode cX11_payableFor 69 = .ok (.iload_n 2, 1) := by decide +kernel
theorem dX11_payableFor_70 : decode cX11_payableFor 70 = .ok (.invokevirtual 191, 3) := by decide +kernel
theorem dX11_payableFor_73 : decode cX11_payableFor 73 = .ok (.lsub, 1) := by decide +kernel
theorem dX11_payableFor_74 : decode cX11_payableFor 74 = .ok (.invokestatic 205, 3) := by decide +kernel
theorem dX11_payableFor_77 : decode cX11_payableFor 77 = .ok (.lcmp, 1) := by decide +kernel
theorem dX11_payableFor_78 : decode cX11_payableFor 78 = .ok (.ifCond .ge 5, 3) := by decide +kernel
theorem dX11_payableFor_81 : decode cX11_payableFor 81 = .ok (.iload_n 3, 1) := by decide +kernel
theorem dX11_payableFor_82 : decode cX11_payableFor 82 = .ok (.istore_n 2, 1) := by decide +kernel
theorem dX11_payableFor_83 : decode cX11_payableFor 83 = .ok (.iinc 3 1, 3) := by decide +kernel
theorem dX11_payableFor_86 : decode cX11_payableFor 86 = .ok (.goto (-82), 3) := by decide +kernel
theorem dX11_payableFor_89 : decode cX11_payableFor 89 = .ok (.iload_n 2, 1) := by decide +kernel
theorem dX11_payableFor_90 : decode cX11_payableFor 90 = .ok (.ireturn, 1) := by decide +kernel
set_option maxRecDepth 20000 in
theorem ggX11_laysRun_X11_is : GoodIn wsX11_laysRun wsX11_is := goodIn_r _ [7, 8, 9, 10, 6, 11, 2, 34, 35, 36, 37, 38, 39, 40, 41, 42, 43, 44, 45, 46, 47, 48, 49, 50, 51, 52, 53, 54, 55, 56, 57] (by decide +kernel) (by decide +kernel)
set_option maxRecDepth 20000 in
theorem gX11_laysRun_X11_is : GoodIn wsX11_laysRun (wsV RX11 201 RX11 yX11_is wsX11_is) := goodIn_app (goodIn_of _ (by decide +kernel)) ggX11_laysRun_X11_is
set_option maxRecDepth 20000 in
theorem ggX11_laysRun_X11_payableFor : GoodIn wsX11_laysRun wsX11_payableFor := goodIn_r _ [15, 2, 1, 3, 4, 5, 6, 7, 8, 9, 10, 11, 16, 17, 18, 19, 20, 21, 22, 23, 24, 25, 26, 27, 28, 29, 30, 31, 32, 33, 34, 35, 36, 37, 38, 39, 40, 41, 42, 43, 44, 45, 46, 47, 48, 49, 50, 51, 52, 53, 54, 55, 56, 57] (by decide +kernel) (by decide +kernel)
set_option maxRecDepth 20000 in
theorem gX11_laysRun_X11_payableFor : GoodIn wsX11_laysRun (wsV RX11 209 RX11 yX11_payableFor wsX11_payableFor) := goodIn_app (goodIn_of _ (by decide +kernel)) ggX11_laysRun_X11_payableFor
theorem dX11_laysRun_0 : decode cX11_laysRun 0 = .ok (.iconst 0, 1) := by decide +kernel
theorem dX11_laysRun_1 : decode cX11_laysRun 1 = .ok (.istore_n 1, 1) := by decide +kernel
theorem dX11_laysRun_2 : decode cX11_laysRun 2 = .ok (.iload_n 1, 1) := by decide +kernel
theorem dX11_laysRun_3 : decode cX11_laysRun 3 = .ok (.bipush 100, 2) := by decide +kernel
theorem dX11_laysRun_5 : decode cX11_laysRun 5 = .ok (.if_icmp .ge 16, 3) := by decide +kernel
theorem dX11_laysRun_8 : decode cX11_laysRun 8 = .ok (.aload_n 0, 1) := by decide +kernel
theorem dX11_laysRun_9 : decode cX11_laysRun 9 = .ok (.getfield 43, 3) := by decide +kernel
theorem dX11_laysRun_12 : decode cX11_laysRun 12 = .ok (.iload_n 1, 1) := by decide +kernel
theorem dX11_laysRun_13 : decode cX11_laysRun 13 = .ok (.iconst (-1), 1) := by decide +kernel
theorem dX11_laysRun_14 : decode cX11_laysRun 14 = .ok (.iastore, 1) := by decide +kernel
theorem dX11_laysRun_15 : decode cX11_laysRun 15 = .ok (.iinc 1 1, 3) := by decide +kernel
theorem dX11_laysRun_18 : decode cX11_laysRun 18 = .ok (.goto (-16), 3) := by decide +kernel
theorem dX11_laysRun_21 : decode cX11_laysRun 21 = .ok (.iconst 0, 1) := by decide +kernel
theorem dX11_laysRun_22 : decode cX11_laysRun 22 = .ok (.istore_n 1, 1) := by decide +kernel
theorem dX11_laysRun_23 : decode cX11_laysRun 23 = .ok (.iload_n 1, 1) := by decide +kernel
theorem dX11_laysRun_24 : decode cX11_laysRun 24 = .ok (.aload_n 0, 1) := by decide +kernel
theorem dX11_laysRun_25 : decode cX11_laysRun 25 = .ok (.getfield 20, 3) := by decide +kernel
theorem dX11_laysRun_28 : decode cX11_laysRun 28 = .ok (.iconst 0, 1) := by decide +kernel
theorem dX11_laysRun_29 : decode cX11_laysRun 29 = .ok (.iaload, 1) := by decide +kernel
theorem dX11_laysRun_30 : decode cX11_laysRun 30 = .ok (.if_icmp .ge 50, 3) := by decide +kernel
theorem dX11_laysRun_33 : decode cX11_laysRun 33 = .ok (.aload_n 0, 1) := by decide +kernel
theorem dX11_laysRun_34 : decode cX11_laysRun 34 = .ok (.iload_n 1, 1) := by decide +kernel
theorem dX11_laysRun_35 : decode cX11_laysRun 35 = .ok (.iconst 0, 1) := by decide +kernel
theorem dX11_laysRun_36 : decode cX11_laysRun 36 = .ok (.iconst 0, 1) := by decide +kernel
theorem dX11_laysRun_37 : decode cX11_laysRun 37 = .ok (.invokevirtual 201, 3) := by decide +kernel
theorem dX11_laysRun_40 : decode cX11_laysRun 40 = .ok (.ifCond .eq 11, 3) := by decide +kernel
theorem dX11_laysRun_43 : decode cX11_laysRun 43 = .ok (.aload_n 0, 1) := by decide +kernel
theorem dX11_laysRun_44 : decode cX11_laysRun 44 = .ok (.iload_n 1, 1) := by decide +kernel
theorem dX11_laysRun_45 : decode cX11_laysRun 45 = .ok (.invokevirtual 209, 3) := by decide +kernel
theorem dX11_laysRun_48 : decode cX11_laysRun 48 = .ok (.goto 4, 3) := by decide +kernel
theorem dX11_laysRun_51 : decode cX11_laysRun 51 = .ok (.iconst (-1), 1) := by decide +kernel
theorem dX11_laysRun_52 : decode cX11_laysRun 52 = .ok (.istore_n 2, 1) := by decide +kernel
theorem dX11_laysRun_53 : decode cX11_laysRun 53 = .ok (.iload_n 2, 1) := by decide +kernel
theorem dX11_laysRun_54 : decode cX11_laysRun 54 = .ok (.ifCond .ge 6, 3) := by decide +kernel
theorem dX11_laysRun_57 : decode cX11_laysRun 57 = .ok (.goto 17, 3) := by decide +kernel
theorem dX11_laysRun_60 : decode cX11_laysRun 60 = .ok (.aload_n 0, 1) := by decide +kernel
theorem dX11_laysRun_61 : decode cX11_laysRun 61 = .ok (.getfield 43, 3) := by decide +kernel
theorem dX11_laysRun_64 : decode cX11_laysRun 64 = .ok (.iload_n 1, 1) := by decide +kernel
theorem dX11_laysRun_65 : decode cX11_laysRun 65 = .ok (.iload_n 2, 1) := by decide +kernel
theorem dX11_laysRun_66 : decode cX11_laysRun 66 = .ok (.iastore, 1) := by decide +kernel
theorem dX11_laysRun_67 : decode cX11_laysRun 67 = .ok (.aload_n 0, 1) := by decide +kernel
theorem dX11_laysRun_68 : decode cX11_laysRun 68 = .ok (.getfield 43, 3) := by decide +kernel
theorem dX11_laysRun_71 : decode cX11_laysRun 71 = .ok (.iload_n 2, 1) := by decide +kernel
theorem dX11_laysRun_72 : decode cX11_laysRun 72 = .ok (.iload_n 1, 1) := by decide +kernel
theorem dX11_laysRun_73 : decode cX11_laysRun 73 = .ok (.iastore, 1) := by decide +kernel
theorem dX11_laysRun_74 : decode cX11_laysRun 74 = .ok (.iinc 1 1, 3) := by decide +kernel
theorem dX11_laysRun_77 : decode cX11_laysRun 77 = .ok (.goto (-54), 3) := by decide +kernel
theorem dX11_laysRun_80 : decode cX11_laysRun 80 = .ok (.return_, 1) := by decide +kernel
set_option maxRecDepth 20000 in
theorem ggX11_wouldDiffer_X11_valueOf : GoodIn wsX11_wouldDiffer wsX11_valueOf := goodIn_r _ [6, 7, 8, 9, 10, 11, 5, 12, 13, 14, 15, 16, 17, 18, 22, 23, 24, 25, 26, 27, 28, 29, 30, 31, 32, 33, 34, 35, 36, 37, 38, 39, 40, 41, 42, 43, 44, 45] (by decide +kernel) (by decide +kernel)
set_option maxRecDepth 20000 in
theorem gX11_wouldDiffer_X11_valueOf : GoodIn wsX11_wouldDiffer (wsV RX11 191 RX11 yX11_valueOf wsX11_valueOf) := goodIn_app (goodIn_of _ (by decide +kernel)) ggX11_wouldDiffer_X11_valueOf
set_option maxRecDepth 20000 in
theorem ggX11_wouldDiffer_X11_absolute : GoodIn wsX11_wouldDiffer wsX11_absolute := goodIn_r _ [21] (by decide +kernel) (by decide +kernel)
set_option maxRecDepth 20000 in
theorem gX11_wouldDiffer_X11_absolute : GoodIn wsX11_wouldDiffer (va_wsS RX11 205 yX11_absolute wsX11_absolute) := goodIn_app (goodIn_of _ (by decide +kernel)) ggX11_wouldDiffer_X11_absolute
theorem dX11_wouldDiffer_0 : decode cX11_wouldDiffer 0 = .ok (.aload_n 0, 1) := by decide +kernel
theorem dX11_wouldDiffer_1 : decode cX11_wouldDiffer 1 = .ok (.iload_n 1, 1) := by decide +kernel
theorem dX11_wouldDiffer_2 : decode cX11_wouldDiffer 2 = .ok (.invokevirtual 191, 3) := by decide +kernel
theorem dX11_wouldDiffer_5 : decode cX11_wouldDiffer 5 = .ok (.aload_n 0, 1) := by decide +kernel
theorem dX11_wouldDiffer_6 : decode cX11_wouldDiffer 6 = .ok (.aload_n 0, 1) := by decide +kernel
theorem dX11_wouldDiffer_7 : decode cX11_wouldDiffer 7 = .ok (.getfield 43, 3) := by decide +kernel
theorem dX11_wouldDiffer_10 : decode cX11_wouldDiffer 10 = .ok (.iload_n 1, 1) := by decide +kernel
theorem dX11_wouldDiffer_11 : decode cX11_wouldDiffer 11 = .ok (.iaload, 1) := by decide +kernel
theorem dX11_wouldDiffer_12 : decode cX11_wouldDiffer 12 = .ok (.invokevirtual 191, 3) := by decide +kernel
theorem dX11_wouldDiffer_15 : decode cX11_wouldDiffer 15 = .ok (.lsub, 1) := by decide +kernel
theorem dX11_wouldDiffer_16 : decode cX11_wouldDiffer 16 = .ok (.invokestatic 205, 3) := by decide +kernel
theorem dX11_wouldDiffer_19 : decode cX11_wouldDiffer 19 = .ok (.lreturn, 1) := by decide +kernel
set_option maxRecDepth 20000 in
theorem ggX11_wouldPair_X11_isItem : GoodIn wsX11_wouldPair wsX11_isItem := goodIn_r _ [7, 8, 9, 10, 6, 11, 50, 51, 52, 53, 54, 55, 56, 57, 58, 59, 60, 61, 62, 63, 64, 65, 66, 67, 68, 69, 70, 71, 72, 73] (by decide +kernel) (by decide +kernel)
set_option maxRecDepth 20000 in
theorem gX11_wouldPair_X11_isItem : GoodIn wsX11_wouldPair (wsV RX11 186 RX11 yX11_isItem wsX11_isItem) := goodIn_app (goodIn_of _ (by decide +kernel)) ggX11_wouldPair_X11_isItem
set_option maxRecDepth 20000 in
theorem ggX11_wouldPair_X11_fail : GoodIn wsX11_wouldPair wsX11_fail := goodIn_r _ [15, 1, 50, 51, 52, 53, 54, 55, 56, 57, 58, 59, 60, 61, 62, 63, 64, 65, 66, 67, 68, 69, 70, 71, 72, 73] (by decide +kernel) (by decide +kernel)
set_option maxRecDepth 20000 in
theorem gX11_wouldPair_X11_fail : GoodIn wsX11_wouldPair (wsV RX11 159 RX11 yX11_fail wsX11_fail) := goodIn_app (goodIn_of _ (by decide +kernel)) ggX11_wouldPair_X11_fail
set_option maxRecDepth 20000 in
theorem ggX11_wouldPair_X11_is : GoodIn wsX11_wouldPair wsX11_is := goodIn_r _ [19, 20, 21, 22, 6, 23, 8, 50, 51, 52, 53, 54, 55, 56, 57, 58, 59, 60, 61, 62, 63, 64, 65, 66, 67, 68, 69, 70, 71, 72, 73] (by decide +kernel) (by decide +kernel)
set_option maxRecDepth 20000 in
theorem gX11_wouldPair_X11_is : GoodIn wsX11_wouldPair (wsV RX11 201 RX11 yX11_is wsX11_is) := goodIn_app (goodIn_of _ (by decide +kernel)) ggX11_wouldPair_X11_is
set_option maxRecDepth 20000 in
theorem ggX11_wouldPair_X11_laysRun : GoodIn wsX11_wouldPair wsX11_laysRun := goodIn_r _ [27, 2, 8, 16, 17, 18, 6, 19, 20, 21, 22, 23, 28, 29, 30, 31, 32, 33, 34, 35, 36, 37, 38, 39, 40, 41, 42, 43, 44, 45, 46, 47, 48, 49, 50, 51, 52, 53, 54, 55, 56, 57, 58, 59, 60, 61, 62, 63, 64, 65, 66, 67, 68, 69, 70, 71, 72, 73] (by decide +kernel) (by decide +kernel)
set_option maxRecDepth 20000 in
theorem gX11_wouldPair_X11_laysRun : GoodIn wsX11_wouldPair (wsV RX11 212 RX11 yX11_laysRun wsX11_laysRun) := goodIn_app (goodIn_of _ (by decide +kernel)) ggX11_wouldPair_X11_laysRun
theorem dX11_wouldPair_0 : decode cX11_wouldPair 0 = .ok (.aload_n 0, 1) := by decide +kernel
theorem dX11_wouldPair_1 : decode cX11_wouldPair 1 = .ok (.iconst 0, 1) := by decide +kernel
theorem dX11_wouldPair_2 : decode cX11_wouldPair 2 = .ok (.putfield 58, 3) := by decide +kernel
theorem dX11_wouldPair_5 : decode cX11_wouldPair 5 = .ok (.aload_n 0, 1) := by decide +kernel
theorem dX11_wouldPair_6 : decode cX11_wouldPair 6 = .ok (.iload_n 1, 1) := by decide +kernel
theorem dX11_wouldPair_7 : decode cX11_wouldPair 7 = .ok (.invokevirtual 186, 3) := by decide +kernel
theorem dX11_wouldPair_10 : decode cX11_wouldPair 10 = .ok (.ifCond .ne 9, 3) := by decide +kernel
theorem dX11_wouldPair_13 : decode cX11_wouldPair 13 = .ok (.aload_n 0, 1) := by decide +kernel
theorem dX11_wouldPair_14 : decode cX11_wouldPair 14 = .ok (.iconst 1, 1) := by decide +kernel
theorem dX11_wouldPair_15 : decode cX11_wouldPair 15 = .ok (.invokevirtual 159, 3) := by decide +kernel
theorem dX11_wouldPair_18 : decode cX11_wouldPair 18 = .ok (.ireturn, 1) := by decide +kernel
theorem dX11_wouldPair_19 : decode cX11_wouldPair 19 = .ok (.aload_n 0, 1) := by decide +kernel
theorem dX11_wouldPair_20 : decode cX11_wouldPair 20 = .ok (.iload_n 1, 1) := by decide +kernel
theorem dX11_wouldPair_21 : decode cX11_wouldPair 21 = .ok (.iconst 0, 1) := by decide +kernel
theorem dX11_wouldPair_22 : decode cX11_wouldPair 22 = .ok (.iconst 0, 1) := by decide +kernel
theorem dX11_wouldPair_23 : decode cX11_wouldPair 23 = .ok (.invokevirtual 201, 3) := by decide +kernel
theorem dX11_wouldPair_26 : decode cX11_wouldPair 26 = .ok (.ifCond .ne 9, 3) := by decide +kernel
theorem dX11_wouldPair_29 : decode cX11_wouldPair 29 = .ok (.aload_n 0, 1) := by decide +kernel
theorem dX11_wouldPair_30 : decode cX11_wouldPair 30 = .ok (.iconst 2, 1) := by decide +kernel
theorem dX11_wouldPair_31 : decode cX11_wouldPair 31 = .ok (.invokevirtual 159, 3) := by decide +kernel
theorem dX11_wouldPair_34 : decode cX11_wouldPair 34 = .ok (.ireturn, 1) := by decide +kernel
theorem dX11_wouldPair_35 : decode cX11_wouldPair 35 = .ok (.aload_n 0, 1) := by decide +kernel
theorem dX11_wouldPair_36 : decode cX11_wouldPair 36 = .ok (.invokevirtual 212, 3) := by decide +kernel
theorem dX11_wouldPair_39 : decode cX11_wouldPair 39 = .ok (.aload_n 0, 1) := by decide +kernel
theorem dX11_wouldPair_40 : decode cX11_wouldPair 40 = .ok (.getfield 43, 3) := by decide +kernel
theorem dX11_wouldPair_43 : decode cX11_wouldPair 43 = .ok (.iload_n 1, 1) := by decide +kernel
theorem dX11_wouldPair_44 : decode cX11_wouldPair 44 = .ok (.iaload, 1) := by decide +kernel
theorem dX11_wouldPair_45 : decode cX11_wouldPair 45 = .ok (.ireturn, 1) := by decide +kernel
set_option maxRecDepth 20000 in
theorem ggX11_toleranceNeeded_X11_laysRun : GoodIn wsX11_toleranceNeeded wsX11_laysRun := goodIn_r _ [9, 4, 3, 10, 11, 12, 8, 13, 14, 15, 16, 17, 18, 19, 20, 21, 22, 23, 24, 25, 26, 27, 28, 29, 30, 31, 32, 33, 34, 35, 36, 37, 38, 39, 44, 45, 46, 47, 48, 49, 50, 51, 52, 53, 54, 55, 56, 57, 58, 59, 60, 61, 62, 63, 64, 65, 66, 67] (by decide +kernel) (by decide +kernel)
set_option maxRecDepth 20000 in
theorem gX11_toleranceNeeded_X11_laysRun : GoodIn wsX11_toleranceNeeded (wsV RX11 212 RX11 yX11_laysRun wsX11_laysRun) := goodIn_app (goodIn_of _ (by decide +kernel)) ggX11_toleranceNeeded_X11_laysRun
set_option maxRecDepth 20000 in
theorem ggX11_toleranceNeeded_X11_wouldDiffer : GoodIn wsX11_toleranceNeeded wsX11_wouldDiffer := goodIn_r _ [43, 4, 26, 27, 28, 8, 29, 30, 31, 14, 15, 16, 17, 3, 32, 33, 34, 35, 36, 37, 38, 39, 44, 45, 46, 47, 48, 49, 50, 51, 52, 53, 54, 55, 56, 57, 58, 59, 60, 61, 62, 63, 64, 65, 66, 67] (by decide +kernel) (by decide +kernel)
set_option maxRecDepth 20000 in
theorem gX11_toleranceNeeded_X11_wouldDiffer : GoodIn wsX11_toleranceNeeded (wsV RX11 217 RX11 yX11_wouldDiffer wsX11_wouldDiffer) := goodIn_app (goodIn_of _ (by decide +kernel)) ggX11_toleranceNeeded_X11_wouldDiffer
theorem dX11_toleranceNeeded_0 : decode cX11_toleranceNeeded 0 = .ok (.aload_n 0, 1) := by decide +kernel
theorem dX11_toleranceNeeded_1 : decode cX11_toleranceNeeded 1 = .ok (.iconst 0, 1) := by decide +kernel
theorem dX11_toleranceNeeded_2 : decode cX11_toleranceNeeded 2 = .ok (.putfield 58, 3) := by decide +kernel
theorem dX11_toleranceNeeded_5 : decode cX11_toleranceNeeded 5 = .ok (.aload_n 0, 1) := by decide +kernel
theorem dX11_toleranceNeeded_6 : decode cX11_toleranceNeeded 6 = .ok (.invokevirtual 212, 3) := by decide +kernel
theorem dX11_toleranceNeeded_9 : decode cX11_toleranceNeeded 9 = .ok (.ldc2_w 215, 3) := by decide +kernel
theorem dX11_toleranceNeeded_12 : decode cX11_toleranceNeeded 12 = .ok (.lstore_n 1, 1) := by decide +kernel
theorem dX11_toleranceNeeded_13 : decode cX11_toleranceNeeded 13 = .ok (.iconst 0, 1) := by decide +kernel
theorem dX11_toleranceNeeded_14 : decode cX11_toleranceNeeded 14 = .ok (.istore_n 3, 1) := by decide +kernel
theorem dX11_toleranceNeeded_15 : decode cX11_toleranceNeeded 15 = .ok (.iload_n 3, 1) := by decide +kernel
theorem dX11_toleranceNeeded_16 : decode cX11_toleranceNeeded 16 = .ok (.aload_n 0, 1) := by decide +kernel
theorem dX11_toleranceNeeded_17 : decode cX11_toleranceNeeded 17 = .ok (.getfield 20, 3) := by decide +kernel
theorem dX11_toleranceNeeded_20 : decode cX11_toleranceNeeded 20 = .ok (.iconst 0, 1) := by decide +kernel
theorem dX11_toleranceNeeded_21 : decode cX11_toleranceNeeded 21 = .ok (.iaload, 1) := by decide +kernel
theorem dX11_toleranceNeeded_22 : decode cX11_toleranceNeeded 22 = .ok (.if_icmp .ge 34, 3) := by decide +kernel
theorem dX11_toleranceNeeded_25 : decode cX11_toleranceNeeded 25 = .ok (.aload_n 0, 1) := by decide +kernel
theorem dX11_toleranceNeeded_26 : decode cX11_toleranceNeeded 26 = .ok (.getfield 43, 3) := by decide +kernel
theorem dX11_toleranceNeeded_29 : decode cX11_toleranceNeeded 29 = .ok (.iload_n 3, 1) := by decide +kernel
theorem dX11_toleranceNeeded_30 : decode cX11_toleranceNeeded 30 = .ok (.iaload, 1) := by decide +kernel
theorem dX11_toleranceNeeded_31 : decode cX11_toleranceNeeded 31 = .ok (.ifCond .lt 19, 3) := by decide +kernel
theorem dX11_toleranceNeeded_34 : decode cX11_toleranceNeeded 34 = .ok (.aload_n 0, 1) := by decide +kernel
theorem dX11_toleranceNeeded_35 : decode cX11_toleranceNeeded 35 = .ok (.iload_n 3, 1) := by decide +kernel
theorem dX11_toleranceNeeded_36 : decode cX11_toleranceNeeded 36 = .ok (.invokevirtual 217, 3) := by decide +kernel
theorem dX11_toleranceNeeded_39 : decode cX11_toleranceNeeded 39 = .ok (.lload_n 1, 1) := by decide +kernel
theorem dX11_toleranceNeeded_40 : decode cX11_toleranceNeeded 40 = .ok (.lcmp, 1) := by decide +kernel
theorem dX11_toleranceNeeded_41 : decode cX11_toleranceNeeded 41 = .ok (.ifCond .le 9, 3) := by decide +kernel
theorem dX11_toleranceNeeded_44 : decode cX11_toleranceNeeded 44 = .ok (.aload_n 0, 1) := by decide +kernel
theorem dX11_toleranceNeeded_45 : decode cX11_toleranceNeeded 45 = .ok (.iload_n 3, 1) := by decide +kernel
theorem dX11_toleranceNeeded_46 : decode cX11_toleranceNeeded 46 = .ok (.invokevirtual 217, 3) := by decide +kernel
theorem dX11_toleranceNeeded_49 : decode cX11_toleranceNeeded 49 = .ok (.lstore_n 1, 1) := by decide +kernel
theorem dX11_toleranceNeeded_50 : decode cX11_toleranceNeeded 50 = .ok (.iinc 3 1, 3) := by decide +kernel
theorem dX11_toleranceNeeded_53 : decode cX11_toleranceNeeded 53 = .ok (.goto (-38), 3) := by decide +kernel
theorem dX11_toleranceNeeded_56 : decode cX11_toleranceNeeded 56 = .ok (.lload_n 1, 1) := by decide +kernel
theorem dX11_toleranceNeeded_57 : decode cX11_toleranceNeeded 57 = .ok (.lreturn, 1) := by decide +kernel
set_option maxRecDepth 20000 in
theorem ggX11_pairs_X11_is : GoodIn wsX11_pairs wsX11_is := goodIn_r _ [6, 7, 8, 9, 5, 10, 1, 11, 12, 13, 14, 15, 16, 17, 18, 19, 20, 21, 22, 23, 24, 25, 26, 27, 28, 29, 30, 31, 32, 33, 34] (by decide +kernel) (by decide +kernel)
set_option maxRecDepth 20000 in
theorem gX11_pairs_X11_is : GoodIn wsX11_pairs (wsV RX11 201 RX11 yX11_is wsX11_is) := goodIn_app (goodIn_of _ (by decide +kernel)) ggX11_pairs_X11_is
theorem dX11_pairs_0 : decode cX11_pairs 0 = .ok (.iconst 0, 1) := by decide +kernel
theorem dX11_pairs_1 : decode cX11_pairs 1 = .ok (.istore_n 2, 1) := by decide +kernel
theorem dX11_pairs_2 : decode cX11_pairs 2 = .ok (.iconst 0, 1) := by decide +kernel
theorem dX11_pairs_3 : decode cX11_pairs 3 = .ok (.istore_n 3, 1) := by decide +kernel
theorem dX11_pairs_4 : decode cX11_pairs 4 = .ok (.iload_n 3, 1) := by decide +kernel
theorem dX11_pairs_5 : decode cX11_pairs 5 = .ok (.aload_n 0, 1) := by decide +kernel
theorem dX11_pairs_6 : decode cX11_pairs 6 = .ok (.getfield 20, 3) := by decide +kernel
theorem dX11_pairs_9 : decode cX11_pairs 9 = .ok (.iconst 0, 1) := by decide +kernel
theorem dX11_pairs_10 : decode cX11_pairs 10 = .ok (.iaload, 1) := by decide +kernel
theorem dX11_pairs_11 : decode cX11_pairs 11 = .ok (.if_icmp .ge 22, 3) := by decide +kernel
theorem dX11_pairs_14 : decode cX11_pairs 14 = .ok (.aload_n 0, 1) := by decide +kernel
theorem dX11_pairs_15 : decode cX11_pairs 15 = .ok (.iload_n 3, 1) := by decide +kernel
theorem dX11_pairs_16 : decode cX11_pairs 16 = .ok (.iconst 0, 1) := by decide +kernel
theorem dX11_pairs_17 : decode cX11_pairs 17 = .ok (.iload_n 1, 1) := by decide +kernel
theorem dX11_pairs_18 : decode cX11_pairs 18 = .ok (.invokevirtual 201, 3) := by decide +kernel
theorem dX11_pairs_21 : decode cX11_pairs 21 = .ok (.ifCond .eq 6, 3) := by decide +kernel
theorem dX11_pairs_24 : decode cX11_pairs 24 = .ok (.iinc 2 1, 3) := by decide +kernel
theorem dX11_pairs_27 : decode cX11_pairs 27 = .ok (.iinc 3 1, 3) := by decide +kernel
theorem dX11_pairs_30 : decode cX11_pairs 30 = .ok (.goto (-26), 3) := by decide +kernel
theorem dX11_pairs_33 : decode cX11_pairs 33 = .ok (.iload_n 2, 1) := by decide +kernel
theorem dX11_pairs_34 : decode cX11_pairs 34 = .ok (.ireturn, 1) := by decide +kernel
set_option maxRecDepth 20000 in
theorem ggX11_matchRate_X11_pairs : GoodIn wsX11_matchRate wsX11_pairs := goodIn_r _ [6, 7, 8, 9, 10, 5, 11, 12, 13, 14, 15, 16, 17, 18, 19, 20, 21, 22, 23, 24, 25, 26, 27, 28, 29, 30, 31, 32, 33, 34, 35, 36, 37, 38, 39] (by decide +kernel) (by decide +kernel)
set_option maxRecDepth 20000 in
theorem gX11_matchRate_X11_pairs : GoodIn wsX11_matchRate (wsV RX11 220 RX11 yX11_pairs wsX11_pairs) := goodIn_app (goodIn_of _ (by decide +kernel)) ggX11_matchRate_X11_pairs
theorem dX11_matchRate_0 : decode cX11_matchRate 0 = .ok (.aload_n 0, 1) := by decide +kernel
theorem dX11_matchRate_1 : decode cX11_matchRate 1 = .ok (.iconst 0, 1) := by decide +kernel
theorem dX11_matchRate_2 : decode cX11_matchRate 2 = .ok (.putfield 58, 3) := by decide +kernel
theorem dX11_matchRate_5 : decode cX11_matchRate 5 = .ok (.aload_n 0, 1) := by decide +kernel
theorem dX11_matchRate_6 : decode cX11_matchRate 6 = .ok (.iconst 1, 1) := by decide +kernel
theorem dX11_matchRate_7 : decode cX11_matchRate 7 = .ok (.invokevirtual 220, 3) := by decide +kernel
theorem dX11_matchRate_10 : decode cX11_matchRate 10 = .ok (.aload_n 0, 1) := by decide +kernel
theorem dX11_matchRate_11 : decode cX11_matchRate 11 = .ok (.iconst 3, 1) := by decide +kernel
theorem dX11_matchRate_12 : decode cX11_matchRate 12 = .ok (.invokevirtual 220, 3) := by decide +kernel
theorem dX11_matchRate_15 : decode cX11_matchRate 15 = .ok (.iadd, 1) := by decide +kernel
theorem dX11_matchRate_16 : decode cX11_matchRate 16 = .ok (.istore_n 1, 1) := by decide +kernel
theorem dX11_matchRate_17 : decode cX11_matchRate 17 = .ok (.iload_n 1, 1) := by decide +kernel
theorem dX11_matchRate_18 : decode cX11_matchRate 18 = .ok (.aload_n 0, 1) := by decide +kernel
theorem dX11_matchRate_19 : decode cX11_matchRate 19 = .ok (.iconst 2, 1) := by decide +kernel
theorem dX11_matchRate_20 : decode cX11_matchRate 20 = .ok (.invokevirtual 220, 3) := by decide +kernel
theorem dX11_matchRate_23 : decode cX11_matchRate 23 = .ok (.iadd, 1) := by decide +kernel
theorem dX11_matchRate_24 : decode cX11_matchRate 24 = .ok (.istore_n 2, 1) := by decide +kernel
theorem dX11_matchRate_25 : decode cX11_matchRate 25 = .ok (.iload_n 2, 1) := by decide +kernel
theorem dX11_matchRate_26 : decode cX11_matchRate 26 = .ok (.ifCond .ne 7, 3) := by decide +kernel
theorem dX11_matchRate_29 : decode cX11_matchRate 29 = .ok (.fconst 0, 1) := by decide +kernel
theorem dX11_matchRate_30 : decode cX11_matchRate 30 = .ok (.goto 8, 3) := by decide +kernel
theorem dX11_matchRate_33 : decode cX11_matchRate 33 = .ok (.iload_n 1, 1) := by decide +kernel
theorem dX11_matchRate_34 : decode cX11_matchRate 34 = .ok (.i2f, 1) := by decide +kernel
theorem dX11_matchRate_35 : decode cX11_matchRate 35 = .ok (.iload_n 2, 1) := by decide +kernel
theorem dX11_matchRate_36 : decode cX11_matchRate 36 = .ok (.i2f, 1) := by decide +kernel
theorem dX11_matchRate_37 : decode cX11_matchRate 37 = .ok (.fdiv, 1) := by decide +kernel
theorem dX11_matchRate_38 : decode cX11_matchRate 38 = .ok (.freturn, 1) := by decide +kernel
set_option maxRecDepth 20000 in
theorem ggX11_counts_X11_of : GoodIn wsX11_counts wsX11_of := goodIn_r _ [5, 6, 7, 8, 9, 10, 11, 12, 13, 14, 15, 16, 17, 18, 19, 20, 21, 22, 23, 24, 25, 26, 27, 28, 29, 30] (by decide +kernel) (by decide +kernel)
set_option maxRecDepth 20000 in
theorem gX11_counts_X11_of : GoodIn wsX11_counts (wsV RX11 169 RX11 yX11_of wsX11_of) := goodIn_app (goodIn_of _ (by decide +kernel)) ggX11_counts_X11_of
theorem dX11_counts_0 : decode cX11_counts 0 = .ok (.aload_n 0, 1) := by decide +kernel
theorem dX11_counts_1 : decode cX11_counts 1 = .ok (.iload_n 1, 1) := by decide +kernel
theorem dX11_counts_2 : decode cX11_counts 2 = .ok (.iconst 4, 1) := by decide +kernel
theorem dX11_counts_3 : decode cX11_counts 3 = .ok (.invokevirtual 169, 3) := by decide +kernel
theorem dX11_counts_6 : decode cX11_counts 6 = .ok (.ifCond .eq 23, 3) := by decide +kernel
theorem dX11_counts_9 : decode cX11_counts 9 = .ok (.aload_n 0, 1) := by decide +kernel
theorem dX11_counts_10 : decode cX11_counts 10 = .ok (.iload_n 1, 1) := by decide +kernel
theorem dX11_counts_11 : decode cX11_counts 11 = .ok (.iconst 4, 1) := by decide +kernel
theorem dX11_counts_12 : decode cX11_counts 12 = .ok (.invokevirtual 169, 3) := by decide +kernel
theorem dX11_counts_15 : decode cX11_counts 15 = .ok (.iconst 1, 1) := by decide +kernel
theorem dX11_counts_16 : decode cX11_counts 16 = .ok (.if_icmp .eq 13, 3) := by decide +kernel
theorem dX11_counts_19 : decode cX11_counts 19 = .ok (.aload_n 0, 1) := by decide +kernel
theorem dX11_counts_20 : decode cX11_counts 20 = .ok (.iload_n 1, 1) := by decide +kernel
theorem dX11_counts_21 : decode cX11_counts 21 = .ok (.iconst 4, 1) := by decide +kernel
theorem dX11_counts_22 : decode cX11_counts 22 = .ok (.invokevirtual 169, 3) := by decide +kernel
theorem dX11_counts_25 : decode cX11_counts 25 = .ok (.iconst 2, 1) := by decide +kernel
theorem dX11_counts_26 : decode cX11_counts 26 = .ok (.if_icmp .ne 7, 3) := by decide +kernel
theorem dX11_counts_29 : decode cX11_counts 29 = .ok (.iconst 1, 1) := by decide +kernel
theorem dX11_counts_30 : decode cX11_counts 30 = .ok (.goto 4, 3) := by decide +kernel
theorem dX11_counts_33 : decode cX11_counts 33 = .ok (.iconst 0, 1) := by decide +kernel
theorem dX11_counts_34 : decode cX11_counts 34 = .ok (.ireturn, 1) := by decide +kernel
set_option maxRecDepth 20000 in
theorem ggX11_balance_X11_isCompany : GoodIn wsX11_balance wsX11_isCompany := goodIn_r _ [7, 8, 9, 10, 6, 11, 30, 31, 32, 33, 34, 35, 36, 37, 38, 39, 40, 41, 42, 43, 44, 45, 46, 47, 48, 49, 50, 51, 52, 53] (by decide +kernel) (by decide +kernel)
set_option maxRecDepth 20000 in
theorem gX11_balance_X11_isCompany : GoodIn wsX11_balance (wsV RX11 177 RX11 yX11_isCompany wsX11_isCompany) := goodIn_app (goodIn_of _ (by decide +kernel)) ggX11_balance_X11_isCompany
set_option maxRecDepth 20000 in
theorem ggX11_balance_X11_counts : GoodIn wsX11_balance wsX11_counts := goodIn_r _ [15, 16, 17, 18, 6, 19, 2, 30, 31, 32, 33, 34, 35, 36, 37, 38, 39, 40, 41, 42, 43, 44, 45, 46, 47, 48, 49, 50, 51, 52, 53] (by decide +kernel) (by decide +kernel)
set_option maxRecDepth 20000 in
theorem gX11_balance_X11_counts : GoodIn wsX11_balance (wsV RX11 223 RX11 yX11_counts wsX11_counts) := goodIn_app (goodIn_of _ (by decide +kernel)) ggX11_balance_X11_counts
set_option maxRecDepth 20000 in
theorem ggX11_balance_X11_of : GoodIn wsX11_balance wsX11_of := goodIn_r _ [19, 2, 30, 31, 32, 33, 34, 35, 36, 37, 38, 39, 40, 41, 42, 43, 44, 45, 46, 47, 48, 49, 50, 51, 52, 53] (by decide +kernel) (by decide +kernel)
set_option maxRecDepth 20000 in
theorem gX11_balance_X11_of : GoodIn wsX11_balance (wsV RX11 169 RX11 yX11_of wsX11_of) := goodIn_app (goodIn_of _ (by decide +kernel)) ggX11_balance_X11_of
set_option maxRecDepth 20000 in
theorem ggX11_balance_X11_valueOf : GoodIn wsX11_balance wsX11_valueOf := goodIn_r _ [23, 24, 25, 16, 17, 18, 6, 19, 2, 26, 27, 28, 29, 8, 30, 31, 32, 33, 34, 35, 36, 37, 38, 39, 40, 41, 42, 43, 44, 45, 46, 47, 48, 49, 50, 51, 52, 53] (by decide +kernel) (by decide +kernel)
set_option maxRecDepth 20000 in
theorem gX11_balance_X11_valueOf : GoodIn wsX11_balance (wsV RX11 191 RX11 yX11_valueOf wsX11_valueOf) := goodIn_app (goodIn_of _ (by decide +kernel)) ggX11_balance_X11_valueOf
theorem dX11_balance_0 : decode cX11_balance 0 = .ok (.aload_n 0, 1) := by decide +kernel
theorem dX11_balance_1 : decode cX11_balance 1 = .ok (.aload_n 0, 1) := by decide +kernel
theorem dX11_balance_2 : decode cX11_balance 2 = .ok (.iload_n 1, 1) := by decide +kernel
theorem dX11_balance_3 : decode cX11_balance 3 = .ok (.invokevirtual 177, 3) := by decide +kernel
theorem dX11_balance_6 : decode cX11_balance 6 = .ok (.ifCond .eq 15, 3) := by decide +kernel
theorem dX11_balance_9 : decode cX11_balance 9 = .ok (.aload_n 0, 1) := by decide +kernel
theorem dX11_balance_10 : decode cX11_balance 10 = .ok (.iload_n 2, 1) := by decide +kernel
theorem dX11_balance_11 : decode cX11_balance 11 = .ok (.invokevirtual 177, 3) := by decide +kernel
theorem dX11_balance_14 : decode cX11_balance 14 = .ok (.ifCond .eq 7, 3) := by decide +kernel
theorem dX11_balance_17 : decode cX11_balance 17 = .ok (.iconst 0, 1) := by decide +kernel
theorem dX11_balance_18 : decode cX11_balance 18 = .ok (.goto 4, 3) := by decide +kernel
theorem dX11_balance_21 : decode cX11_balance 21 = .ok (.iconst 1, 1) := by decide +kernel
theorem dX11_balance_22 : decode cX11_balance 22 = .ok (.putfield 58, 3) := by decide +kernel
theorem dX11_balance_25 : decode cX11_balance 25 = .ok (.aload_n 0, 1) := by decide +kernel
theorem dX11_balance_26 : decode cX11_balance 26 = .ok (.getfield 58, 3) := by decide +kernel
theorem dX11_balance_29 : decode cX11_balance 29 = .ok (.iconst 1, 1) := by decide +kernel
theorem dX11_balance_30 : decode cX11_balance 30 = .ok (.if_icmp .eq 8, 3) := by decide +kernel
theorem dX11_balance_33 : decode cX11_balance 33 = .ok (.iload_n 1, 1) := by decide +kernel
theorem dX11_balance_34 : decode cX11_balance 34 = .ok (.iload_n 2, 1) := by decide +kernel
theorem dX11_balance_35 : decode cX11_balance 35 = .ok (.if_icmp .ne 5, 3) := by decide +kernel
theorem dX11_balance_38 : decode cX11_balance 38 = .ok (.lconst 0, 1) := by decide +kernel
theorem dX11_balance_39 : decode cX11_balance 39 = .ok (.lreturn, 1) := by decide +kernel
theorem dX11_balance_40 : decode cX11_balance 40 = .ok (.lconst 0, 1) := by decide +kernel
theorem dX11_balance_41 : decode cX11_balance 41 = .ok (.lstore_n 3, 1) := by decide +kernel
theorem dX11_balance_42 : decode cX11_balance 42 = .ok (.iconst 0, 1) := by decide +kernel
theorem dX11_balance_43 : decode cX11_balance 43 = .ok (.istore 5, 2) := by decide +kernel
theorem dX11_balance_45 : decode cX11_balance 45 = .ok (.iload 5, 2) := by decide +kernel
theorem dX11_balance_47 : decode cX11_balance 47 = .ok (.aload_n 0, 1) := by decide +kernel
theorem dX11_balance_48 : decode cX11_balance 48 = .ok (.getfield 20, 3) := by decide +kernel
theorem dX11_balance_51 : decode cX11_balance 51 = .ok (.iconst 0, 1) := by decide +kernel
theorem dX11_balance_52 : decode cX11_balance 52 = .ok (.iaload, 1) := by decide +kernel
theorem dX11_balance_53 : decode cX11_balance 53 = .ok (.if_icmp .ge 104, 3) := by decide +kernel
theorem dX11_balance_56 : decode cX11_balance 56 = .ok (.aload_n 0, 1) := by decide +kernel
theorem dX11_balance_57 : decode cX11_balance 57 = .ok (.iload 5, 2) := by decide +kernel
theorem dX11_balance_59 : decode cX11_balance 59 = .ok (.invokevirtual 223, 3) := by decide +kernel
theorem dX11_balance_62 : decode cX11_balance 62 = .ok (.ifCond .ne 6, 3) := by decide +kernel
theorem dX11_balance_65 : decode cX11_balance 65 = .ok (.goto 86, 3) := by decide +kernel
theorem dX11_balance_68 : decode cX11_balance 68 = .ok (.aload_n 0, 1) := by decide +kernel
theorem dX11_balance_69 : decode cX11_balance 69 = .ok (.iload 5, 2) := by decide +kernel
theorem dX11_balance_71 : decode cX11_balance 71 = .ok (.iconst 2, 1) := by decide +kernel
theorem dX11_balance_72 : decode cX11_balance 72 = .ok (.invokevirtual 169, 3) := by decide +kernel
theorem dX11_balance_75 : decode cX11_balance 75 = .ok (.ifCond .ne 34, 3) := by decide +kernel
theorem dX11_balance_78 : decode cX11_balance 78 = .ok (.aload_n 0, 1) := by decide +kernel
theorem dX11_balance_79 : decode cX11_balance 79 = .ok (.iload 5, 2) := by decide +kernel
theorem dX11_balance_81 : decode cX11_balance 81 = .ok (.iconst 0, 1) := by decide +kernel
theorem dX11_balance_82 : decode cX11_balance 82 = .ok (.invokevirtual 169, 3) := by decide +kernel
theorem dX11_balance_85 : decode cX11_balance 85 = .ok (.iload_n 1, 1) := by decide +kernel
theorem dX11_balance_86 : decode cX11_balance 86 = .ok (.if_icmp .ne 23, 3) := by decide +kernel
theorem dX11_balance_89 : decode cX11_balance 89 = .ok (.aload_n 0, 1) := by decide +kernel
theorem dX11_balance_90 : decode cX11_balance 90 = .ok (.iload 5, 2) := by decide +kernel
theorem dX11_balance_92 : decode cX11_balance 92 = .ok (.iconst 1, 1) := by decide +kernel
theorem dX11_balance_93 : decode cX11_balance 93 = .ok (.invokevirtual 169, 3) := by decide +kernel
theorem dX11_balance_96 : decode cX11_balance 96 = .ok (.iload_n 2, 1) := by decide +kernel
theorem dX11_balance_97 : decode cX11_balance 97 = .ok (.if_icmp .ne 12, 3) := by decide +kernel
theorem dX11_balance_100 : decode cX11_balance 100 = .ok (.lload_n 3, 1) := by decide +kernel
theorem dX11_balance_101 : decode cX11_balance 101 = .ok (.aload_n 0, 1) := by decide +kernel
theorem dX11_balance_102 : decode cX11_balance 102 = .ok (.iload 5, 2) := by decide +kernel
theorem dX11_balance_104 : decode cX11_balance 104 = .ok (.invokevirtual 191, 3) := by decide +kernel
theorem dX11_balance_107 : decode cX11_balance 107 = .ok (.ladd, 1) := by decide +kernel
theorem dX11_balance_108 : decode cX11_balance 108 = .ok (.lstore_n 3, 1) := by decide +kernel
theorem dX11_balance_109 : decode cX11_balance 109 = .ok (.aload_n 0, 1) := by decide +kernel
theorem dX11_balance_110 : decode cX11_balance 110 = .ok (.iload 5, 2) := by decide +kernel
theorem dX11_balance_112 : decode cX11_balance 112 = .ok (.iconst 2, 1) := by decide +kernel
theorem dX11_balance_113 : decode cX11_balance 113 = .ok (.invokevirtual 169, 3) := by decide +kernel
theorem dX11_balance_116 : decode cX11_balance 116 = .ok (.iconst 1, 1) := by decide +kernel
theorem dX11_balance_117 : decode cX11_balance 117 = .ok (.if_icmp .ne 34, 3) := by decide +kernel
theorem dX11_balance_120 : decode cX11_balance 120 = .ok (.aload_n 0, 1) := by decide +kernel
theorem dX11_balance_121 : decode cX11_balance 121 = .ok (.iload 5, 2) := by decide +kernel
theorem dX11_balance_123 : decode cX11_balance 123 = .ok (.iconst 0, 1) := by decide +kernel
theorem dX11_balance_124 : decode cX11_balance 124 = .ok (.invokevirtual 169, 3) := by decide +kernel
theorem dX11_balance_127 : decode cX11_balance 127 = .ok (.iload_n 2, 1) := by decide +kernel
theorem dX11_balance_128 : decode cX11_balance 128 = .ok (.if_icmp .ne 23, 3) := by decide +kernel
theorem dX11_balance_131 : decode cX11_balance 131 = .ok (.aload_n 0, 1) := by decide +kernel
theorem dX11_balance_132 : decode cX11_balance 132 = .ok (.iload 5, 2) := by decide +kernel
theorem dX11_balance_134 : decode cX11_balance 134 = .ok (.iconst 1, 1) := by decide +kernel
theorem dX11_balance_135 : decode cX11_balance 135 = .ok (.invokevirtual 169, 3) := by decide +kernel
theorem dX11_balance_138 : decode cX11_balance 138 = .ok (.iload_n 1, 1) := by decide +kernel
theorem dX11_balance_139 : decode cX11_balance 139 = .ok (.if_icmp .ne 12, 3) := by decide +kernel
theorem dX11_balance_142 : decode cX11_balance 142 = .ok (.lload_n 3, 1) := by decide +kernel
theorem dX11_balance_143 : decode cX11_balance 143 = .ok (.aload_n 0, 1) := by decide +kernel
theorem dX11_balance_144 : decode cX11_balance 144 = .ok (.iload 5, 2) := by decide +kernel
theorem dX11_balance_146 : decode cX11_balance 146 = .ok (.invokevirtual 191, 3) := by decide +kernel
theorem dX11_balance_149 : decode cX11_balance 149 = .ok (.lsub, 1) := by decide +kernel
theorem dX11_balance_150 : decode cX11_balance 150 = .ok (.lstore_n 3, 1) := by decide +kernel
theorem dX11_balance_151 : decode cX11_balance 151 = .ok (.iinc 5 1, 3) := by decide +kernel
theorem dX11_balance_154 : decode cX11_balance 154 = .ok (.goto (-109), 3) := by decide +kernel
theorem dX11_balance_157 : decode cX11_balance 157 = .ok (.lload_n 3, 1) := by decide +kernel
theorem dX11_balance_158 : decode cX11_balance 158 = .ok (.lreturn, 1) := by decide +kernel
set_option maxRecDepth 20000 in
theorem ggX11_sumOf_X11_counts : GoodIn wsX11_sumOf wsX11_counts := goodIn_r _ [6, 7, 8, 9, 5, 10, 1, 22, 23, 24, 25, 26, 27, 28, 29, 30, 31, 32, 33, 34, 35, 36, 37, 38, 39, 40, 41, 42, 43, 44, 45] (by decide +kernel) (by decide +kernel)
set_option maxRecDepth 20000 in
theorem gX11_sumOf_X11_counts : GoodIn wsX11_sumOf (wsV RX11 223 RX11 yX11_counts wsX11_counts) := goodIn_app (goodIn_of _ (by decide +kernel)) ggX11_sumOf_X11_counts
set_option maxRecDepth 20000 in
theorem ggX11_sumOf_X11_of : GoodIn wsX11_sumOf wsX11_of := goodIn_r _ [10, 1, 22, 23, 24, 25, 26, 27, 28, 29, 30, 31, 32, 33, 34, 35, 36, 37, 38, 39, 40, 41, 42, 43, 44, 45] (by decide +kernel) (by decide +kernel)
set_option maxRecDepth 20000 in
theorem gX11_sumOf_X11_of : GoodIn wsX11_sumOf (wsV RX11 169 RX11 yX11_of wsX11_of) := goodIn_app (goodIn_of _ (by decide +kernel)) ggX11_sumOf_X11_of
set_option maxRecDepth 20000 in
theorem ggX11_sumOf_X11_valueOf : GoodIn wsX11_sumOf wsX11_valueOf := goodIn_r _ [14, 15, 16, 7, 8, 9, 5, 10, 1, 17, 18, 19, 20, 21, 22, 23, 24, 25, 26, 27, 28, 29, 30, 31, 32, 33, 34, 35, 36, 37, 38, 39, 40, 41, 42, 43, 44, 45] (by decide +kernel) (by decide +kernel)
set_option maxRecDepth 20000 in
theorem gX11_sumOf_X11_valueOf : GoodIn wsX11_sumOf (wsV RX11 191 RX11 yX11_valueOf wsX11_valueOf) := goodIn_app (goodIn_of _ (by decide +kernel)) ggX11_sumOf_X11_valueOf
theorem dX11_sumOf_0 : decode cX11_sumOf 0 = .ok (.lconst 0, 1) := by decide +kernel
theorem dX11_sumOf_1 : decode cX11_sumOf 1 = .ok (.lstore_n 2, 1) := by decide +kernel
theorem dX11_sumOf_2 : decode cX11_sumOf 2 = .ok (.iconst 0, 1) := by decide +kernel
theorem dX11_sumOf_3 : decode cX11_sumOf 3 = .ok (.istore 4, 2) := by decide +kernel
theorem dX11_sumOf_5 : decode cX11_sumOf 5 = .ok (.iload 4, 2) := by decide +kernel
theorem dX11_sumOf_7 : decode cX11_sumOf 7 = .ok (.aload_n 0, 1) := by decide +kernel
theorem dX11_sumOf_8 : decode cX11_sumOf 8 = .ok (.getfield 20, 3) := by decide +kernel
theorem dX11_sumOf_11 : decode cX11_sumOf 11 = .ok (.iconst 0, 1) := by decide +kernel
theorem dX11_sumOf_12 : decode cX11_sumOf 12 = .ok (.iaload, 1) := by decide +kernel
theorem dX11_sumOf_13 : decode cX11_sumOf 13 = .ok (.if_icmp .ge 68, 3) := by decide +kernel
theorem dX11_sumOf_16 : decode cX11_sumOf 16 = .ok (.iload_n 1, 1) := by decide +kernel
theorem dX11_sumOf_17 : decode cX11_sumOf 17 = .ok (.ifCond .ge 15, 3) := by decide +kernel
theorem dX11_sumOf_20 : decode cX11_sumOf 20 = .ok (.aload_n 0, 1) := by decide +kernel
theorem dX11_sumOf_21 : decode cX11_sumOf 21 = .ok (.iload 4, 2) := by decide +kernel
theorem dX11_sumOf_23 : decode cX11_sumOf 23 = .ok (.invokevirtual 223, 3) := by decide +kernel
theorem dX11_sumOf_26 : decode cX11_sumOf 26 = .ok (.ifCond .ne 20, 3) := by decide +kernel
theorem dX11_sumOf_29 : decode cX11_sumOf 29 = .ok (.goto 46, 3) := by decide +kernel
theorem dX11_sumOf_32 : decode cX11_sumOf 32 = .ok (.aload_n 0, 1) := by decide +kernel
theorem dX11_sumOf_33 : decode cX11_sumOf 33 = .ok (.iload 4, 2) := by decide +kernel
theorem dX11_sumOf_35 : decode cX11_sumOf 35 = .ok (.iconst 4, 1) := by decide +kernel
theorem dX11_sumOf_36 : decode cX11_sumOf 36 = .ok (.invokevirtual 169, 3) := by decide +kernel
theorem dX11_sumOf_39 : decode cX11_sumOf 39 = .ok (.iload_n 1, 1) := by decide +kernel
theorem dX11_sumOf_40 : decode cX11_sumOf 40 = .ok (.if_icmp .eq 6, 3) := by decide +kernel
theorem dX11_sumOf_43 : decode cX11_sumOf 43 = .ok (.goto 32, 3) := by decide +kernel
theorem dX11_sumOf_46 : decode cX11_sumOf 46 = .ok (.lload_n 2, 1) := by decide +kernel
theorem dX11_sumOf_47 : decode cX11_sumOf 47 = .ok (.aload_n 0, 1) := by decide +kernel
theorem dX11_sumOf_48 : decode cX11_sumOf 48 = .ok (.iload 4, 2) := by decide +kernel
theorem dX11_sumOf_50 : decode cX11_sumOf 50 = .ok (.iconst 2, 1) := by decide +kernel
theorem dX11_sumOf_51 : decode cX11_sumOf 51 = .ok (.invokevirtual 169, 3) := by decide +kernel
theorem dX11_sumOf_54 : decode cX11_sumOf 54 = .ok (.ifCond .ne 12, 3) := by decide +kernel
theorem dX11_sumOf_57 : decode cX11_sumOf 57 = .ok (.aload_n 0, 1) := by decide +kernel
theorem dX11_sumOf_58 : decode cX11_sumOf 58 = .ok (.iload 4, 2) := by decide +kernel
theorem dX11_sumOf_60 : decode cX11_sumOf 60 = .ok (.invokevirtual 191, 3) := by decide +kernel
theorem dX11_sumOf_63 : decode cX11_sumOf 63 = .ok (.goto 10, 3) := by decide +kernel
theorem dX11_sumOf_66 : decode cX11_sumOf 66 = .ok (.aload_n 0, 1) := by decide +kernel
theorem dX11_sumOf_67 : decode cX11_sumOf 67 = .ok (.iload 4, 2) := by decide +kernel
theorem dX11_sumOf_69 : decode cX11_sumOf 69 = .ok (.invokevirtual 191, 3) := by decide +kernel
theorem dX11_sumOf_72 : decode cX11_sumOf 72 = .ok (.lneg, 1) := by decide +kernel
theorem dX11_sumOf_73 : decode cX11_sumOf 73 = .ok (.ladd, 1) := by decide +kernel
theorem dX11_sumOf_74 : decode cX11_sumOf 74 = .ok (.lstore_n 2, 1) := by decide +kernel
theorem dX11_sumOf_75 : decode cX11_sumOf 75 = .ok (.iinc 4 1, 3) := by decide +kernel
theorem dX11_sumOf_78 : decode cX11_sumOf 78 = .ok (.goto (-73), 3) := by decide +kernel
theorem dX11_sumOf_81 : decode cX11_sumOf 81 = .ok (.lload_n 2, 1) := by decide +kernel
theorem dX11_sumOf_82 : decode cX11_sumOf 82 = .ok (.lreturn, 1) := by decide +kernel
set_option maxRecDepth 20000 in
theorem ggX11_total_X11_within : GoodIn wsX11_total wsX11_within := goodIn_r _ [7] (by decide +kernel) (by decide +kernel)
set_option maxRecDepth 20000 in
theorem gX11_total_X11_within : GoodIn wsX11_total (va_wsS RX11 89 yX11_within wsX11_within) := goodIn_app (goodIn_of _ (by decide +kernel)) ggX11_total_X11_within
set_option maxRecDepth 20000 in
theorem ggX11_total_X11_sumOf : GoodIn wsX11_total wsX11_sumOf := goodIn_r _ [11, 12, 13, 14, 15, 6, 16, 17, 18, 19, 20, 21, 22, 23, 24, 3, 25, 26, 27, 28, 29, 30, 43, 44, 45, 46, 47, 48, 49, 50, 51, 52, 53, 54, 55, 56, 57, 58, 59, 60, 61, 62, 63, 64, 65, 66] (by decide +kernel) (by decide +kernel)
set_option maxRecDepth 20000 in
theorem gX11_total_X11_sumOf : GoodIn wsX11_total (wsV RX11 228 RX11 yX11_sumOf wsX11_sumOf) := goodIn_app (goodIn_of _ (by decide +kernel)) ggX11_total_X11_sumOf
set_option maxRecDepth 20000 in
theorem ggX11_total_X11_profitOf : GoodIn wsX11_total wsX11_profitOf := goodIn_r _ [34, 12, 35, 36, 37, 6, 38, 39, 40, 41, 42, 30, 43, 44, 45, 46, 47, 48, 49, 50, 51, 52, 53, 54, 55, 56, 57, 58, 59, 60, 61, 62, 63, 64, 65, 66] (by decide +kernel) (by decide +kernel)
set_option maxRecDepth 20000 in
theorem gX11_total_X11_profitOf : GoodIn wsX11_total (wsV RX11 231 RX11 yX11_profitOf wsX11_profitOf) := goodIn_app (goodIn_of _ (by decide +kernel)) ggX11_total_X11_profitOf
theorem dX11_total_0 : decode cX11_total 0 = .ok (.aload_n 0, 1) := by decide +kernel
theorem dX11_total_1 : decode cX11_total 1 = .ok (.iload_n 1, 1) := by decide +kernel
theorem dX11_total_2 : decode cX11_total 2 = .ok (.i2l, 1) := by decide +kernel
theorem dX11_total_3 : decode cX11_total 3 = .ok (.lconst 0, 1) := by decide +kernel
theorem dX11_total_4 : decode cX11_total 4 = .ok (.ldc2_w 226, 3) := by decide +kernel
theorem dX11_total_7 : decode cX11_total 7 = .ok (.invokestatic 89, 3) := by decide +kernel
theorem dX11_total_10 : decode cX11_total 10 = .ok (.ifCond .eq 7, 3) := by decide +kernel
theorem dX11_total_13 : decode cX11_total 13 = .ok (.iconst 0, 1) := by decide +kernel
theorem dX11_total_14 : decode cX11_total 14 = .ok (.goto 4, 3) := by decide +kernel
theorem dX11_total_17 : decode cX11_total 17 = .ok (.iconst 1, 1) := by decide +kernel
theorem dX11_total_18 : decode cX11_total 18 = .ok (.putfield 58, 3) := by decide +kernel
theorem dX11_total_21 : decode cX11_total 21 = .ok (.aload_n 0, 1) := by decide +kernel
theorem dX11_total_22 : decode cX11_total 22 = .ok (.getfield 58, 3) := by decide +kernel
theorem dX11_total_25 : decode cX11_total 25 = .ok (.iconst 1, 1) := by decide +kernel
theorem dX11_total_26 : decode cX11_total 26 = .ok (.if_icmp .ne 5, 3) := by decide +kernel
theorem dX11_total_29 : decode cX11_total 29 = .ok (.lconst 0, 1) := by decide +kernel
theorem dX11_total_30 : decode cX11_total 30 = .ok (.lreturn, 1) := by decide +kernel
theorem dX11_total_31 : decode cX11_total 31 = .ok (.iload_n 1, 1) := by decide +kernel
theorem dX11_total_32 : decode cX11_total 32 = .ok (.iconst 4, 1) := by decide +kernel
theorem dX11_total_33 : decode cX11_total 33 = .ok (.if_icmp .ge 11, 3) := by decide +kernel
theorem dX11_total_36 : decode cX11_total 36 = .ok (.aload_n 0, 1) := by decide +kernel
theorem dX11_total_37 : decode cX11_total 37 = .ok (.iload_n 1, 1) := by decide +kernel
theorem dX11_total_38 : decode cX11_total 38 = .ok (.iconst 1, 1) := by decide +kernel
theorem dX11_total_39 : decode cX11_total 39 = .ok (.isub, 1) := by decide +kernel
theorem dX11_total_40 : decode cX11_total 40 = .ok (.invokevirtual 228, 3) := by decide +kernel
theorem dX11_total_43 : decode cX11_total 43 = .ok (.lreturn, 1) := by decide +kernel
theorem dX11_total_44 : decode cX11_total 44 = .ok (.iload_n 1, 1) := by decide +kernel
theorem dX11_total_45 : decode cX11_total 45 = .ok (.bipush 7, 2) := by decide +kernel
theorem dX11_total_47 : decode cX11_total 47 = .ok (.if_icmp .ge 14, 3) := by decide +kernel
theorem dX11_total_50 : decode cX11_total 50 = .ok (.aload_n 0, 1) := by decide +kernel
theorem dX11_total_51 : decode cX11_total 51 = .ok (.getfield 23, 3) := by decide +kernel
theorem dX11_total_54 : decode cX11_total 54 = .ok (.iload_n 1, 1) := by decide +kernel
theorem dX11_total_55 : decode cX11_total 55 = .ok (.iconst 4, 1) := by decide +kernel
theorem dX11_total_56 : decode cX11_total 56 = .ok (.isub, 1) := by decide +kernel
theorem dX11_total_57 : decode cX11_total 57 = .ok (.laload, 1) := by decide +kernel
theorem dX11_total_58 : decode cX11_total 58 = .ok (.goto 8, 3) := by decide +kernel
theorem dX11_total_61 : decode cX11_total 61 = .ok (.aload_n 0, 1) := by decide +kernel
theorem dX11_total_62 : decode cX11_total 62 = .ok (.iconst (-1), 1) := by decide +kernel
theorem dX11_total_63 : decode cX11_total 63 = .ok (.invokevirtual 231, 3) := by decide +kernel
theorem dX11_total_66 : decode cX11_total 66 = .ok (.lreturn, 1) := by decide +kernel
set_option maxRecDepth 20000 in
theorem ggX11_positionOf_X11_is : GoodIn wsX11_positionOf wsX11_is := goodIn_r _ [6, 7, 8, 9, 5, 10, 1, 22, 23, 24, 25, 26, 27, 28, 29, 30, 31, 32, 33, 34, 35, 36, 37, 38, 39, 40, 41, 42, 43, 44, 45] (by decide +kernel) (by decide +kernel)
set_option maxRecDepth 20000 in
theorem gX11_positionOf_X11_is : GoodIn wsX11_positionOf (wsV RX11 201 RX11 yX11_is wsX11_is) := goodIn_app (goodIn_of _ (by decide +kernel)) ggX11_positionOf_X11_is
set_option maxRecDepth 20000 in
theorem ggX11_positionOf_X11_of : GoodIn wsX11_positionOf wsX11_of := goodIn_r _ [10, 1, 22, 23, 24, 25, 26, 27, 28, 29, 30, 31, 32, 33, 34, 35, 36, 37, 38, 39, 40, 41, 42, 43, 44, 45] (by decide +kernel) (by decide +kernel)
set_option maxRecDepth 20000 in
theorem gX11_positionOf_X11_of : GoodIn wsX11_positionOf (wsV RX11 169 RX11 yX11_of wsX11_of) := goodIn_app (goodIn_of _ (by decide +kernel)) ggX11_positionOf_X11_of
set_option maxRecDepth 20000 in
theorem ggX11_positionOf_X11_valueOf : GoodIn wsX11_positionOf wsX11_valueOf := goodIn_r _ [14, 15, 16, 7, 8, 9, 5, 10, 1, 17, 18, 19, 20, 21, 22, 23, 24, 25, 26, 27, 28, 29, 30, 31, 32, 33, 34, 35, 36, 37, 38, 39, 40, 41, 42, 43, 44, 45] (by decide +kernel) (by decide +kernel)
set_option maxRecDepth 20000 in
theorem gX11_positionOf_X11_valueOf : GoodIn wsX11_positionOf (wsV RX11 191 RX11 yX11_valueOf wsX11_valueOf) := goodIn_app (goodIn_of _ (by decide +kernel)) ggX11_positionOf_X11_valueOf
theorem dX11_positionOf_0 : decode cX11_positionOf 0 = .ok (.lconst 0, 1) := by decide +kernel
theorem dX11_positionOf_1 : decode cX11_positionOf 1 = .ok (.lstore_n 2, 1) := by decide +kernel
theorem dX11_positionOf_2 : decode cX11_positionOf 2 = .ok (.iconst 0, 1) := by decide +kernel
theorem dX11_positionOf_3 : decode cX11_positionOf 3 = .ok (.istore 4, 2) := by decide +kernel
theorem dX11_positionOf_5 : decode cX11_positionOf 5 = .ok (.iload 4, 2) := by decide +kernel
theorem dX11_positionOf_7 : decode cX11_positionOf 7 = .ok (.aload_n 0, 1) := by decide +kernel
theorem dX11_positionOf_8 : decode cX11_positionOf 8 = .ok (.getfield 20, 3) := by decide +kernel
theorem dX11_positionOf_11 : decode cX11_positionOf 11 = .ok (.iconst 0, 1) := by decide +kernel
theorem dX11_positionOf_12 : decode cX11_positionOf 12 = .ok (.iaload, 1) := by decide +kernel
theorem dX11_positionOf_13 : decode cX11_positionOf 13 = .ok (.if_icmp .ge 63, 3) := by decide +kernel
theorem dX11_positionOf_16 : decode cX11_positionOf 16 = .ok (.aload_n 0, 1) := by decide +kernel
theorem dX11_positionOf_17 : decode cX11_positionOf 17 = .ok (.iload 4, 2) := by decide +kernel
theorem dX11_positionOf_19 : decode cX11_positionOf 19 = .ok (.iconst 0, 1) := by decide +kernel
theorem dX11_positionOf_20 : decode cX11_positionOf 20 = .ok (.iconst 1, 1) := by decide +kernel
theorem dX11_positionOf_21 : decode cX11_positionOf 21 = .ok (.invokevirtual 201, 3) := by decide +kernel
theorem dX11_positionOf_24 : decode cX11_positionOf 24 = .ok (.ifCond .ne 6, 3) := by decide +kernel
theorem dX11_positionOf_27 : decode cX11_positionOf 27 = .ok (.goto 43, 3) := by decide +kernel
theorem dX11_positionOf_30 : decode cX11_positionOf 30 = .ok (.aload_n 0, 1) := by decide +kernel
theorem dX11_positionOf_31 : decode cX11_positionOf 31 = .ok (.iload 4, 2) := by decide +kernel
theorem dX11_positionOf_33 : decode cX11_positionOf 33 = .ok (.iconst 0, 1) := by decide +kernel
theorem dX11_positionOf_34 : decode cX11_positionOf 34 = .ok (.invokevirtual 169, 3) := by decide +kernel
theorem dX11_positionOf_37 : decode cX11_positionOf 37 = .ok (.iload_n 1, 1) := by decide +kernel
theorem dX11_positionOf_38 : decode cX11_positionOf 38 = .ok (.if_icmp .ne 12, 3) := by decide +kernel
theorem dX11_positionOf_41 : decode cX11_positionOf 41 = .ok (.lload_n 2, 1) := by decide +kernel
theorem dX11_positionOf_42 : decode cX11_positionOf 42 = .ok (.aload_n 0, 1) := by decide +kernel
theorem dX11_positionOf_43 : decode cX11_positionOf 43 = .ok (.iload 4, 2) := by decide +kernel
theorem dX11_positionOf_45 : decode cX11_positionOf 45 = .ok (.invokevirtual 191, 3) := by decide +kernel
theorem dX11_positionOf_48 : decode cX11_positionOf 48 = .ok (.ladd, 1) := by decide +kernel
theorem dX11_positionOf_49 : decode cX11_positionOf 49 = .ok (.lstore_n 2, 1) := by decide +kernel
theorem dX11_positionOf_50 : decode cX11_positionOf 50 = .ok (.aload_n 0, 1) := by decide +kernel
theorem dX11_positionOf_51 : decode cX11_positionOf 51 = .ok (.iload 4, 2) := by decide +kernel
theorem dX11_positionOf_53 : decode cX11_positionOf 53 = .ok (.iconst 1, 1) := by decide +kernel
theorem dX11_positionOf_54 : decode cX11_positionOf 54 = .ok (.invokevirtual 169, 3) := by decide +kernel
theorem dX11_positionOf_57 : decode cX11_positionOf 57 = .ok (.iload_n 1, 1) := by decide +kernel
theorem dX11_positionOf_58 : decode cX11_positionOf 58 = .ok (.if_icmp .ne 12, 3) := by decide +kernel
theorem dX11_positionOf_61 : decode cX11_positionOf 61 = .ok (.lload_n 2, 1) := by decide +kernel
theorem dX11_positionOf_62 : decode cX11_positionOf 62 = .ok (.aload_n 0, 1) := by decide +kernel
theorem dX11_positionOf_63 : decode cX11_positionOf 63 = .ok (.iload 4, 2) := by decide +kernel
theorem dX11_positionOf_65 : decode cX11_positionOf 65 = .ok (.invokevirtual 191, 3) := by decide +kernel
theorem dX11_positionOf_68 : decode cX11_positionOf 68 = .ok (.lsub, 1) := by decide +kernel
theorem dX11_positionOf_69 : decode cX11_positionOf 69 = .ok (.lstore_n 2, 1) := by decide +kernel
theorem dX11_positionOf_70 : decode cX11_positionOf 70 = .ok (.iinc 4 1, 3) := by decide +kernel
theorem dX11_positionOf_73 : decode cX11_positionOf 73 = .ok (.goto (-68), 3) := by decide +kernel
theorem dX11_positionOf_76 : decode cX11_positionOf 76 = .ok (.lload_n 2, 1) := by decide +kernel
theorem dX11_positionOf_77 : decode cX11_positionOf 77 = .ok (.lreturn, 1) := by decide +kernel
set_option maxRecDepth 20000 in
theorem ggX11_position_X11_isCompany : GoodIn wsX11_position wsX11_isCompany := goodIn_r _ [6, 7, 8, 9, 5, 10, 34, 35, 36, 37, 38, 39, 40, 41, 42, 43, 44, 45, 46, 47, 48, 49, 50, 51, 52, 53, 54, 55, 56, 57] (by decide +kernel) (by decide +kernel)
set_option maxRecDepth 20000 in
theorem gX11_position_X11_isCompany : GoodIn wsX11_position (wsV RX11 177 RX11 yX11_isCompany wsX11_isCompany) := goodIn_app (goodIn_of _ (by decide +kernel)) ggX11_position_X11_isCompany
set_option maxRecDepth 20000 in
theorem ggX11_position_X11_positionOf : GoodIn wsX11_position wsX11_positionOf := goodIn_r _ [14, 15, 16, 17, 18, 5, 19, 20, 21, 22, 23, 24, 25, 26, 27, 28, 29, 30, 31, 32, 33, 7, 34, 35, 36, 37, 38, 39, 40, 41, 42, 43, 44, 45, 46, 47, 48, 49, 50, 51, 52, 53, 54, 55, 56, 57] (by decide +kernel) (by decide +kernel)
set_option maxRecDepth 20000 in
theorem gX11_position_X11_positionOf : GoodIn wsX11_position (wsV RX11 234 RX11 yX11_positionOf wsX11_positionOf) := goodIn_app (goodIn_of _ (by decide +kernel)) ggX11_position_X11_positionOf
theorem dX11_position_0 : decode cX11_position 0 = .ok (.aload_n 0, 1) := by decide +kernel
theorem dX11_position_1 : decode cX11_position 1 = .ok (.aload_n 0, 1) := by decide +kernel
theorem dX11_position_2 : decode cX11_position 2 = .ok (.iload_n 1, 1) := by decide +kernel
theorem dX11_position_3 : decode cX11_position 3 = .ok (.invokevirtual 177, 3) := by decide +kernel
theorem dX11_position_6 : decode cX11_position 6 = .ok (.ifCond .eq 7, 3) := by decide +kernel
theorem dX11_position_9 : decode cX11_position 9 = .ok (.iconst 0, 1) := by decide +kernel
theorem dX11_position_10 : decode cX11_position 10 = .ok (.goto 4, 3) := by decide +kernel
theorem dX11_position_13 : decode cX11_position 13 = .ok (.iconst 1, 1) := by decide +kernel
theorem dX11_position_14 : decode cX11_position 14 = .ok (.putfield 58, 3) := by decide +kernel
theorem dX11_position_17 : decode cX11_position 17 = .ok (.aload_n 0, 1) := by decide +kernel
theorem dX11_position_18 : decode cX11_position 18 = .ok (.getfield 58, 3) := by decide +kernel
theorem dX11_position_21 : decode cX11_position 21 = .ok (.ifCond .ne 11, 3) := by decide +kernel
theorem dX11_position_24 : decode cX11_position 24 = .ok (.aload_n 0, 1) := by decide +kernel
theorem dX11_position_25 : decode cX11_position 25 = .ok (.iload_n 1, 1) := by decide +kernel
theorem dX11_position_26 : decode cX11_position 26 = .ok (.invokevirtual 234, 3) := by decide +kernel
theorem dX11_position_29 : decode cX11_position 29 = .ok (.goto 4, 3) := by decide +kernel
theorem dX11_position_32 : decode cX11_position 32 = .ok (.lconst 0, 1) := by decide +kernel
theorem dX11_position_33 : decode cX11_position 33 = .ok (.lreturn, 1) := by decide +kernel
set_option maxRecDepth 20000 in
theorem ggX11_settledPosition_X11_isCompany : GoodIn wsX11_settledPosition wsX11_isCompany := goodIn_r _ [7, 8, 9, 10, 6, 11, 12, 13, 14, 15, 16, 17, 18, 19, 20, 21, 22, 23, 24, 25, 26, 27, 28, 29, 30, 31, 32, 33, 34, 35] (by decide +kernel) (by decide +kernel)
set_option maxRecDepth 20000 in
theorem gX11_settledPosition_X11_isCompany : GoodIn wsX11_settledPosition (wsV RX11 177 RX11 yX11_isCompany wsX11_isCompany) := goodIn_app (goodIn_of _ (by decide +kernel)) ggX11_settledPosition_X11_isCompany
theorem dX11_settledPosition_0 : decode cX11_settledPosition 0 = .ok (.aload_n 0, 1) := by decide +kernel
theorem dX11_settledPosition_1 : decode cX11_settledPosition 1 = .ok (.aload_n 0, 1) := by decide +kernel
theorem dX11_settledPosition_2 : decode cX11_settledPosition 2 = .ok (.iload_n 1, 1) := by decide +kernel
theorem dX11_settledPosition_3 : decode cX11_settledPosition 3 = .ok (.invokevirtual 177, 3) := by decide +kernel
theorem dX11_settledPosition_6 : decode cX11_settledPosition 6 = .ok (.ifCond .eq 7, 3) := by decide +kernel
theorem dX11_settledPosition_9 : decode cX11_settledPosition 9 = .ok (.iconst 0, 1) := by decide +kernel
theorem dX11_settledPosition_10 : decode cX11_settledPosition 10 = .ok (.goto 4, 3) := by decide +kernel
theorem dX11_settledPosition_13 : decode cX11_settledPosition 13 = .ok (.iconst 1, 1) := by decide +kernel
theorem dX11_settledPosition_14 : decode cX11_settledPosition 14 = .ok (.putfield 58, 3) := by decide +kernel
theorem dX11_settledPosition_17 : decode cX11_settledPosition 17 = .ok (.aload_n 0, 1) := by decide +kernel
theorem dX11_settledPosition_18 : decode cX11_settledPosition 18 = .ok (.getfield 58, 3) := by decide +kernel
theorem dX11_settledPosition_21 : decode cX11_settledPosition 21 = .ok (.ifCond .ne 14, 3) := by decide +kernel
theorem dX11_settledPosition_24 : decode cX11_settledPosition 24 = .ok (.aload_n 0, 1) := by decide +kernel
theorem dX11_settledPosition_25 : decode cX11_settledPosition 25 = .ok (.getfield 23, 3) := by decide +kernel
theorem dX11_settledPosition_28 : decode cX11_settledPosition 28 = .ok (.iconst 3, 1) := by decide +kernel
theorem dX11_settledPosition_29 : decode cX11_settledPosition 29 = .ok (.iload_n 1, 1) := by decide +kernel
theorem dX11_settledPosition_30 : decode cX11_settledPosition 30 = .ok (.iadd, 1) := by decide +kernel
theorem dX11_settledPosition_31 : decode cX11_settledPosition 31 = .ok (.laload, 1) := by decide +kernel
theorem dX11_settledPosition_32 : decode cX11_settledPosition 32 = .ok (.goto 4, 3) := by decide +kernel
theorem dX11_settledPosition_35 : decode cX11_settledPosition 35 = .ok (.lconst 0, 1) := by decide +kernel
theorem dX11_settledPosition_36 : decode cX11_settledPosition 36 = .ok (.lreturn, 1) := by decide +kernel
set_option maxRecDepth 20000 in
theorem ggX11_between_X11_is : GoodIn wsX11_between wsX11_is := goodIn_r _ [6, 7, 8, 9, 5, 10, 1, 22, 23, 24, 25, 26, 27, 28, 29, 30, 31, 32, 33, 34, 35, 36, 37, 38, 39, 40, 41, 42, 43, 44, 45] (by decide +kernel) (by decide +kernel)
set_option maxRecDepth 20000 in
theorem gX11_between_X11_is : GoodIn wsX11_between (wsV RX11 201 RX11 yX11_is wsX11_is) := goodIn_app (goodIn_of _ (by decide +kernel)) ggX11_between_X11_is
set_option maxRecDepth 20000 in
theorem ggX11_between_X11_of : GoodIn wsX11_between wsX11_of := goodIn_r _ [10, 1, 22, 23, 24, 25, 26, 27, 28, 29, 30, 31, 32, 33, 34, 35, 36, 37, 38, 39, 40, 41, 42, 43, 44, 45] (by decide +kernel) (by decide +kernel)
set_option maxRecDepth 20000 in
theorem gX11_between_X11_of : GoodIn wsX11_between (wsV RX11 169 RX11 yX11_of wsX11_of) := goodIn_app (goodIn_of _ (by decide +kernel)) ggX11_between_X11_of
set_option maxRecDepth 20000 in
theorem ggX11_between_X11_valueOf : GoodIn wsX11_between wsX11_valueOf := goodIn_r _ [14, 15, 16, 7, 8, 9, 5, 10, 1, 17, 18, 19, 20, 21, 22, 23, 24, 25, 26, 27, 28, 29, 30, 31, 32, 33, 34, 35, 36, 37, 38, 39, 40, 41, 42, 43, 44, 45] (by decide +kernel) (by decide +kernel)
set_option maxRecDepth 20000 in
theorem gX11_between_X11_valueOf : GoodIn wsX11_between (wsV RX11 191 RX11 yX11_valueOf wsX11_valueOf) := goodIn_app (goodIn_of _ (by decide +kernel)) ggX11_between_X11_valueOf
theorem dX11_between_0 : decode cX11_between 0 = .ok (.lconst 0, 1) := by decide +kernel
theorem dX11_between_1 : decode cX11_between 1 = .ok (.lstore_n 3, 1) := by decide +kernel
theorem dX11_between_2 : decode cX11_between 2 = .ok (.iconst 0, 1) := by decide +kernel
theorem dX11_between_3 : decode cX11_between 3 = .ok (.istore 5, 2) := by decide +kernel
theorem dX11_between_5 : decode cX11_between 5 = .ok (.iload 5, 2) := by decide +kernel
theorem dX11_between_7 : decode cX11_between 7 = .ok (.aload_n 0, 1) := by decide +kernel
theorem dX11_between_8 : decode cX11_between 8 = .ok (.getfield 20, 3) := by decide +kernel
theorem dX11_between_11 : decode cX11_between 11 = .ok (.iconst 0, 1) := by decide +kernel
theorem dX11_between_12 : decode cX11_between 12 = .ok (.iaload, 1) := by decide +kernel
theorem dX11_between_13 : decode cX11_between 13 = .ok (.if_icmp .ge 85, 3) := by decide +kernel
theorem dX11_between_16 : decode cX11_between 16 = .ok (.aload_n 0, 1) := by decide +kernel
theorem dX11_between_17 : decode cX11_between 17 = .ok (.iload 5, 2) := by decide +kernel
theorem dX11_between_19 : decode cX11_between 19 = .ok (.iconst 0, 1) := by decide +kernel
theorem dX11_between_20 : decode cX11_between 20 = .ok (.iconst 1, 1) := by decide +kernel
theorem dX11_between_21 : decode cX11_between 21 = .ok (.invokevirtual 201, 3) := by decide +kernel
theorem dX11_between_24 : decode cX11_between 24 = .ok (.ifCond .ne 6, 3) := by decide +kernel
theorem dX11_between_27 : decode cX11_between 27 = .ok (.goto 65, 3) := by decide +kernel
theorem dX11_between_30 : decode cX11_between 30 = .ok (.aload_n 0, 1) := by decide +kernel
theorem dX11_between_31 : decode cX11_between 31 = .ok (.iload 5, 2) := by decide +kernel
theorem dX11_between_33 : decode cX11_between 33 = .ok (.iconst 0, 1) := by decide +kernel
theorem dX11_between_34 : decode cX11_between 34 = .ok (.invokevirtual 169, 3) := by decide +kernel
theorem dX11_between_37 : decode cX11_between 37 = .ok (.iload_n 1, 1) := by decide +kernel
theorem dX11_between_38 : decode cX11_between 38 = .ok (.if_icmp .ne 23, 3) := by decide +kernel
theorem dX11_between_41 : decode cX11_between 41 = .ok (.aload_n 0, 1) := by decide +kernel
theorem dX11_between_42 : decode cX11_between 42 = .ok (.iload 5, 2) := by decide +kernel
theorem dX11_between_44 : decode cX11_between 44 = .ok (.iconst 1, 1) := by decide +kernel
theorem dX11_between_45 : decode cX11_between 45 = .ok (.invokevirtual 169, 3) := by decide +kernel
theorem dX11_between_48 : decode cX11_between 48 = .ok (.iload_n 2, 1) := by decide +kernel
theorem dX11_between_49 : decode cX11_between 49 = .ok (.if_icmp .ne 12, 3) := by decide +kernel
theorem dX11_between_52 : decode cX11_between 52 = .ok (.lload_n 3, 1) := by decide +kernel
theorem dX11_between_53 : decode cX11_between 53 = .ok (.aload_n 0, 1) := by decide +kernel
theorem dX11_between_54 : decode cX11_between 54 = .ok (.iload 5, 2) := by decide +kernel
theorem dX11_between_56 : decode cX11_between 56 = .ok (.invokevirtual 191, 3) := by decide +kernel
theorem dX11_between_59 : decode cX11_between 59 = .ok (.ladd, 1) := by decide +kernel
theorem dX11_between_60 : decode cX11_between 60 = .ok (.lstore_n 3, 1) := by decide +kernel
theorem dX11_between_61 : decode cX11_between 61 = .ok (.aload_n 0, 1) := by decide +kernel
theorem dX11_between_62 : decode cX11_between 62 = .ok (.iload 5, 2) := by decide +kernel
theorem dX11_between_64 : decode cX11_between 64 = .ok (.iconst 0, 1) := by decide +kernel
theorem dX11_between_65 : decode cX11_between 65 = .ok (.invokevirtual 169, 3) := by decide +kernel
theorem dX11_between_68 : decode cX11_between 68 = .ok (.iload_n 2, 1) := by decide +kernel
theorem dX11_between_69 : decode cX11_between 69 = .ok (.if_icmp .ne 23, 3) := by decide +kernel
theorem dX11_between_72 : decode cX11_between 72 = .ok (.aload_n 0, 1) := by decide +kernel
theorem dX11_between_73 : decode cX11_between 73 = .ok (.iload 5, 2) := by decide +kernel
theorem dX11_between_75 : decode cX11_between 75 = .ok (.iconst 1, 1) := by decide +kernel
theorem dX11_between_76 : decode cX11_between 76 = .ok (.invokevirtual 169, 3) := by decide +kernel
theorem dX11_between_79 : decode cX11_between 79 = .ok (.iload_n 1, 1) := by decide +kernel
theorem dX11_between_80 : decode cX11_between 80 = .ok (.if_icmp .ne 12, 3) := by decide +kernel
theorem dX11_between_83 : decode cX11_between 83 = .ok (.lload_n 3, 1) := by decide +kernel
theorem dX11_between_84 : decode cX11_between 84 = .ok (.aload_n 0, 1) := by decide +kernel
theorem dX11_between_85 : decode cX11_between 85 = .ok (.iload 5, 2) := by decide +kernel
theorem dX11_between_87 : decode cX11_between 87 = .ok (.invokevirtual 191, 3) := by decide +kernel
theorem dX11_between_90 : decode cX11_between 90 = .ok (.lsub, 1) := by decide +kernel
theorem dX11_between_91 : decode cX11_between 91 = .ok (.lstore_n 3, 1) := by decide +kernel
theorem dX11_between_92 : decode cX11_between 92 = .ok (.iinc 5 1, 3) := by decide +kernel
theorem dX11_between_95 : decode cX11_between 95 = .ok (.goto (-90), 3) := by decide +kernel
theorem dX11_between_98 : decode cX11_between 98 = .ok (.lload_n 3, 1) := by decide +kernel
theorem dX11_between_99 : decode cX11_between 99 = .ok (.lreturn, 1) := by decide +kernel
set_option maxRecDepth 20000 in
theorem ggX11_directPayments_X11_between : GoodIn wsX11_directPayments wsX11_between := goodIn_r _ [6, 7, 8, 9, 10, 5, 11, 12, 13, 14, 15, 16, 17, 18, 19, 20, 21, 22, 23, 24, 25, 1, 31, 32, 33, 34, 35, 36, 37, 38, 39, 40, 41, 42, 43, 44, 45, 46, 47, 48, 49, 50, 51, 52, 53, 54] (by decide +kernel) (by decide +kernel)
set_option maxRecDepth 20000 in
theorem gX11_directPayments_X11_between : GoodIn wsX11_directPayments (wsV RX11 237 RX11 yX11_between wsX11_between) := goodIn_app (goodIn_of _ (by decide +kernel)) ggX11_directPayments_X11_between
set_option maxRecDepth 20000 in
theorem ggX11_directPayments_X11_told : GoodIn wsX11_directPayments wsX11_told := goodIn_r _ [29, 30, 31, 32, 33, 34, 35, 36, 37, 38, 39, 40, 41, 42, 43, 44, 45, 46, 47, 48, 49, 50, 51, 52, 53, 54] (by decide +kernel) (by decide +kernel)
set_option maxRecDepth 20000 in
theorem gX11_directPayments_X11_told : GoodIn wsX11_directPayments (wsV RX11 241 RX11 yX11_told wsX11_told) := goodIn_app (goodIn_of _ (by decide +kernel)) ggX11_directPayments_X11_told
theorem dX11_directPayments_0 : decode cX11_directPayments 0 = .ok (.iconst 0, 1) := by decide +kernel
theorem dX11_directPayments_1 : decode cX11_directPayments 1 = .ok (.istore_n 1, 1) := by decide +kernel
theorem dX11_directPayments_2 : decode cX11_directPayments 2 = .ok (.iconst 0, 1) := by decide +kernel
theorem dX11_directPayments_3 : decode cX11_directPayments 3 = .ok (.istore_n 2, 1) := by decide +kernel
theorem dX11_directPayments_4 : decode cX11_directPayments 4 = .ok (.iload_n 2, 1) := by decide +kernel
theorem dX11_directPayments_5 : decode cX11_directPayments 5 = .ok (.aload_n 0, 1) := by decide +kernel
theorem dX11_directPayments_6 : decode cX11_directPayments 6 = .ok (.getfield 17, 3) := by decide +kernel
theorem dX11_directPayments_9 : decode cX11_directPayments 9 = .ok (.iconst 1, 1) := by decide +kernel
theorem dX11_directPayments_10 : decode cX11_directPayments 10 = .ok (.iaload, 1) := by decide +kernel
theorem dX11_directPayments_11 : decode cX11_directPayments 11 = .ok (.if_icmp .ge 43, 3) := by decide +kernel
theorem dX11_directPayments_14 : decode cX11_directPayments 14 = .ok (.iload_n 2, 1) := by decide +kernel
theorem dX11_directPayments_15 : decode cX11_directPayments 15 = .ok (.iconst 1, 1) := by decide +kernel
theorem dX11_directPayments_16 : decode cX11_directPayments 16 = .ok (.iadd, 1) := by decide +kernel
theorem dX11_directPayments_17 : decode cX11_directPayments 17 = .ok (.istore_n 3, 1) := by decide +kernel
theorem dX11_directPayments_18 : decode cX11_directPayments 18 = .ok (.iload_n 3, 1) := by decide +kernel
theorem dX11_directPayments_19 : decode cX11_directPayments 19 = .ok (.aload_n 0, 1) := by decide +kernel
theorem dX11_directPayments_20 : decode cX11_directPayments 20 = .ok (.getfield 17, 3) := by decide +kernel
theorem dX11_directPayments_23 : decode cX11_directPayments 23 = .ok (.iconst 1, 1) := by decide +kernel
theorem dX11_directPayments_24 : decode cX11_directPayments 24 = .ok (.iaload, 1) := by decide +kernel
theorem dX11_directPayments_25 : decode cX11_directPayments 25 = .ok (.if_icmp .ge 23, 3) := by decide +kernel
theorem dX11_directPayments_28 : decode cX11_directPayments 28 = .ok (.aload_n 0, 1) := by decide +kernel
theorem dX11_directPayments_29 : decode cX11_directPayments 29 = .ok (.iload_n 2, 1) := by decide +kernel
theorem dX11_directPayments_30 : decode cX11_directPayments 30 = .ok (.iload_n 3, 1) := by decide +kernel
theorem dX11_directPayments_31 : decode cX11_directPayments 31 = .ok (.invokevirtual 237, 3) := by decide +kernel
theorem dX11_directPayments_34 : decode cX11_directPayments 34 = .ok (.lconst 0, 1) := by decide +kernel
theorem dX11_directPayments_35 : decode cX11_directPayments 35 = .ok (.lcmp, 1) := by decide +kernel
theorem dX11_directPayments_36 : decode cX11_directPayments 36 = .ok (.ifCond .eq 6, 3) := by decide +kernel
theorem dX11_directPayments_39 : decode cX11_directPayments 39 = .ok (.iinc 1 1, 3) := by decide +kernel
theorem dX11_directPayments_42 : decode cX11_directPayments 42 = .ok (.iinc 3 1, 3) := by decide +kernel
theorem dX11_directPayments_45 : decode cX11_directPayments 45 = .ok (.goto (-27), 3) := by decide +kernel
theorem dX11_directPayments_48 : decode cX11_directPayments 48 = .ok (.iinc 2 1, 3) := by decide +kernel
theorem dX11_directPayments_51 : decode cX11_directPayments 51 = .ok (.goto (-47), 3) := by decide +kernel
theorem dX11_directPayments_54 : decode cX11_directPayments 54 = .ok (.aload_n 0, 1) := by decide +kernel
theorem dX11_directPayments_55 : decode cX11_directPayments 55 = .ok (.iload_n 1, 1) := by decide +kernel
theorem dX11_directPayments_56 : decode cX11_directPayments 56 = .ok (.invokevirtual 241, 3) := by decide +kernel
theorem dX11_directPayments_59 : decode cX11_directPayments 59 = .ok (.ireturn, 1) := by decide +kernel
set_option maxRecDepth 20000 in
theorem ggX11_fewestPayments_X11_positionOf : GoodIn wsX11_fewestPayments wsX11_positionOf := goodIn_r _ [9, 10, 11, 12, 13, 8, 14, 15, 16, 17, 18, 19, 20, 21, 22, 23, 24, 25, 26, 27, 28, 2, 29, 30, 31, 32, 33, 34, 35, 36, 37, 38, 39, 40, 41, 42, 43, 44, 45, 46, 47, 48, 49, 50, 51, 52] (by decide +kernel) (by decide +kernel)
set_option maxRecDepth 20000 in
theorem gX11_fewestPayments_X11_positionOf : GoodIn wsX11_fewestPayments (wsV RX11 234 RX11 yX11_positionOf wsX11_positionOf) := goodIn_app (goodIn_of _ (by decide +kernel)) ggX11_fewestPayments_X11_positionOf
theorem dX11_fewestPayments_0 : decode cX11_fewestPayments 0 = .ok (.aload_n 0, 1) := by decide +kernel
theorem dX11_fewestPayments_1 : decode cX11_fewestPayments 1 = .ok (.iconst 0, 1) := by decide +kernel
theorem dX11_fewestPayments_2 : decode cX11_fewestPayments 2 = .ok (.putfield 58, 3) := by decide +kernel
theorem dX11_fewestPayments_5 : decode cX11_fewestPayments 5 = .ok (.iconst 1, 1) := by decide +kernel
theorem dX11_fewestPayments_6 : decode cX11_fewestPayments 6 = .ok (.aload_n 0, 1) := by decide +kernel
theorem dX11_fewestPayments_7 : decode cX11_fewestPayments 7 = .ok (.getfield 17, 3) := by decide +kernel
theorem dX11_fewestPayments_10 : decode cX11_fewestPayments 10 = .ok (.iconst 1, 1) := by decide +kernel
theorem dX11_fewestPayments_11 : decode cX11_fewestPayments 11 = .ok (.iaload, 1) := by decide +kernel
theorem dX11_fewestPayments_12 : decode cX11_fewestPayments 12 = .ok (.ishl, 1) := by decide +kernel
theorem dX11_fewestPayments_13 : decode cX11_fewestPayments 13 = .ok (.iconst 1, 1) := by decide +kernel
theorem dX11_fewestPayments_14 : decode cX11_fewestPayments 14 = .ok (.isub, 1) := by decide +kernel
theorem dX11_fewestPayments_15 : decode cX11_fewestPayments 15 = .ok (.istore_n 1, 1) := by decide +kernel
theorem dX11_fewestPayments_16 : decode cX11_fewestPayments 16 = .ok (.iconst 0, 1) := by decide +kernel
theorem dX11_fewestPayments_17 : decode cX11_fewestPayments 17 = .ok (.istore_n 2, 1) := by decide +kernel
theorem dX11_fewestPayments_18 : decode cX11_fewestPayments 18 = .ok (.iconst 0, 1) := by decide +kernel
theorem dX11_fewestPayments_19 : decode cX11_fewestPayments 19 = .ok (.istore_n 3, 1) := by decide +kernel
theorem dX11_fewestPayments_20 : decode cX11_fewestPayments 20 = .ok (.iload_n 3, 1) := by decide +kernel
theorem dX11_fewestPayments_21 : decode cX11_fewestPayments 21 = .ok (.iload_n 1, 1) := by decide +kernel
theorem dX11_fewestPayments_22 : decode cX11_fewestPayments 22 = .ok (.if_icmp .gt 23, 3) := by decide +kernel
theorem dX11_fewestPayments_25 : decode cX11_fewestPayments 25 = .ok (.aload_n 0, 1) := by decide +kernel
theorem dX11_fewestPayments_26 : decode cX11_fewestPayments 26 = .ok (.getfield 46, 3) := by decide +kernel
theorem dX11_fewestPayments_29 : decode cX11_fewestPayments 29 = .ok (.iload_n 3, 1) := by decide +kernel
theorem dX11_fewestPayments_30 : decode cX11_fewestPayments 30 = .ok (.lconst 0, 1) := by decide +kernel
theorem dX11_fewestPayments_31 : decode cX11_fewestPayments 31 = .ok (.lastore, 1) := by decide +kernel
theorem dX11_fewestPayments_32 : decode cX11_fewestPayments 32 = .ok (.aload_n 0, 1) := by decide +kernel
theorem dX11_fewestPayments_33 : decode cX11_fewestPayments 33 = .ok (.getfield 49, 3) := by decide +kernel
theorem dX11_fewestPayments_36 : decode cX11_fewestPayments 36 = .ok (.iload_n 3, 1) := by decide +kernel
theorem dX11_fewestPayments_37 : decode cX11_fewestPayments 37 = .ok (.iconst 0, 1) := by decide +kernel
theorem dX11_fewestPayments_38 : decode cX11_fewestPayments 38 = .ok (.iastore, 1) := by decide +kernel
theorem dX11_fewestPayments_39 : decode cX11_fewestPayments 39 = .ok (.iinc 3 1, 3) := by decide +kernel
theorem dX11_fewestPayments_42 : decode cX11_fewestPayments 42 = .ok (.goto (-22), 3) := by decide +kernel
theorem dX11_fewestPayments_45 : decode cX11_fewestPayments 45 = .ok (.iconst 0, 1) := by decide +kernel
theorem dX11_fewestPayments_46 : decode cX11_fewestPayments 46 = .ok (.istore_n 3, 1) := by decide +kernel
theorem dX11_fewestPayments_47 : decode cX11_fewestPayments 47 = .ok (.iload_n 3, 1) := by decide +kernel
theorem dX11_fewestPayments_48 : decode cX11_fewestPayments 48 = .ok (.aload_n 0, 1) := by decide +kernel
theorem dX11_fewestPayments_49 : decode cX11_fewestPayments 49 = .ok (.getfield 17, 3) := by decide +kernel
theorem dX11_fewestPayments_52 : decode cX11_fewestPayments 52 = .ok (.iconst 1, 1) := by decide +kernel
theorem dX11_fewestPayments_53 : decode cX11_fewestPayments 53 = .ok (.iaload, 1) := by decide +kernel
theorem dX11_fewestPayments_54 : decode cX11_fewestPayments 54 = .ok (.if_icmp .ge 66, 3) := by decide +kernel
theorem dX11_fewestPayments_57 : decode cX11_fewestPayments 57 = .ok (.aload_n 0, 1) := by decide +kernel
theorem dX11_fewestPayments_58 : decode cX11_fewestPayments 58 = .ok (.iload_n 3, 1) := by decide +kernel
theorem dX11_fewestPayments_59 : decode cX11_fewestPayments 59 = .ok (.invokevirtual 234, 3) := by decide +kernel
theorem dX11_fewestPayments_62 : decode cX11_fewestPayments 62 = .ok (.lstore 4, 2) := by decide +kernel
theorem dX11_fewestPayments_64 : decode cX11_fewestPayments 64 = .ok (.lload 4, 2) := by decide +kernel
theorem dX11_fewestPayments_66 : decode cX11_fewestPayments 66 = .ok (.lconst 0, 1) := by decide +kernel
theorem dX11_fewestPayments_67 : decode cX11_fewestPayments 67 = .ok (.lcmp, 1) := by decide +kernel
theorem dX11_fewestPayments_68 : decode cX11_fewestPayments 68 = .ok (.ifCond .eq 9, 3) := by decide +kernel
theorem dX11_fewestPayments_71 : decode cX11_fewestPayments 71 = .ok (.iload_n 2, 1) := by decide +kernel
theorem dX11_fewestPayments_72 : decode cX11_fewestPayments 72 = .ok (.iconst 1, 1) := by decide +kernel
theorem dX11_fewestPayments_73 : decode cX11_fewestPayments 73 = .ok (.iload_n 3, 1) := by decide +kernel
theorem dX11_fewestPayments_74 : decode cX11_fewestPayments 74 = .ok (.ishl, 1) := by decide +kernel
theorem dX11_fewestPayments_75 : decode cX11_fewestPayments 75 = .ok (.ior, 1) := by decide +kernel
theorem dX11_fewestPayments_76 : decode cX11_fewestPayments 76 = .ok (.istore_n 2, 1) := by decide +kernel
theorem dX11_fewestPayments_77 : decode cX11_fewestPayments 77 = .ok (.iconst 0, 1) := by decide +kernel
theorem dX11_fewestPayments_78 : decode cX11_fewestPayments 78 = .ok (.istore 6, 2) := by decide +kernel
theorem dX11_fewestPayments_80 : decode cX11_fewestPayments 80 = .ok (.iload 6, 2) := by decide +kernel
theorem dX11_fewestPayments_82 : decode cX11_fewestPayments 82 = .ok (.iload_n 1, 1) := by decide +kernel
theorem dX11_fewestPayments_83 : decode cX11_fewestPayments 83 = .ok (.if_icmp .gt 31, 3) := by decide +kernel
theorem dX11_fewestPayments_86 : decode cX11_fewestPayments 86 = .ok (.iload 6, 2) := by decide +kernel
theorem dX11_fewestPayments_88 : decode cX11_fewestPayments 88 = .ok (.iload_n 3, 1) := by decide +kernel
theorem dX11_fewestPayments_89 : decode cX11_fewestPayments 89 = .ok (.ishr, 1) := by decide +kernel
theorem dX11_fewestPayments_90 : decode cX11_fewestPayments 90 = .ok (.iconst 1, 1) := by decide +kernel
theorem dX11_fewestPayments_91 : decode cX11_fewestPayments 91 = .ok (.iand, 1) := by decide +kernel
theorem dX11_fewestPayments_92 : decode cX11_fewestPayments 92 = .ok (.iconst 1, 1) := by decide +kernel
theorem dX11_fewestPayments_93 : decode cX11_fewestPayments 93 = .ok (.if_icmp .ne 15, 3) := by decide +kernel
theorem dX11_fewestPayments_96 : decode cX11_fewestPayments 96 = .ok (.aload_n 0, 1) := by decide +kernel
theorem dX11_fewestPayments_97 : decode cX11_fewestPayments 97 = .ok (.getfield 46, 3) := by decide +kernel
theorem dX11_fewestPayments_100 : decode cX11_fewestPayments 100 = .ok (.iload 6, 2) := by decide +kernel
theorem dX11_fewestPayments_102 : decode cX11_fewestPayments 102 = .ok (.dup2, 1) := by decide +kernel
theorem dX11_fewestPayments_103 : decode cX11_fewestPayments 103 = .ok (.laload, 1) := by decide +kernel
theorem dX11_fewestPayments_104 : decode cX11_fewestPayments 104 = .ok (.lload 4, 2) := by decide +kernel
theorem dX11_fewestPayments_106 : decode cX11_fewestPayments 106 = .ok (.ladd, 1) := by decide +kernel
theorem dX11_fewestPayments_107 : decode cX11_fewestPayments 107 = .ok (.lastore, 1) := by decide +kernel
theorem dX11_fewestPayments_108 : decode cX11_fewestPayments 108 = .ok (.iinc 6 1, 3) := by decide +kernel
theorem dX11_fewestPayments_111 : decode cX11_fewestPayments 111 = .ok (.goto (-31), 3) := by decide +kernel
theorem dX11_fewestPayments_114 : decode cX11_fewestPayments 114 = .ok (.iinc 3 1, 3) := by decide +kernel
theorem dX11_fewestPayments_117 : decode cX11_fewestPayments 117 = .ok (.goto (-70), 3) := by decide +kernel
theorem dX11_fewestPayments_120 : decode cX11_fewestPayments 120 = .ok (.iconst 0, 1) := by decide +kernel
theorem dX11_fewestPayments_121 : decode cX11_fewestPayments 121 = .ok (.istore_n 3, 1) := by decide +kernel
theorem dX11_fewestPayments_122 : decode cX11_fewestPayments 122 = .ok (.iconst 0, 1) := by decide +kernel
theorem dX11_fewestPayments_123 : decode cX11_fewestPayments 123 = .ok (.istore 4, 2) := by decide +kernel
theorem dX11_fewestPayments_125 : decode cX11_fewestPayments 125 = .ok (.iload 4, 2) := by decide +kernel
theorem dX11_fewestPayments_127 : decode cX11_fewestPayments 127 = .ok (.aload_n 0, 1) := by decide +kernel
theorem dX11_fewestPayments_128 : decode cX11_fewestPayments 128 = .ok (.getfield 17, 3) := by decide +kernel
theorem dX11_fewestPayments_131 : decode cX11_fewestPayments 131 = .ok (.iconst 1, 1) := by decide +kernel
theorem dX11_fewestPayments_132 : decode cX11_fewestPayments 132 = .ok (.iaload, 1) := by decide +kernel
theorem dX11_fewestPayments_133 : decode cX11_fewestPayments 133 = .ok (.if_icmp .ge 18, 3) := by decide +kernel
theorem dX11_fewestPayments_136 : decode cX11_fewestPayments 136 = .ok (.iload_n 3, 1) := by decide +kernel
theorem dX11_fewestPayments_137 : decode cX11_fewestPayments 137 = .ok (.iload_n 2, 1) := by decide +kernel
theorem dX11_fewestPayments_138 : decode cX11_fewestPayments 138 = .ok (.iload 4, 2) := by decide +kernel
theorem dX11_fewestPayments_140 : decode cX11_fewestPayments 140 = .ok (.ishr, 1) := by decide +kernel
theorem dX11_fewestPayments_141 : decode cX11_fewestPayments 141 = .ok (.iconst 1, 1) := by decide +kernel
theorem dX11_fewestPayments_142 : decode cX11_fewestPayments 142 = .ok (.iand, 1) := by decide +kernel
theorem dX11_fewestPayments_143 : decode cX11_fewestPayments 143 = .ok (.iadd, 1) := by decide +kernel
theorem dX11_fewestPayments_144 : decode cX11_fewestPayments 144 = .ok (.istore_n 3, 1) := by decide +kernel
theorem dX11_fewestPayments_145 : decode cX11_fewestPayments 145 = .ok (.iinc 4 1, 3) := by decide +kernel
theorem dX11_fewestPayments_148 : decode cX11_fewestPayments 148 = .ok (.goto (-23), 3) := by decide +kernel
theorem dX11_fewestPayments_151 : decode cX11_fewestPayments 151 = .ok (.iconst 1, 1) := by decide +kernel
theorem dX11_fewestPayments_152 : decode cX11_fewestPayments 152 = .ok (.istore 4, 2) := by decide +kernel
theorem dX11_fewestPayments_154 : decode cX11_fewestPayments 154 = .ok (.iload 4, 2) := by decide +kernel
theorem dX11_fewestPayments_156 : decode cX11_fewestPayments 156 = .ok (.iload_n 1, 1) := by decide +kernel
theorem dX11_fewestPayments_157 : decode cX11_fewestPayments 157 = .ok (.if_icmp .gt 117, 3) := by decide +kernel
theorem dX11_fewestPayments_160 : decode cX11_fewestPayments 160 = .ok (.iload 4, 2) := by decide +kernel
theorem dX11_fewestPayments_162 : decode cX11_fewestPayments 162 = .ok (.iload_n 2, 1) := by decide +kernel
theorem dX11_fewestPayments_163 : decode cX11_fewestPayments 163 = .ok (.iconst (-1), 1) := by decide +kernel
theorem dX11_fewestPayments_164 : decode cX11_fewestPayments 164 = .ok (.ixor, 1) := by decide +kernel
theorem dX11_fewestPayments_165 : decode cX11_fewestPayments 165 = .ok (.iand, 1) := by decide +kernel
theorem dX11_fewestPayments_166 : decode cX11_fewestPayments 166 = .ok (.ifCond .eq 6, 3) := by decide +kernel
theorem dX11_fewestPayments_169 : decode cX11_fewestPayments 169 = .ok (.goto 99, 3) := by decide +kernel
theorem dX11_fewestPayments_172 : decode cX11_fewestPayments 172 = .ok (.iconst 0, 1) := by decide +kernel
theorem dX11_fewestPayments_173 : decode cX11_fewestPayments 173 = .ok (.istore 5, 2) := by decide +kernel
theorem dX11_fewestPayments_175 : decode cX11_fewestPayments 175 = .ok (.iconst 0, 1) := by decide +kernel
theorem dX11_fewestPayments_176 : decode cX11_fewestPayments 176 = .ok (.istore 6, 2) := by decide +kernel
theorem dX11_fewestPayments_178 : decode cX11_fewestPayments 178 = .ok (.iload 6, 2) := by decide +kernel
theorem dX11_fewestPayments_180 : decode cX11_fewestPayments 180 = .ok (.aload_n 0, 1) := by decide +kernel
theorem dX11_fewestPayments_181 : decode cX11_fewestPayments 181 = .ok (.getfield 17, 3) := by decide +kernel
theorem dX11_fewestPayments_184 : decode cX11_fewestPayments 184 = .ok (.iconst 1, 1) := by decide +kernel
theorem dX11_fewestPayments_185 : decode cX11_fewestPayments 185 = .ok (.iaload, 1) := by decide +kernel
theorem dX11_fewestPayments_186 : decode cX11_fewestPayments 186 = .ok (.if_icmp .ge 55, 3) := by decide +kernel
theorem dX11_fewestPayments_189 : decode cX11_fewestPayments 189 = .ok (.iload 4, 2) := by decide +kernel
theorem dX11_fewestPayments_191 : decode cX11_fewestPayments 191 = .ok (.iload 6, 2) := by decide +kernel
theorem dX11_fewestPayments_193 : decode cX11_fewestPayments 193 = .ok (.ishr, 1) := by decide +kernel
theorem dX11_fewestPayments_194 : decode cX11_fewestPayments 194 = .ok (.iconst 1, 1) := by decide +kernel
theorem dX11_fewestPayments_195 : decode cX11_fewestPayments 195 = .ok (.iand, 1) := by decide +kernel
theorem dX11_fewestPayments_196 : decode cX11_fewestPayments 196 = .ok (.iconst 1, 1) := by decide +kernel
theorem dX11_fewestPayments_197 : decode cX11_fewestPayments 197 = .ok (.if_icmp .ne 38, 3) := by decide +kernel
theorem dX11_fewestPayments_200 : decode cX11_fewestPayments 200 = .ok (.aload_n 0, 1) := by decide +kernel
theorem dX11_fewestPayments_201 : decode cX11_fewestPayments 201 = .ok (.getfield 49, 3) := by decide +kernel
theorem dX11_fewestPayments_204 : decode cX11_fewestPayments 204 = .ok (.iload 4, 2) := by decide +kernel
theorem dX11_fewestPayments_206 : decode cX11_fewestPayments 206 = .ok (.iconst 1, 1) := by decide +kernel
theorem dX11_fewestPayments_207 : decode cX11_fewestPayments 207 = .ok (.iload 6, 2) := by decide +kernel
theorem dX11_fewestPayments_209 : decode cX11_fewestPayments 209 = .ok (.ishl, 1) := by decide +kernel
theorem dX11_fewestPayments_210 : decode cX11_fewestPayments 210 = .ok (.iconst (-1), 1) := by decide +kernel
theorem dX11_fewestPayments_211 : decode cX11_fewestPayments 211 = .ok (.ixor, 1) := by decide +kernel
theorem dX11_fewestPayments_212 : decode cX11_fewestPayments 212 = .ok (.iand, 1) := by decide +kernel
theorem dX11_fewestPayments_213 : decode cX11_fewestPayments 213 = .ok (.iaload, 1) := by decide +kernel
theorem dX11_fewestPayments_214 : decode cX11_fewestPayments 214 = .ok (.iload 5, 2) := by decide +kernel
theorem dX11_fewestPayments_216 : decode cX11_fewestPayments 216 = .ok (.if_icmp .le 19, 3) := by decide +kernel
theorem dX11_fewestPayments_219 : decode cX11_fewestPayments 219 = .ok (.aload_n 0, 1) := by decide +kernel
theorem dX11_fewestPayments_220 : decode cX11_fewestPayments 220 = .ok (.getfield 49, 3) := by decide +kernel
theorem dX11_fewestPayments_223 : decode cX11_fewestPayments 223 = .ok (.iload 4, 2) := by decide +kernel
theorem dX11_fewestPayments_225 : decode cX11_fewestPayments 225 = .ok (.iconst 1, 1) := by decide +kernel
theorem dX11_fewestPayments_226 : decode cX11_fewestPayments 226 = .ok (.iload 6, 2) := by decide +kernel
theorem dX11_fewestPayments_228 : decode cX11_fewestPayments 228 = .ok (.ishl, 1) := by decide +kernel
theorem dX11_fewestPayments_229 : decode cX11_fewestPayments 229 = .ok (.iconst (-1), 1) := by decide +kernel
theorem dX11_fewestPayments_230 : decode cX11_fewestPayments 230 = .ok (.ixor, 1) := by decide +kernel
theorem dX11_fewestPayments_231 : decode cX11_fewestPayments 231 = .ok (.iand, 1) := by decide +kernel
theorem dX11_fewestPayments_232 : decode cX11_fewestPayments 232 = .ok (.iaload, 1) := by decide +kernel
theorem dX11_fewestPayments_233 : decode cX11_fewestPayments 233 = .ok (.istore 5, 2) := by decide +kernel
theorem dX11_fewestPayments_235 : decode cX11_fewestPayments 235 = .ok (.iinc 6 1, 3) := by decide +kernel
theorem dX11_fewestPayments_238 : decode cX11_fewestPayments 238 = .ok (.goto (-60), 3) := by decide +kernel
theorem dX11_fewestPayments_241 : decode cX11_fewestPayments 241 = .ok (.aload_n 0, 1) := by decide +kernel
theorem dX11_fewestPayments_242 : decode cX11_fewestPayments 242 = .ok (.getfield 49, 3) := by decide +kernel
theorem dX11_fewestPayments_245 : decode cX11_fewestPayments 245 = .ok (.iload 4, 2) := by decide +kernel
theorem dX11_fewestPayments_247 : decode cX11_fewestPayments 247 = .ok (.iload 5, 2) := by decide +kernel
theorem dX11_fewestPayments_249 : decode cX11_fewestPayments 249 = .ok (.aload_n 0, 1) := by decide +kernel
theorem dX11_fewestPayments_250 : decode cX11_fewestPayments 250 = .ok (.getfield 46, 3) := by decide +kernel
theorem dX11_fewestPayments_253 : decode cX11_fewestPayments 253 = .ok (.iload 4, 2) := by decide +kernel
theorem dX11_fewestPayments_255 : decode cX11_fewestPayments 255 = .ok (.laload, 1) := by decide +kernel
theorem dX11_fewestPayments_256 : decode cX11_fewestPayments 256 = .ok (.lconst 0, 1) := by decide +kernel
theorem dX11_fewestPayments_257 : decode cX11_fewestPayments 257 = .ok (.lcmp, 1) := by decide +kernel
theorem dX11_fewestPayments_258 : decode cX11_fewestPayments 258 = .ok (.ifCond .ne 7, 3) := by decide +kernel
theorem dX11_fewestPayments_261 : decode cX11_fewestPayments 261 = .ok (.iconst 1, 1) := by decide +kernel
theorem dX11_fewestPayments_262 : decode cX11_fewestPayments 262 = .ok (.goto 4, 3) := by decide +kernel
theorem dX11_fewestPayments_265 : decode cX11_fewestPayments 265 = .ok (.iconst 0, 1) := by decide +kernel
theorem dX11_fewestPayments_266 : decode cX11_fewestPayments 266 = .ok (.iadd, 1) := by decide +kernel
theorem dX11_fewestPayments_267 : decode cX11_fewestPayments 267 = .ok (.iastore, 1) := by decide +kernel
theorem dX11_fewestPayments_268 : decode cX11_fewestPayments 268 = .ok (.iinc 4 1, 3) := by decide +kernel
theorem dX11_fewestPayments_271 : decode cX11_fewestPayments 271 = .ok (.goto (-117), 3) := by decide +kernel
theorem dX11_fewestPayments_274 : decode cX11_fewestPayments 274 = .ok (.iload_n 3, 1) := by decide +kernel
theorem dX11_fewestPayments_275 : decode cX11_fewestPayments 275 = .ok (.aload_n 0, 1) := by decide +kernel
theorem dX11_fewestPayments_276 : decode cX11_fewestPayments 276 = .ok (.getfield 49, 3) := by decide +kernel
theorem dX11_fewestPayments_279 : decode cX11_fewestPayments 279 = .ok (.iload_n 2, 1) := by decide +kernel
theorem dX11_fewestPayments_280 : decode cX11_fewestPayments 280 = .ok (.iaload, 1) := by decide +kernel
theorem dX11_fewestPayments_281 : decode cX11_fewestPayments 281 = .ok (.isub, 1) := by decide +kernel
theorem dX11_fewestPayments_282 : decode cX11_fewestPayments 282 = .ok (.ireturn, 1) := by decide +kernel
theorem dX11_lot_0 : decode cX11_lot 0 = .ok (.aload_n 0, 1) := by decide +kernel
theorem dX11_lot_1 : decode cX11_lot 1 = .ok (.getfield 20, 3) := by decide +kernel
theorem dX11_lot_4 : decode cX11_lot 4 = .ok (.sipush 608, 3) := by decide +kernel
theorem dX11_lot_7 : decode cX11_lot 7 = .ok (.iconst 4, 1) := by decide +kernel
theorem dX11_lot_8 : decode cX11_lot 8 = .ok (.iload_n 1, 1) := by decide +kernel
theorem dX11_lot_9 : decode cX11_lot 9 = .ok (.imul, 1) := by decide +kernel
theorem dX11_lot_10 : decode cX11_lot 10 = .ok (.iadd, 1) := by decide +kernel
theorem dX11_lot_11 : decode cX11_lot 11 = .ok (.iload_n 2, 1) := by decide +kernel
theorem dX11_lot_12 : decode cX11_lot 12 = .ok (.iadd, 1) := by decide +kernel
theorem dX11_lot_13 : decode cX11_lot 13 = .ok (.iaload, 1) := by decide +kernel
theorem dX11_lot_14 : decode cX11_lot 14 = .ok (.ireturn, 1) := by decide +kernel
set_option maxRecDepth 20000 in
theorem ggX11_isLotOf_X11_lot : GoodIn wsX11_isLotOf wsX11_lot := goodIn_r _ [5, 6, 7, 8, 9, 10, 11, 12, 13, 14, 15, 16, 17, 18, 19, 20, 21, 22, 23, 24, 25, 26, 27, 28, 29, 30] (by decide +kernel) (by decide +kernel)
set_option maxRecDepth 20000 in
theorem gX11_isLotOf_X11_lot : GoodIn wsX11_isLotOf (wsV RX11 244 RX11 yX11_lot wsX11_lot) := goodIn_app (goodIn_of _ (by decide +kernel)) ggX11_isLotOf_X11_lot
theorem dX11_isLotOf_0 : decode cX11_isLotOf 0 = .ok (.aload_n 0, 1) := by decide +kernel
theorem dX11_isLotOf_1 : decode cX11_isLotOf 1 = .ok (.iload_n 1, 1) := by decide +kernel
theorem dX11_isLotOf_2 : decode cX11_isLotOf 2 = .ok (.iconst 0, 1) := by decide +kernel
theorem dX11_isLotOf_3 : decode cX11_isLotOf 3 = .ok (.invokevirtual 244, 3) := by decide +kernel
theorem dX11_isLotOf_6 : decode cX11_isLotOf 6 = .ok (.iload_n 2, 1) := by decide +kernel
theorem dX11_isLotOf_7 : decode cX11_isLotOf 7 = .ok (.if_icmp .ne 17, 3) := by decide +kernel
theorem dX11_isLotOf_10 : decode cX11_isLotOf 10 = .ok (.aload_n 0, 1) := by decide +kernel
theorem dX11_isLotOf_11 : decode cX11_isLotOf 11 = .ok (.iload_n 1, 1) := by decide +kernel
theorem dX11_isLotOf_12 : decode cX11_isLotOf 12 = .ok (.iconst 1, 1) := by decide +kernel
theorem dX11_isLotOf_13 : decode cX11_isLotOf 13 = .ok (.invokevirtual 244, 3) := by decide +kernel
theorem dX11_isLotOf_16 : decode cX11_isLotOf 16 = .ok (.iload_n 3, 1) := by decide +kernel
theorem dX11_isLotOf_17 : decode cX11_isLotOf 17 = .ok (.if_icmp .ne 7, 3) := by decide +kernel
theorem dX11_isLotOf_20 : decode cX11_isLotOf 20 = .ok (.iconst 1, 1) := by decide +kernel
theorem dX11_isLotOf_21 : decode cX11_isLotOf 21 = .ok (.goto 4, 3) := by decide +kernel
theorem dX11_isLotOf_24 : decode cX11_isLotOf 24 = .ok (.iconst 0, 1) := by decide +kernel
theorem dX11_isLotOf_25 : decode cX11_isLotOf 25 = .ok (.ireturn, 1) := by decide +kernel
set_option maxRecDepth 20000 in
theorem ggX11_stockOf_X11_isLotOf : GoodIn wsX11_stockOf wsX11_isLotOf := goodIn_r _ [6, 7, 8, 9, 5, 10, 1, 11, 12, 13, 14, 15, 16, 17, 18, 19, 20, 21, 22, 23, 24, 25, 26, 27, 28, 29, 30, 31, 32, 33, 34] (by decide +kernel) (by decide +kernel)
set_option maxRecDepth 20000 in
theorem gX11_stockOf_X11_isLotOf : GoodIn wsX11_stockOf (wsV RX11 247 RX11 yX11_isLotOf wsX11_isLotOf) := goodIn_app (goodIn_of _ (by decide +kernel)) ggX11_stockOf_X11_isLotOf
set_option maxRecDepth 20000 in
theorem ggX11_stockOf_X11_lot : GoodIn wsX11_stockOf wsX11_lot := goodIn_r _ [10, 1, 11, 12, 13, 14, 15, 16, 17, 18, 19, 20, 21, 22, 23, 24, 25, 26, 27, 28, 29, 30, 31, 32, 33, 34] (by decide +kernel) (by decide +kernel)
set_option maxRecDepth 20000 in
theorem gX11_stockOf_X11_lot : GoodIn wsX11_stockOf (wsV RX11 244 RX11 yX11_lot wsX11_lot) := goodIn_app (goodIn_of _ (by decide +kernel)) ggX11_stockOf_X11_lot
theorem dX11_stockOf_0 : decode cX11_stockOf 0 = .ok (.iconst 0, 1) := by decide +kernel
theorem dX11_stockOf_1 : decode cX11_stockOf 1 = .ok (.istore_n 3, 1) := by decide +kernel
theorem dX11_stockOf_2 : decode cX11_stockOf 2 = .ok (.iconst 0, 1) := by decide +kernel
theorem dX11_stockOf_3 : decode cX11_stockOf 3 = .ok (.istore 4, 2) := by decide +kernel
theorem dX11_stockOf_5 : decode cX11_stockOf 5 = .ok (.iload 4, 2) := by decide +kernel
theorem dX11_stockOf_7 : decode cX11_stockOf 7 = .ok (.aload_n 0, 1) := by decide +kernel
theorem dX11_stockOf_8 : decode cX11_stockOf 8 = .ok (.getfield 20, 3) := by decide +kernel
theorem dX11_stockOf_11 : decode cX11_stockOf 11 = .ok (.iconst 1, 1) := by decide +kernel
theorem dX11_stockOf_12 : decode cX11_stockOf 12 = .ok (.iaload, 1) := by decide +kernel
theorem dX11_stockOf_13 : decode cX11_stockOf 13 = .ok (.if_icmp .ge 30, 3) := by decide +kernel
theorem dX11_stockOf_16 : decode cX11_stockOf 16 = .ok (.aload_n 0, 1) := by decide +kernel
theorem dX11_stockOf_17 : decode cX11_stockOf 17 = .ok (.iload 4, 2) := by decide +kernel
theorem dX11_stockOf_19 : decode cX11_stockOf 19 = .ok (.iload_n 1, 1) := by decide +kernel
theorem dX11_stockOf_20 : decode cX11_stockOf 20 = .ok (.iload_n 2, 1) := by decide +kernel
theorem dX11_stockOf_21 : decode cX11_stockOf 21 = .ok (.invokevirtual 247, 3) := by decide +kernel
theorem dX11_stockOf_24 : decode cX11_stockOf 24 = .ok (.ifCond .eq 13, 3) := by decide +kernel
theorem dX11_stockOf_27 : decode cX11_stockOf 27 = .ok (.iload_n 3, 1) := by decide +kernel
theorem dX11_stockOf_28 : decode cX11_stockOf 28 = .ok (.aload_n 0, 1) := by decide +kernel
theorem dX11_stockOf_29 : decode cX11_stockOf 29 = .ok (.iload 4, 2) := by decide +kernel
theorem dX11_stockOf_31 : decode cX11_stockOf 31 = .ok (.iconst 2, 1) := by decide +kernel
theorem dX11_stockOf_32 : decode cX11_stockOf 32 = .ok (.invokevirtual 244, 3) := by decide +kernel
theorem dX11_stockOf_35 : decode cX11_stockOf 35 = .ok (.iadd, 1) := by decide +kernel
theorem dX11_stockOf_36 : decode cX11_stockOf 36 = .ok (.istore_n 3, 1) := by decide +kernel
theorem dX11_stockOf_37 : decode cX11_stockOf 37 = .ok (.iinc 4 1, 3) := by decide +kernel
theorem dX11_stockOf_40 : decode cX11_stockOf 40 = .ok (.goto (-35), 3) := by decide +kernel
theorem dX11_stockOf_43 : decode cX11_stockOf 43 = .ok (.iload_n 3, 1) := by decide +kernel
theorem dX11_stockOf_44 : decode cX11_stockOf 44 = .ok (.ireturn, 1) := by decide +kernel
set_option maxRecDepth 20000 in
theorem ggX11_isPlace_X11_isCompany : GoodIn wsX11_isPlace wsX11_isCompany := goodIn_r _ [5, 6, 7, 8, 4, 9, 14, 15, 16, 17, 18, 19, 20, 21, 22, 23, 24, 25, 26, 27, 28, 29, 30, 31, 32, 33, 34, 35, 36, 37] (by decide +kernel) (by decide +kernel)
set_option maxRecDepth 20000 in
theorem gX11_isPlace_X11_isCompany : GoodIn wsX11_isPlace (wsV RX11 177 RX11 yX11_isCompany wsX11_isCompany) := goodIn_app (goodIn_of _ (by decide +kernel)) ggX11_isPlace_X11_isCompany
set_option maxRecDepth 20000 in
theorem ggX11_isPlace_X11_isProduct : GoodIn wsX11_isPlace wsX11_isProduct := goodIn_r _ [13, 6, 7, 8, 4, 9, 14, 15, 16, 17, 18, 19, 20, 21, 22, 23, 24, 25, 26, 27, 28, 29, 30, 31, 32, 33, 34, 35, 36, 37] (by decide +kernel) (by decide +kernel)
set_option maxRecDepth 20000 in
theorem gX11_isPlace_X11_isProduct : GoodIn wsX11_isPlace (wsV RX11 180 RX11 yX11_isProduct wsX11_isProduct) := goodIn_app (goodIn_of _ (by decide +kernel)) ggX11_isPlace_X11_isProduct
theorem dX11_isPlace_0 : decode cX11_isPlace 0 = .ok (.aload_n 0, 1) := by decide +kernel
theorem dX11_isPlace_1 : decode cX11_isPlace 1 = .ok (.iload_n 1, 1) := by decide +kernel
theorem dX11_isPlace_2 : decode cX11_isPlace 2 = .ok (.invokevirtual 177, 3) := by decide +kernel
theorem dX11_isPlace_5 : decode cX11_isPlace 5 = .ok (.ifCond .eq 15, 3) := by decide +kernel
theorem dX11_isPlace_8 : decode cX11_isPlace 8 = .ok (.aload_n 0, 1) := by decide +kernel
theorem dX11_isPlace_9 : decode cX11_isPlace 9 = .ok (.iload_n 2, 1) := by decide +kernel
theorem dX11_isPlace_10 : decode cX11_isPlace 10 = .ok (.invokevirtual 180, 3) := by decide +kernel
theorem dX11_isPlace_13 : decode cX11_isPlace 13 = .ok (.ifCond .eq 7, 3) := by decide +kernel
theorem dX11_isPlace_16 : decode cX11_isPlace 16 = .ok (.iconst 1, 1) := by decide +kernel
theorem dX11_isPlace_17 : decode cX11_isPlace 17 = .ok (.goto 4, 3) := by decide +kernel
theorem dX11_isPlace_20 : decode cX11_isPlace 20 = .ok (.iconst 0, 1) := by decide +kernel
theorem dX11_isPlace_21 : decode cX11_isPlace 21 = .ok (.ireturn, 1) := by decide +kernel
set_option maxRecDepth 20000 in
theorem ggX11_stock_X11_isPlace : GoodIn wsX11_stock wsX11_isPlace := goodIn_r _ [6, 7, 8, 9, 5, 10, 11, 12, 13, 14, 15, 16, 17, 18, 36, 37, 38, 39, 40, 41, 42, 43, 44, 45, 46, 47, 48, 49, 50, 51, 52, 53, 54, 55, 56, 57, 58, 59] (by decide +kernel) (by decide +kernel)
set_option maxRecDepth 20000 in
theorem gX11_stock_X11_isPlace : GoodIn wsX11_stock (wsV RX11 250 RX11 yX11_isPlace wsX11_isPlace) := goodIn_app (goodIn_of _ (by decide +kernel)) ggX11_stock_X11_isPlace
set_option maxRecDepth 20000 in
theorem ggX11_stock_X11_stockOf : GoodIn wsX11_stock wsX11_stockOf := goodIn_r _ [22, 23, 24, 25, 26, 5, 27, 28, 29, 30, 31, 36, 37, 38, 39, 40, 41, 42, 43, 44, 45, 46, 47, 48, 49, 50, 51, 52, 53, 54, 55, 56, 57, 58, 59] (by decide +kernel) (by decide +kernel)
set_option maxRecDepth 20000 in
theorem gX11_stock_X11_stockOf : GoodIn wsX11_stock (wsV RX11 253 RX11 yX11_stockOf wsX11_stockOf) := goodIn_app (goodIn_of _ (by decide +kernel)) ggX11_stock_X11_stockOf
set_option maxRecDepth 20000 in
theorem ggX11_stock_X11_fail : GoodIn wsX11_stock wsX11_fail := goodIn_r _ [35, 1, 36, 37, 38, 39, 40, 41, 42, 43, 44, 45, 46, 47, 48, 49, 50, 51, 52, 53, 54, 55, 56, 57, 58, 59] (by decide +kernel) (by decide +kernel)
set_option maxRecDepth 20000 in
theorem gX11_stock_X11_fail : GoodIn wsX11_stock (wsV RX11 159 RX11 yX11_fail wsX11_fail) := goodIn_app (goodIn_of _ (by decide +kernel)) ggX11_stock_X11_fail
theorem dX11_stock_0 : decode cX11_stock 0 = .ok (.aload_n 0, 1) := by decide +kernel
theorem dX11_stock_1 : decode cX11_stock 1 = .ok (.iconst 0, 1) := by decide +kernel
theorem dX11_stock_2 : decode cX11_stock 2 = .ok (.putfield 58, 3) := by decide +kernel
theorem dX11_stock_5 : decode cX11_stock 5 = .ok (.aload_n 0, 1) := by decide +kernel
theorem dX11_stock_6 : decode cX11_stock 6 = .ok (.iload_n 1, 1) := by decide +kernel
theorem dX11_stock_7 : decode cX11_stock 7 = .ok (.iload_n 2, 1) := by decide +kernel
theorem dX11_stock_8 : decode cX11_stock 8 = .ok (.invokevirtual 250, 3) := by decide +kernel
theorem dX11_stock_11 : decode cX11_stock 11 = .ok (.ifCond .eq 12, 3) := by decide +kernel
theorem dX11_stock_14 : decode cX11_stock 14 = .ok (.aload_n 0, 1) := by decide +kernel
theorem dX11_stock_15 : decode cX11_stock 15 = .ok (.iload_n 1, 1) := by decide +kernel
theorem dX11_stock_16 : decode cX11_stock 16 = .ok (.iload_n 2, 1) := by decide +kernel
theorem dX11_stock_17 : decode cX11_stock 17 = .ok (.invokevirtual 253, 3) := by decide +kernel
theorem dX11_stock_20 : decode cX11_stock 20 = .ok (.goto 8, 3) := by decide +kernel
theorem dX11_stock_23 : decode cX11_stock 23 = .ok (.aload_n 0, 1) := by decide +kernel
theorem dX11_stock_24 : decode cX11_stock 24 = .ok (.iconst 1, 1) := by decide +kernel
theorem dX11_stock_25 : decode cX11_stock 25 = .ok (.invokevirtual 159, 3) := by decide +kernel
theorem dX11_stock_28 : decode cX11_stock 28 = .ok (.ireturn, 1) := by decide +kernel
set_option maxRecDepth 20000 in
theorem ggX11_oldestPrice_X11_isPlace : GoodIn wsX11_oldestPrice wsX11_isPlace := goodIn_r _ [7, 8, 9, 10, 6, 11, 12, 13, 14, 15, 16, 17, 18, 19, 32, 33, 34, 35, 36, 37, 38, 39, 40, 41, 42, 43, 44, 45, 46, 47, 48, 49, 50, 51, 52, 53, 54, 55] (by decide +kernel) (by decide +kernel)
set_option maxRecDepth 20000 in
theorem gX11_oldestPrice_X11_isPlace : GoodIn wsX11_oldestPrice (wsV RX11 250 RX11 yX11_isPlace wsX11_isPlace) := goodIn_app (goodIn_of _ (by decide +kernel)) ggX11_oldestPrice_X11_isPlace
set_option maxRecDepth 20000 in
theorem ggX11_oldestPrice_X11_fail : GoodIn wsX11_oldestPrice wsX11_fail := goodIn_r _ [23, 1, 32, 33, 34, 35, 36, 37, 38, 39, 40, 41, 42, 43, 44, 45, 46, 47, 48, 49, 50, 51, 52, 53, 54, 55] (by decide +kernel) (by decide +kernel)
set_option maxRecDepth 20000 in
theorem gX11_oldestPrice_X11_fail : GoodIn wsX11_oldestPrice (wsV RX11 159 RX11 yX11_fail wsX11_fail) := goodIn_app (goodIn_of _ (by decide +kernel)) ggX11_oldestPrice_X11_fail
set_option maxRecDepth 20000 in
theorem ggX11_oldestPrice_X11_isLotOf : GoodIn wsX11_oldestPrice wsX11_isLotOf := goodIn_r _ [27, 28, 29, 30, 6, 31, 2, 32, 33, 34, 35, 36, 37, 38, 39, 40, 41, 42, 43, 44, 45, 46, 47, 48, 49, 50, 51, 52, 53, 54, 55] (by decide +kernel) (by decide +kernel)
set_option maxRecDepth 20000 in
theorem gX11_oldestPrice_X11_isLotOf : GoodIn wsX11_oldestPrice (wsV RX11 247 RX11 yX11_isLotOf wsX11_isLotOf) := goodIn_app (goodIn_of _ (by decide +kernel)) ggX11_oldestPrice_X11_isLotOf
set_option maxRecDepth 20000 in
theorem ggX11_oldestPrice_X11_lot : GoodIn wsX11_oldestPrice wsX11_lot := goodIn_r _ [31, 2, 32, 33, 34, 35, 36, 37, 38, 39, 40, 41, 42, 43, 44, 45, 46, 47, 48, 49, 50, 51, 52, 53, 54, 55] (by decide +kernel) (by decide +kernel)
set_option maxRecDepth 20000 in
theorem gX11_oldestPrice_X11_lot : GoodIn wsX11_oldestPrice (wsV RX11 244 RX11 yX11_lot wsX11_lot) := goodIn_app (goodIn_of _ (by decide +kernel)) ggX11_oldestPrice_X11_lot
theorem dX11_oldestPrice_0 : decode cX11_oldestPrice 0 = .ok (.aload_n 0, 1) := by decide +kernel
theorem dX11_oldestPrice_1 : decode cX11_oldestPrice 1 = .ok (.iconst 0, 1) := by decide +kernel
theorem dX11_oldestPrice_2 : decode cX11_oldestPrice 2 = .ok (.putfield 58, 3) := by decide +kernel
theorem dX11_oldestPrice_5 : decode cX11_oldestPrice 5 = .ok (.aload_n 0, 1) := by decide +kernel
theorem dX11_oldestPrice_6 : decode cX11_oldestPrice 6 = .ok (.iload_n 1, 1) := by decide +kernel
theorem dX11_oldestPrice_7 : decode cX11_oldestPrice 7 = .ok (.iload_n 2, 1) := by decide +kernel
theorem dX11_oldestPrice_8 : decode cX11_oldestPrice 8 = .ok (.invokevirtual 250, 3) := by decide +kernel
theorem dX11_oldestPrice_11 : decode cX11_oldestPrice 11 = .ok (.ifCond .ne 9, 3) := by decide +kernel
theorem dX11_oldestPrice_14 : decode cX11_oldestPrice 14 = .ok (.aload_n 0, 1) := by decide +kernel
theorem dX11_oldestPrice_15 : decode cX11_oldestPrice 15 = .ok (.iconst 1, 1) := by decide +kernel
theorem dX11_oldestPrice_16 : decode cX11_oldestPrice 16 = .ok (.invokevirtual 159, 3) := by decide +kernel
theorem dX11_oldestPrice_19 : decode cX11_oldestPrice 19 = .ok (.ireturn, 1) := by decide +kernel
theorem dX11_oldestPrice_20 : decode cX11_oldestPrice 20 = .ok (.iconst 0, 1) := by decide +kernel
theorem dX11_oldestPrice_21 : decode cX11_oldestPrice 21 = .ok (.istore_n 3, 1) := by decide +kernel
theorem dX11_oldestPrice_22 : decode cX11_oldestPrice 22 = .ok (.iload_n 3, 1) := by decide +kernel
theorem dX11_oldestPrice_23 : decode cX11_oldestPrice 23 = .ok (.aload_n 0, 1) := by decide +kernel
theorem dX11_oldestPrice_24 : decode cX11_oldestPrice 24 = .ok (.getfield 20, 3) := by decide +kernel
theorem dX11_oldestPrice_27 : decode cX11_oldestPrice 27 = .ok (.iconst 1, 1) := by decide +kernel
theorem dX11_oldestPrice_28 : decode cX11_oldestPrice 28 = .ok (.iaload, 1) := by decide +kernel
theorem dX11_oldestPrice_29 : decode cX11_oldestPrice 29 = .ok (.if_icmp .ge 26, 3) := by decide +kernel
theorem dX11_oldestPrice_32 : decode cX11_oldestPrice 32 = .ok (.aload_n 0, 1) := by decide +kernel
theorem dX11_oldestPrice_33 : decode cX11_oldestPrice 33 = .ok (.iload_n 3, 1) := by decide +kernel
theorem dX11_oldestPrice_34 : decode cX11_oldestPrice 34 = .ok (.iload_n 1, 1) := by decide +kernel
theorem dX11_oldestPrice_35 : decode cX11_oldestPrice 35 = .ok (.iload_n 2, 1) := by decide +kernel
theorem dX11_oldestPrice_36 : decode cX11_oldestPrice 36 = .ok (.invokevirtual 247, 3) := by decide +kernel
theorem dX11_oldestPrice_39 : decode cX11_oldestPrice 39 = .ok (.ifCond .eq 10, 3) := by decide +kernel
theorem dX11_oldestPrice_42 : decode cX11_oldestPrice 42 = .ok (.aload_n 0, 1) := by decide +kernel
theorem dX11_oldestPrice_43 : decode cX11_oldestPrice 43 = .ok (.iload_n 3, 1) := by decide +kernel
theorem dX11_oldestPrice_44 : decode cX11_oldestPrice 44 = .ok (.iconst 3, 1) := by decide +kernel
theorem dX11_oldestPrice_45 : decode cX11_oldestPrice 45 = .ok (.invokevirtual 244, 3) := by decide +kernel
theorem dX11_oldestPrice_48 : decode cX11_oldestPrice 48 = .ok (.ireturn, 1) := by decide +kernel
theorem dX11_oldestPrice_49 : decode cX11_oldestPrice 49 = .ok (.iinc 3 1, 3) := by decide +kernel
theorem dX11_oldestPrice_52 : decode cX11_oldestPrice 52 = .ok (.goto (-30), 3) := by decide +kernel
theorem dX11_oldestPrice_55 : decode cX11_oldestPrice 55 = .ok (.iconst (-1), 1) := by decide +kernel
theorem dX11_oldestPrice_56 : decode cX11_oldestPrice 56 = .ok (.ireturn, 1) := by decide +kernel
set_option maxRecDepth 20000 in
theorem ggX11_profitPer_X11_lot : GoodIn wsX11_profitPer wsX11_lot := goodIn_r _ [6, 7, 8, 9, 10, 11, 12, 13, 14, 15, 16, 17, 18, 19, 20, 21, 22, 23, 24, 25, 26, 27, 28, 29, 30, 31] (by decide +kernel) (by decide +kernel)
set_option maxRecDepth 20000 in
theorem gX11_profitPer_X11_lot : GoodIn wsX11_profitPer (wsV RX11 244 RX11 yX11_lot wsX11_lot) := goodIn_app (goodIn_of _ (by decide +kernel)) ggX11_profitPer_X11_lot
theorem dX11_profitPer_0 : decode cX11_profitPer 0 = .ok (.aload_n 0, 1) := by decide +kernel
theorem dX11_profitPer_1 : decode cX11_profitPer 1 = .ok (.iload_n 1, 1) := by decide +kernel
theorem dX11_profitPer_2 : decode cX11_profitPer 2 = .ok (.iconst 3, 1) := by decide +kernel
theorem dX11_profitPer_3 : decode cX11_profitPer 3 = .ok (.invokevirtual 244, 3) := by decide +kernel
theorem dX11_profitPer_6 : decode cX11_profitPer 6 = .ok (.aload_n 0, 1) := by decide +kernel
theorem dX11_profitPer_7 : decode cX11_profitPer 7 = .ok (.getfield 17, 3) := by decide +kernel
theorem dX11_profitPer_10 : decode cX11_profitPer 10 = .ok (.bipush 22, 2) := by decide +kernel
theorem dX11_profitPer_12 : decode cX11_profitPer 12 = .ok (.aload_n 0, 1) := by decide +kernel
theorem dX11_profitPer_13 : decode cX11_profitPer 13 = .ok (.iload_n 1, 1) := by decide +kernel
theorem dX11_profitPer_14 : decode cX11_profitPer 14 = .ok (.iconst 1, 1) := by decide +kernel
theorem dX11_profitPer_15 : decode cX11_profitPer 15 = .ok (.invokevirtual 244, 3) := by decide +kernel
theorem dX11_profitPer_18 : decode cX11_profitPer 18 = .ok (.iadd, 1) := by decide +kernel
theorem dX11_profitPer_19 : decode cX11_profitPer 19 = .ok (.iaload, 1) := by decide +kernel
theorem dX11_profitPer_20 : decode cX11_profitPer 20 = .ok (.isub, 1) := by decide +kernel
theorem dX11_profitPer_21 : decode cX11_profitPer 21 = .ok (.i2l, 1) := by decide +kernel
theorem dX11_profitPer_22 : decode cX11_profitPer 22 = .ok (.lreturn, 1) := by decide +kernel
set_option maxRecDepth 20000 in
theorem ggX11_profitOf_X11_lot : GoodIn wsX11_profitOf wsX11_lot := goodIn_r _ [6, 1, 12, 13, 14, 15, 16, 17, 18, 19, 20, 21, 22, 23, 24, 25, 26, 27, 28, 29, 30, 31, 32, 33, 34, 35] (by decide +kernel) (by decide +kernel)
set_option maxRecDepth 20000 in
theorem gX11_profitOf_X11_lot : GoodIn wsX11_profitOf (wsV RX11 244 RX11 yX11_lot wsX11_lot) := goodIn_app (goodIn_of _ (by decide +kernel)) ggX11_profitOf_X11_lot
set_option maxRecDepth 20000 in
theorem ggX11_profitOf_X11_profitPer : GoodIn wsX11_profitOf wsX11_profitPer := goodIn_r _ [10, 11, 2, 3, 4, 5, 6, 1, 12, 13, 14, 15, 16, 17, 18, 19, 20, 21, 22, 23, 24, 25, 26, 27, 28, 29, 30, 31, 32, 33, 34, 35] (by decide +kernel) (by decide +kernel)
set_option maxRecDepth 20000 in
theorem gX11_profitOf_X11_profitPer : GoodIn wsX11_profitOf (wsV RX11 256 RX11 yX11_profitPer wsX11_profitPer) := goodIn_app (goodIn_of _ (by decide +kernel)) ggX11_profitOf_X11_profitPer
theorem dX11_profitOf_0 : decode cX11_profitOf 0 = .ok (.lconst 0, 1) := by decide +kernel
theorem dX11_profitOf_1 : decode cX11_profitOf 1 = .ok (.lstore_n 2, 1) := by decide +kernel
theorem dX11_profitOf_2 : decode cX11_profitOf 2 = .ok (.iconst 0, 1) := by decide +kernel
theorem dX11_profitOf_3 : decode cX11_profitOf 3 = .ok (.istore 4, 2) := by decide +kernel
theorem dX11_profitOf_5 : decode cX11_profitOf 5 = .ok (.iload 4, 2) := by decide +kernel
theorem dX11_profitOf_7 : decode cX11_profitOf 7 = .ok (.aload_n 0, 1) := by decide +kernel
theorem dX11_profitOf_8 : decode cX11_profitOf 8 = .ok (.getfield 20, 3) := by decide +kernel
theorem dX11_profitOf_11 : decode cX11_profitOf 11 = .ok (.iconst 1, 1) := by decide +kernel
theorem dX11_profitOf_12 : decode cX11_profitOf 12 = .ok (.iaload, 1) := by decide +kernel
theorem dX11_profitOf_13 : decode cX11_profitOf 13 = .ok (.if_icmp .ge 42, 3) := by decide +kernel
theorem dX11_profitOf_16 : decode cX11_profitOf 16 = .ok (.iload_n 1, 1) := by decide +kernel
theorem dX11_profitOf_17 : decode cX11_profitOf 17 = .ok (.ifCond .lt 14, 3) := by decide +kernel
theorem dX11_profitOf_20 : decode cX11_profitOf 20 = .ok (.aload_n 0, 1) := by decide +kernel
theorem dX11_profitOf_21 : decode cX11_profitOf 21 = .ok (.iload 4, 2) := by decide +kernel
theorem dX11_profitOf_23 : decode cX11_profitOf 23 = .ok (.iconst 0, 1) := by decide +kernel
theorem dX11_profitOf_24 : decode cX11_profitOf 24 = .ok (.invokevirtual 244, 3) := by decide +kernel
theorem dX11_profitOf_27 : decode cX11_profitOf 27 = .ok (.iload_n 1, 1) := by decide +kernel
theorem dX11_profitOf_28 : decode cX11_profitOf 28 = .ok (.if_icmp .ne 21, 3) := by decide +kernel
theorem dX11_profitOf_31 : decode cX11_profitOf 31 = .ok (.lload_n 2, 1) := by decide +kernel
theorem dX11_profitOf_32 : decode cX11_profitOf 32 = .ok (.aload_n 0, 1) := by decide +kernel
theorem dX11_profitOf_33 : decode cX11_profitOf 33 = .ok (.iload 4, 2) := by decide +kernel
theorem dX11_profitOf_35 : decode cX11_profitOf 35 = .ok (.iconst 2, 1) := by decide +kernel
theorem dX11_profitOf_36 : decode cX11_profitOf 36 = .ok (.invokevirtual 244, 3) := by decide +kernel
theorem dX11_profitOf_39 : decode cX11_profitOf 39 = .ok (.i2l, 1) := by decide +kernel
theorem dX11_profitOf_40 : decode cX11_profitOf 40 = .ok (.aload_n 0, 1) := by decide +kernel
theorem dX11_profitOf_41 : decode cX11_profitOf 41 = .ok (.iload 4, 2) := by decide +kernel
theorem dX11_profitOf_43 : decode cX11_profitOf 43 = .ok (.invokevirtual 256, 3) := by decide +kernel
theorem dX11_profitOf_46 : decode cX11_profitOf 46 = .ok (.lmul, 1) := by decide +kernel
theorem dX11_profitOf_47 : decode cX11_profitOf 47 = .ok (.ladd, 1) := by decide +kernel
theorem dX11_profitOf_48 : decode cX11_profitOf 48 = .ok (.lstore_n 2, 1) := by decide +kernel
theorem dX11_profitOf_49 : decode cX11_profitOf 49 = .ok (.iinc 4 1, 3) := by decide +kernel
theorem dX11_profitOf_52 : decode cX11_profitOf 52 = .ok (.goto (-47), 3) := by decide +kernel
theorem dX11_profitOf_55 : decode cX11_profitOf 55 = .ok (.lload_n 2, 1) := by decide +kernel
theorem dX11_profitOf_56 : decode cX11_profitOf 56 = .ok (.lreturn, 1) := by decide +kernel
set_option maxRecDepth 20000 in
theorem ggX11_unrealized_X11_isCompany : GoodIn wsX11_unrealized wsX11_isCompany := goodIn_r _ [6, 7, 8, 9, 5, 10, 24, 25, 26, 27, 28, 29, 30, 31, 32, 33, 34, 35, 36, 37, 38, 39, 40, 41, 42, 43, 44, 45, 46, 47] (by decide +kernel) (by decide +kernel)
set_option maxRecDepth 20000 in
theorem gX11_unrealized_X11_isCompany : GoodIn wsX11_unrealized (wsV RX11 177 RX11 yX11_isCompany wsX11_isCompany) := goodIn_app (goodIn_of _ (by decide +kernel)) ggX11_unrealized_X11_isCompany
set_option maxRecDepth 20000 in
theorem ggX11_unrealized_X11_profitOf : GoodIn wsX11_unrealized wsX11_profitOf := goodIn_r _ [14, 15, 16, 17, 18, 5, 19, 20, 21, 22, 23, 7, 24, 25, 26, 27, 28, 29, 30, 31, 32, 33, 34, 35, 36, 37, 38, 39, 40, 41, 42, 43, 44, 45, 46, 47] (by decide +kernel) (by decide +kernel)
set_option maxRecDepth 20000 in
theorem gX11_unrealized_X11_profitOf : GoodIn wsX11_unrealized (wsV RX11 231 RX11 yX11_profitOf wsX11_profitOf) := goodIn_app (goodIn_of _ (by decide +kernel)) ggX11_unrealized_X11_profitOf
theorem dX11_unrealized_0 : decode cX11_unrealized 0 = .ok (.aload_n 0, 1) := by decide +kernel
theorem dX11_unrealized_1 : decode cX11_unrealized 1 = .ok (.aload_n 0, 1) := by decide +kernel
theorem dX11_unrealized_2 : decode cX11_unrealized 2 = .ok (.iload_n 1, 1) := by decide +kernel
theorem dX11_unrealized_3 : decode cX11_unrealized 3 = .ok (.invokevirtual 177, 3) := by decide +kernel
theorem dX11_unrealized_6 : decode cX11_unrealized 6 = .ok (.ifCond .eq 7, 3) := by decide +kernel
theorem dX11_unrealized_9 : decode cX11_unrealized 9 = .ok (.iconst 0, 1) := by decide +kernel
theorem dX11_unrealized_10 : decode cX11_unrealized 10 = .ok (.goto 4, 3) := by decide +kernel
theorem dX11_unrealized_13 : decode cX11_unrealized 13 = .ok (.iconst 1, 1) := by decide +kernel
theorem dX11_unrealized_14 : decode cX11_unrealized 14 = .ok (.putfield 58, 3) := by decide +kernel
theorem dX11_unrealized_17 : decode cX11_unrealized 17 = .ok (.aload_n 0, 1) := by decide +kernel
theorem dX11_unrealized_18 : decode cX11_unrealized 18 = .ok (.getfield 58, 3) := by decide +kernel
theorem dX11_unrealized_21 : decode cX11_unrealized 21 = .ok (.ifCond .ne 11, 3) := by decide +kernel
theorem dX11_unrealized_24 : decode cX11_unrealized 24 = .ok (.aload_n 0, 1) := by decide +kernel
theorem dX11_unrealized_25 : decode cX11_unrealized 25 = .ok (.iload_n 1, 1) := by decide +kernel
theorem dX11_unrealized_26 : decode cX11_unrealized 26 = .ok (.invokevirtual 231, 3) := by decide +kernel
theorem dX11_unrealized_29 : decode cX11_unrealized 29 = .ok (.goto 4, 3) := by decide +kernel
theorem dX11_unrealized_32 : decode cX11_unrealized 32 = .ok (.lconst 0, 1) := by decide +kernel
theorem dX11_unrealized_33 : decode cX11_unrealized 33 = .ok (.lreturn, 1) := by decide +kernel
set_option maxRecDepth 20000 in
theorem ggX11_canTake_X11_stockOf : GoodIn wsX11_canTake wsX11_stockOf := goodIn_r _ [6, 7, 8, 9, 10, 5, 11, 12, 13, 14, 15, 16, 17, 18, 19, 20, 21, 22, 23, 24, 25, 26, 27, 28, 29, 30, 31, 32, 33, 34, 35, 36, 37, 38, 39] (by decide +kernel) (by decide +kernel)
set_option maxRecDepth 20000 in
theorem gX11_canTake_X11_stockOf : GoodIn wsX11_canTake (wsV RX11 253 RX11 yX11_stockOf wsX11_stockOf) := goodIn_app (goodIn_of _ (by decide +kernel)) ggX11_canTake_X11_stockOf
theorem dX11_canTake_0 : decode cX11_canTake 0 = .ok (.aload_n 0, 1) := by decide +kernel
theorem dX11_canTake_1 : decode cX11_canTake 1 = .ok (.getfield 17, 3) := by decide +kernel
theorem dX11_canTake_4 : decode cX11_canTake 4 = .ok (.bipush 16, 2) := by decide +kernel
theorem dX11_canTake_6 : decode cX11_canTake 6 = .ok (.iload_n 2, 1) := by decide +kernel
theorem dX11_canTake_7 : decode cX11_canTake 7 = .ok (.iadd, 1) := by decide +kernel
theorem dX11_canTake_8 : decode cX11_canTake 8 = .ok (.iaload, 1) := by decide +kernel
theorem dX11_canTake_9 : decode cX11_canTake 9 = .ok (.iload_n 1, 1) := by decide +kernel
theorem dX11_canTake_10 : decode cX11_canTake 10 = .ok (.if_icmp .eq 13, 3) := by decide +kernel
theorem dX11_canTake_13 : decode cX11_canTake 13 = .ok (.aload_n 0, 1) := by decide +kernel
theorem dX11_canTake_14 : decode cX11_canTake 14 = .ok (.iload_n 1, 1) := by decide +kernel
theorem dX11_canTake_15 : decode cX11_canTake 15 = .ok (.iload_n 2, 1) := by decide +kernel
theorem dX11_canTake_16 : decode cX11_canTake 16 = .ok (.invokevirtual 253, 3) := by decide +kernel
theorem dX11_canTake_19 : decode cX11_canTake 19 = .ok (.iload_n 3, 1) := by decide +kernel
theorem dX11_canTake_20 : decode cX11_canTake 20 = .ok (.if_icmp .lt 7, 3) := by decide +kernel
theorem dX11_canTake_23 : decode cX11_canTake 23 = .ok (.iconst 1, 1) := by decide +kernel
theorem dX11_canTake_24 : decode cX11_canTake 24 = .ok (.goto 4, 3) := by decide +kernel
theorem dX11_canTake_27 : decode cX11_canTake 27 = .ok (.iconst 0, 1) := by decide +kernel
theorem dX11_canTake_28 : decode cX11_canTake 28 = .ok (.ireturn, 1) := by decide +kernel
set_option maxRecDepth 20000 in
theorem ggX11_unrealizedAfterSale_X11_isPlace : GoodIn wsX11_unrealizedAfterSale wsX11_isPlace := goodIn_r _ [8, 9, 10, 11, 7, 12, 13, 14, 15, 16, 17, 18, 19, 20, 45, 46, 47, 48, 49, 50, 51, 52, 53, 54, 55, 56, 57, 58, 59, 60, 61, 62, 63, 64, 65, 66, 67, 68] (by decide +kernel) (by decide +kernel)
set_option maxRecDepth 20000 in
theorem gX11_unrealizedAfterSale_X11_isPlace : GoodIn wsX11_unrealizedAfterSale (wsV RX11 250 RX11 yX11_isPlace wsX11_isPlace) := goodIn_app (goodIn_of _ (by decide +kernel)) ggX11_unrealizedAfterSale_X11_isPlace
set_option maxRecDepth 20000 in
theorem ggX11_unrealizedAfterSale_X11_within : GoodIn wsX11_unrealizedAfterSale wsX11_within := goodIn_r _ [16] (by decide +kernel) (by decide +kernel)
set_option maxRecDepth 20000 in
theorem gX11_unrealizedAfterSale_X11_within : GoodIn wsX11_unrealizedAfterSale (va_wsS RX11 89 yX11_within wsX11_within) := goodIn_app (goodIn_of _ (by decide +kernel)) ggX11_unrealizedAfterSale_X11_within
set_option maxRecDepth 20000 in
theorem ggX11_unrealizedAfterSale_X11_canTake : GoodIn wsX11_unrealizedAfterSale wsX11_canTake := goodIn_r _ [24, 13, 25, 26, 27, 7, 28, 3, 29, 30, 31, 32, 33, 34, 35, 36, 45, 46, 47, 48, 49, 50, 51, 52, 53, 54, 55, 56, 57, 58, 59, 60, 61, 62, 63, 64, 65, 66, 67, 68] (by decide +kernel) (by decide +kernel)
set_option maxRecDepth 20000 in
theorem gX11_unrealizedAfterSale_X11_canTake : GoodIn wsX11_unrealizedAfterSale (wsV RX11 261 RX11 yX11_canTake wsX11_canTake) := goodIn_app (goodIn_of _ (by decide +kernel)) ggX11_unrealizedAfterSale_X11_canTake
set_option maxRecDepth 20000 in
theorem ggX11_unrealizedAfterSale_X11_profitOf : GoodIn wsX11_unrealizedAfterSale wsX11_profitOf := goodIn_r _ [40, 3, 33, 34, 35, 7, 36, 41, 42, 43, 44, 13, 45, 46, 47, 48, 49, 50, 51, 52, 53, 54, 55, 56, 57, 58, 59, 60, 61, 62, 63, 64, 65, 66, 67, 68] (by decide +kernel) (by decide +kernel)
set_option maxRecDepth 20000 in
theorem gX11_unrealizedAfterSale_X11_profitOf : GoodIn wsX11_unrealizedAfterSale (wsV RX11 231 RX11 yX11_profitOf wsX11_profitOf) := goodIn_app (goodIn_of _ (by decide +kernel)) ggX11_unrealizedAfterSale_X11_profitOf
set_option maxRecDepth 20000 in
theorem ggX11_unrealizedAfterSale_X11_isLotOf : GoodIn wsX11_unrealizedAfterSale wsX11_isLotOf := goodIn_r _ [32, 33, 34, 35, 7, 36, 3, 45, 46, 47, 48, 49, 50, 51, 52, 53, 54, 55, 56, 57, 58, 59, 60, 61, 62, 63, 64, 65, 66, 67, 68] (by decide +kernel) (by decide +kernel)
set_option maxRecDepth 20000 in
theorem gX11_unrealizedAfterSale_X11_isLotOf : GoodIn wsX11_unrealizedAfterSale (wsV RX11 247 RX11 yX11_isLotOf wsX11_isLotOf) := goodIn_app (goodIn_of _ (by decide +kernel)) ggX11_unrealizedAfterSale_X11_isLotOf
set_option maxRecDepth 20000 in
theorem ggX11_unrealizedAfterSale_X11_lot : GoodIn wsX11_unrealizedAfterSale wsX11_lot := goodIn_r _ [36, 3, 45, 46, 47, 48, 49, 50, 51, 52, 53, 54, 55, 56, 57, 58, 59, 60, 61, 62, 63, 64, 65, 66, 67, 68] (by decide +kernel) (by decide +kernel)
set_option maxRecDepth 20000 in
theorem gX11_unrealizedAfterSale_X11_lot : GoodIn wsX11_unrealizedAfterSale (wsV RX11 244 RX11 yX11_lot wsX11_lot) := goodIn_app (goodIn_of _ (by decide +kernel)) ggX11_unrealizedAfterSale_X11_lot
set_option maxRecDepth 20000 in
theorem ggX11_unrealizedAfterSale_X11_profitPer : GoodIn wsX11_unrealizedAfterSale wsX11_profitPer := goodIn_r _ [44, 13, 33, 34, 35, 7, 36, 3, 45, 46, 47, 48, 49, 50, 51, 52, 53, 54, 55, 56, 57, 58, 59, 60, 61, 62, 63, 64, 65, 66, 67, 68] (by decide +kernel) (by decide +kernel)
set_option maxRecDepth 20000 in
theorem gX11_unrealizedAfterSale_X11_profitPer : GoodIn wsX11_unrealizedAfterSale (wsV RX11 256 RX11 yX11_profitPer wsX11_profitPer) := goodIn_app (goodIn_of _ (by decide +kernel)) ggX11_unrealizedAfterSale_X11_profitPer
theorem dX11_unrealizedAfterSale_0 : decode cX11_unrealizedAfterSale 0 = .ok (.aload_n 0, 1) := by decide +kernel
theorem dX11_unrealizedAfterSale_1 : decode cX11_unrealizedAfterSale 1 = .ok (.aload_n 0, 1) := by decide +kernel
theorem dX11_unrealizedAfterSale_2 : decode cX11_unrealizedAfterSale 2 = .ok (.iload_n 1, 1) := by decide +kernel
theorem dX11_unrealizedAfterSale_3 : decode cX11_unrealizedAfterSale 3 = .ok (.iload_n 2, 1) := by decide +kernel
theorem dX11_unrealizedAfterSale_4 : decode cX11_unrealizedAfterSale 4 = .ok (.invokevirtual 250, 3) := by decide +kernel
theorem dX11_unrealizedAfterSale_7 : decode cX11_unrealizedAfterSale 7 = .ok (.ifCond .ne 7, 3) := by decide +kernel
theorem dX11_unrealizedAfterSale_10 : decode cX11_unrealizedAfterSale 10 = .ok (.iconst 1, 1) := by decide +kernel
theorem dX11_unrealizedAfterSale_11 : decode cX11_unrealizedAfterSale 11 = .ok (.goto 34, 3) := by decide +kernel
theorem dX11_unrealizedAfterSale_14 : decode cX11_unrealizedAfterSale 14 = .ok (.iload_n 3, 1) := by decide +kernel
theorem dX11_unrealizedAfterSale_15 : decode cX11_unrealizedAfterSale 15 = .ok (.i2l, 1) := by decide +kernel
theorem dX11_unrealizedAfterSale_16 : decode cX11_unrealizedAfterSale 16 = .ok (.lconst 0, 1) := by decide +kernel
theorem dX11_unrealizedAfterSale_17 : decode cX11_unrealizedAfterSale 17 = .ok (.ldc2_w 259, 3) := by decide +kernel
theorem dX11_unrealizedAfterSale_20 : decode cX11_unrealizedAfterSale 20 = .ok (.invokestatic 89, 3) := by decide +kernel
theorem dX11_unrealizedAfterSale_23 : decode cX11_unrealizedAfterSale 23 = .ok (.ifCond .ne 7, 3) := by decide +kernel
theorem dX11_unrealizedAfterSale_26 : decode cX11_unrealizedAfterSale 26 = .ok (.iconst 2, 1) := by decide +kernel
theorem dX11_unrealizedAfterSale_27 : decode cX11_unrealizedAfterSale 27 = .ok (.goto 18, 3) := by decide +kernel
theorem dX11_unrealizedAfterSale_30 : decode cX11_unrealizedAfterSale 30 = .ok (.aload_n 0, 1) := by decide +kernel
theorem dX11_unrealizedAfterSale_31 : decode cX11_unrealizedAfterSale 31 = .ok (.iload_n 1, 1) := by decide +kernel
theorem dX11_unrealizedAfterSale_32 : decode cX11_unrealizedAfterSale 32 = .ok (.iload_n 2, 1) := by decide +kernel
theorem dX11_unrealizedAfterSale_33 : decode cX11_unrealizedAfterSale 33 = .ok (.iload_n 3, 1) := by decide +kernel
theorem dX11_unrealizedAfterSale_34 : decode cX11_unrealizedAfterSale 34 = .ok (.invokevirtual 261, 3) := by decide +kernel
theorem dX11_unrealizedAfterSale_37 : decode cX11_unrealizedAfterSale 37 = .ok (.ifCond .ne 7, 3) := by decide +kernel
theorem dX11_unrealizedAfterSale_40 : decode cX11_unrealizedAfterSale 40 = .ok (.iconst 3, 1) := by decide +kernel
theorem dX11_unrealizedAfterSale_41 : decode cX11_unrealizedAfterSale 41 = .ok (.goto 4, 3) := by decide +kernel
theorem dX11_unrealizedAfterSale_44 : decode cX11_unrealizedAfterSale 44 = .ok (.iconst 0, 1) := by decide +kernel
theorem dX11_unrealizedAfterSale_45 : decode cX11_unrealizedAfterSale 45 = .ok (.putfield 58, 3) := by decide +kernel
theorem dX11_unrealizedAfterSale_48 : decode cX11_unrealizedAfterSale 48 = .ok (.aload_n 0, 1) := by decide +kernel
theorem dX11_unrealizedAfterSale_49 : decode cX11_unrealizedAfterSale 49 = .ok (.getfield 58, 3) := by decide +kernel
theorem dX11_unrealizedAfterSale_52 : decode cX11_unrealizedAfterSale 52 = .ok (.ifCond .le 5, 3) := by decide +kernel
theorem dX11_unrealizedAfterSale_55 : decode cX11_unrealizedAfterSale 55 = .ok (.lconst 0, 1) := by decide +kernel
theorem dX11_unrealizedAfterSale_56 : decode cX11_unrealizedAfterSale 56 = .ok (.lreturn, 1) := by decide +kernel
theorem dX11_unrealizedAfterSale_57 : decode cX11_unrealizedAfterSale 57 = .ok (.aload_n 0, 1) := by decide +kernel
theorem dX11_unrealizedAfterSale_58 : decode cX11_unrealizedAfterSale 58 = .ok (.iload_n 1, 1) := by decide +kernel
theorem dX11_unrealizedAfterSale_59 : decode cX11_unrealizedAfterSale 59 = .ok (.invokevirtual 231, 3) := by decide +kernel
theorem dX11_unrealizedAfterSale_62 : decode cX11_unrealizedAfterSale 62 = .ok (.lstore 4, 2) := by decide +kernel
theorem dX11_unrealizedAfterSale_64 : decode cX11_unrealizedAfterSale 64 = .ok (.iload_n 3, 1) := by decide +kernel
theorem dX11_unrealizedAfterSale_65 : decode cX11_unrealizedAfterSale 65 = .ok (.istore 6, 2) := by decide +kernel
theorem dX11_unrealizedAfterSale_67 : decode cX11_unrealizedAfterSale 67 = .ok (.iconst 0, 1) := by decide +kernel
theorem dX11_unrealizedAfterSale_68 : decode cX11_unrealizedAfterSale 68 = .ok (.istore 7, 2) := by decide +kernel
theorem dX11_unrealizedAfterSale_70 : decode cX11_unrealizedAfterSale 70 = .ok (.iload 7, 2) := by decide +kernel
theorem dX11_unrealizedAfterSale_72 : decode cX11_unrealizedAfterSale 72 = .ok (.aload_n 0, 1) := by decide +kernel
theorem dX11_unrealizedAfterSale_73 : decode cX11_unrealizedAfterSale 73 = .ok (.getfield 20, 3) := by decide +kernel
theorem dX11_unrealizedAfterSale_76 : decode cX11_unrealizedAfterSale 76 = .ok (.iconst 1, 1) := by decide +kernel
theorem dX11_unrealizedAfterSale_77 : decode cX11_unrealizedAfterSale 77 = .ok (.iaload, 1) := by decide +kernel
theorem dX11_unrealizedAfterSale_78 : decode cX11_unrealizedAfterSale 78 = .ok (.if_icmp .ge 76, 3) := by decide +kernel
theorem dX11_unrealizedAfterSale_81 : decode cX11_unrealizedAfterSale 81 = .ok (.iload 6, 2) := by decide +kernel
theorem dX11_unrealizedAfterSale_83 : decode cX11_unrealizedAfterSale 83 = .ok (.ifCond .le 71, 3) := by decide +kernel
theorem dX11_unrealizedAfterSale_86 : decode cX11_unrealizedAfterSale 86 = .ok (.aload_n 0, 1) := by decide +kernel
theorem dX11_unrealizedAfterSale_87 : decode cX11_unrealizedAfterSale 87 = .ok (.iload 7, 2) := by decide +kernel
theorem dX11_unrealizedAfterSale_89 : decode cX11_unrealizedAfterSale 89 = .ok (.iload_n 1, 1) := by decide +kernel
theorem dX11_unrealizedAfterSale_90 : decode cX11_unrealizedAfterSale 90 = .ok (.iload_n 2, 1) := by decide +kernel
theorem dX11_unrealizedAfterSale_91 : decode cX11_unrealizedAfterSale 91 = .ok (.invokevirtual 247, 3) := by decide +kernel
theorem dX11_unrealizedAfterSale_94 : decode cX11_unrealizedAfterSale 94 = .ok (.ifCond .ne 6, 3) := by decide +kernel
theorem dX11_unrealizedAfterSale_97 : decode cX11_unrealizedAfterSale 97 = .ok (.goto 51, 3) := by decide +kernel
theorem dX11_unrealizedAfterSale_100 : decode cX11_unrealizedAfterSale 100 = .ok (.aload_n 0, 1) := by decide +kernel
theorem dX11_unrealizedAfterSale_101 : decode cX11_unrealizedAfterSale 101 = .ok (.iload 7, 2) := by decide +kernel
theorem dX11_unrealizedAfterSale_103 : decode cX11_unrealizedAfterSale 103 = .ok (.iconst 2, 1) := by decide +kernel
theorem dX11_unrealizedAfterSale_104 : decode cX11_unrealizedAfterSale 104 = .ok (.invokevirtual 244, 3) := by decide +kernel
theorem dX11_unrealizedAfterSale_107 : decode cX11_unrealizedAfterSale 107 = .ok (.iload 6, 2) := by decide +kernel
theorem dX11_unrealizedAfterSale_109 : decode cX11_unrealizedAfterSale 109 = .ok (.if_icmp .ge 13, 3) := by decide +kernel
theorem dX11_unrealizedAfterSale_112 : decode cX11_unrealizedAfterSale 112 = .ok (.aload_n 0, 1) := by decide +kernel
theorem dX11_unrealizedAfterSale_113 : decode cX11_unrealizedAfterSale 113 = .ok (.iload 7, 2) := by decide +kernel
theorem dX11_unrealizedAfterSale_115 : decode cX11_unrealizedAfterSale 115 = .ok (.iconst 2, 1) := by decide +kernel
theorem dX11_unrealizedAfterSale_116 : decode cX11_unrealizedAfterSale 116 = .ok (.invokevirtual 244, 3) := by decide +kernel
theorem dX11_unrealizedAfterSale_119 : decode cX11_unrealizedAfterSale 119 = .ok (.goto 5, 3) := by decide +kernel
theorem dX11_unrealizedAfterSale_122 : decode cX11_unrealizedAfterSale 122 = .ok (.iload 6, 2) := by decide +kernel
theorem dX11_unrealizedAfterSale_124 : decode cX11_unrealizedAfterSale 124 = .ok (.istore 8, 2) := by decide +kernel
theorem dX11_unrealizedAfterSale_126 : decode cX11_unrealizedAfterSale 126 = .ok (.lload 4, 2) := by decide +kernel
theorem dX11_unrealizedAfterSale_128 : decode cX11_unrealizedAfterSale 128 = .ok (.iload 8, 2) := by decide +kernel
theorem dX11_unrealizedAfterSale_130 : decode cX11_unrealizedAfterSale 130 = .ok (.i2l, 1) := by decide +kernel
theorem dX11_unrealizedAfterSale_131 : decode cX11_unrealizedAfterSale 131 = .ok (.aload_n 0, 1) := by decide +kernel
theorem dX11_unrealizedAfterSale_132 : decode cX11_unrealizedAfterSale 132 = .ok (.iload 7, 2) := by decide +kernel
theorem dX11_unrealizedAfterSale_134 : decode cX11_unrealizedAfterSale 134 = .ok (.invokevirtual 256, 3) := by decide +kernel
theorem dX11_unrealizedAfterSale_137 : decode cX11_unrealizedAfterSale 137 = .ok (.lmul, 1) := by decide +kernel
theorem dX11_unrealizedAfterSale_138 : decode cX11_unrealizedAfterSale 138 = .ok (.lsub, 1) := by decide +kernel
theorem dX11_unrealizedAfterSale_139 : decode cX11_unrealizedAfterSale 139 = .ok (.lstore 4, 2) := by decide +kernel
theorem dX11_unrealizedAfterSale_141 : decode cX11_unrealizedAfterSale 141 = .ok (.iload 6, 2) := by decide +kernel
theorem dX11_unrealizedAfterSale_143 : decode cX11_unrealizedAfterSale 143 = .ok (.iload 8, 2) := by decide +kernel
theorem dX11_unrealizedAfterSale_145 : decode cX11_unrealizedAfterSale 145 = .ok (.isub, 1) := by decide +kernel
theorem dX11_unrealizedAfterSale_146 : decode cX11_unrealizedAfterSale 146 = .ok (.istore 6, 2) := by decide +kernel
theorem dX11_unrealizedAfterSale_148 : decode cX11_unrealizedAfterSale 148 = .ok (.iinc 7 1, 3) := by decide +kernel
theorem dX11_unrealizedAfterSale_151 : decode cX11_unrealizedAfterSale 151 = .ok (.goto (-81), 3) := by decide +kernel
theorem dX11_unrealizedAfterSale_154 : decode cX11_unrealizedAfterSale 154 = .ok (.lload 4, 2) := by decide +kernel
theorem dX11_unrealizedAfterSale_156 : decode cX11_unrealizedAfterSale 156 = .ok (.lreturn, 1) := by decide +kernel
set_option maxRecDepth 20000 in
theorem ggX11_averageMargin_X11_isCompany : GoodIn wsX11_averageMargin wsX11_isCompany := goodIn_r _ [9, 3, 10, 11, 8, 12, 25, 26, 27, 28, 29, 30, 31, 32, 33, 34, 35, 36, 37, 38, 39, 40, 41, 42, 43, 44, 45, 46, 47, 48] (by decide +kernel) (by decide +kernel)
set_option maxRecDepth 20000 in
theorem gX11_averageMargin_X11_isCompany : GoodIn wsX11_averageMargin (wsV RX11 177 RX11 yX11_isCompany wsX11_isCompany) := goodIn_app (goodIn_of _ (by decide +kernel)) ggX11_averageMargin_X11_isCompany
set_option maxRecDepth 20000 in
theorem ggX11_averageMargin_X11_lot : GoodIn wsX11_averageMargin wsX11_lot := goodIn_r _ [16, 2, 25, 26, 27, 28, 29, 30, 31, 32, 33, 34, 35, 36, 37, 38, 39, 40, 41, 42, 43, 44, 45, 46, 47, 48] (by decide +kernel) (by decide +kernel)
set_option maxRecDepth 20000 in
theorem gX11_averageMargin_X11_lot : GoodIn wsX11_averageMargin (wsV RX11 244 RX11 yX11_lot wsX11_lot) := goodIn_app (goodIn_of _ (by decide +kernel)) ggX11_averageMargin_X11_lot
set_option maxRecDepth 20000 in
theorem ggX11_averageMargin_X11_profitOf : GoodIn wsX11_averageMargin wsX11_profitOf := goodIn_r _ [20, 2, 13, 14, 15, 8, 16, 21, 22, 23, 24, 3, 25, 26, 27, 28, 29, 30, 31, 32, 33, 34, 35, 36, 37, 38, 39, 40, 41, 42, 43, 44, 45, 46, 47, 48] (by decide +kernel) (by decide +kernel)
set_option maxRecDepth 20000 in
theorem gX11_averageMargin_X11_profitOf : GoodIn wsX11_averageMargin (wsV RX11 231 RX11 yX11_profitOf wsX11_profitOf) := goodIn_app (goodIn_of _ (by decide +kernel)) ggX11_averageMargin_X11_profitOf
theorem dX11_averageMargin_0 : decode cX11_averageMargin 0 = .ok (.aload_n 0, 1) := by decide +kernel
theorem dX11_averageMargin_1 : decode cX11_averageMargin 1 = .ok (.aload_n 0, 1) := by decide +kernel
theorem dX11_averageMargin_2 : decode cX11_averageMargin 2 = .ok (.iload_n 1, 1) := by decide +kernel
theorem dX11_averageMargin_3 : decode cX11_averageMargin 3 = .ok (.invokevirtual 177, 3) := by decide +kernel
theorem dX11_averageMargin_6 : decode cX11_averageMargin 6 = .ok (.ifCond .eq 7, 3) := by decide +kernel
theorem dX11_averageMargin_9 : decode cX11_averageMargin 9 = .ok (.iconst 0, 1) := by decide +kernel
theorem dX11_averageMargin_10 : decode cX11_averageMargin 10 = .ok (.goto 4, 3) := by decide +kernel
theorem dX11_averageMargin_13 : decode cX11_averageMargin 13 = .ok (.iconst 1, 1) := by decide +kernel
theorem dX11_averageMargin_14 : decode cX11_averageMargin 14 = .ok (.putfield 58, 3) := by decide +kernel
theorem dX11_averageMargin_17 : decode cX11_averageMargin 17 = .ok (.aload_n 0, 1) := by decide +kernel
theorem dX11_averageMargin_18 : decode cX11_averageMargin 18 = .ok (.getfield 58, 3) := by decide +kernel
theorem dX11_averageMargin_21 : decode cX11_averageMargin 21 = .ok (.iconst 1, 1) := by decide +kernel
theorem dX11_averageMargin_22 : decode cX11_averageMargin 22 = .ok (.if_icmp .ne 5, 3) := by decide +kernel
theorem dX11_averageMargin_25 : decode cX11_averageMargin 25 = .ok (.fconst 0, 1) := by decide +kernel
theorem dX11_averageMargin_26 : decode cX11_averageMargin 26 = .ok (.freturn, 1) := by decide +kernel
theorem dX11_averageMargin_27 : decode cX11_averageMargin 27 = .ok (.lconst 0, 1) := by decide +kernel
theorem dX11_averageMargin_28 : decode cX11_averageMargin 28 = .ok (.lstore_n 2, 1) := by decide +kernel
theorem dX11_averageMargin_29 : decode cX11_averageMargin 29 = .ok (.iconst 0, 1) := by decide +kernel
theorem dX11_averageMargin_30 : decode cX11_averageMargin 30 = .ok (.istore 4, 2) := by decide +kernel
theorem dX11_averageMargin_32 : decode cX11_averageMargin 32 = .ok (.iload 4, 2) := by decide +kernel
theorem dX11_averageMargin_34 : decode cX11_averageMargin 34 = .ok (.aload_n 0, 1) := by decide +kernel
theorem dX11_averageMargin_35 : decode cX11_averageMargin 35 = .ok (.getfield 20, 3) := by decide +kernel
theorem dX11_averageMargin_38 : decode cX11_averageMargin 38 = .ok (.iconst 1, 1) := by decide +kernel
theorem dX11_averageMargin_39 : decode cX11_averageMargin 39 = .ok (.iaload, 1) := by decide +kernel
theorem dX11_averageMargin_40 : decode cX11_averageMargin 40 = .ok (.if_icmp .ge 48, 3) := by decide +kernel
theorem dX11_averageMargin_43 : decode cX11_averageMargin 43 = .ok (.aload_n 0, 1) := by decide +kernel
theorem dX11_averageMargin_44 : decode cX11_averageMargin 44 = .ok (.iload 4, 2) := by decide +kernel
theorem dX11_averageMargin_46 : decode cX11_averageMargin 46 = .ok (.iconst 0, 1) := by decide +kernel
theorem dX11_averageMargin_47 : decode cX11_averageMargin 47 = .ok (.invokevirtual 244, 3) := by decide +kernel
theorem dX11_averageMargin_50 : decode cX11_averageMargin 50 = .ok (.iload_n 1, 1) := by decide +kernel
theorem dX11_averageMargin_51 : decode cX11_averageMargin 51 = .ok (.if_icmp .ne 31, 3) := by decide +kernel
theorem dX11_averageMargin_54 : decode cX11_averageMargin 54 = .ok (.lload_n 2, 1) := by decide +kernel
theorem dX11_averageMargin_55 : decode cX11_averageMargin 55 = .ok (.aload_n 0, 1) := by decide +kernel
theorem dX11_averageMargin_56 : decode cX11_averageMargin 56 = .ok (.iload 4, 2) := by decide +kernel
theorem dX11_averageMargin_58 : decode cX11_averageMargin 58 = .ok (.iconst 2, 1) := by decide +kernel
theorem dX11_averageMargin_59 : decode cX11_averageMargin 59 = .ok (.invokevirtual 244, 3) := by decide +kernel
theorem dX11_averageMargin_62 : decode cX11_averageMargin 62 = .ok (.i2l, 1) := by decide +kernel
theorem dX11_averageMargin_63 : decode cX11_averageMargin 63 = .ok (.aload_n 0, 1) := by decide +kernel
theorem dX11_averageMargin_64 : decode cX11_averageMargin 64 = .ok (.getfield 17, 3) := by decide +kernel
theorem dX11_averageMargin_67 : decode cX11_averageMargin 67 = .ok (.bipush 22, 2) := by decide +kernel
theorem dX11_averageMargin_69 : decode cX11_averageMargin 69 = .ok (.aload_n 0, 1) := by decide +kernel
theorem dX11_averageMargin_70 : decode cX11_averageMargin 70 = .ok (.iload 4, 2) := by decide +kernel
theorem dX11_averageMargin_72 : decode cX11_averageMargin 72 = .ok (.iconst 1, 1) := by decide +kernel
theorem dX11_averageMargin_73 : decode cX11_averageMargin 73 = .ok (.invokevirtual 244, 3) := by decide +kernel
theorem dX11_averageMargin_76 : decode cX11_averageMargin 76 = .ok (.iadd, 1) := by decide +kernel
theorem dX11_averageMargin_77 : decode cX11_averageMargin 77 = .ok (.iaload, 1) := by decide +kernel
theorem dX11_averageMargin_78 : decode cX11_averageMargin 78 = .ok (.i2l, 1) := by decide +kernel
theorem dX11_averageMargin_79 : decode cX11_averageMargin 79 = .ok (.lmul, 1) := by decide +kernel
theorem dX11_averageMargin_80 : decode cX11_averageMargin 80 = .ok (.ladd, 1) := by decide +kernel
theorem dX11_averageMargin_81 : decode cX11_averageMargin 81 = .ok (.lstore_n 2, 1) := by decide +kernel
theorem dX11_averageMargin_82 : decode cX11_averageMargin 82 = .ok (.iinc 4 1, 3) := by decide +kernel
theorem dX11_averageMargin_85 : decode cX11_averageMargin 85 = .ok (.goto (-53), 3) := by decide +kernel
theorem dX11_averageMargin_88 : decode cX11_averageMargin 88 = .ok (.lload_n 2, 1) := by decide +kernel
theorem dX11_averageMargin_89 : decode cX11_averageMargin 89 = .ok (.lconst 0, 1) := by decide +kernel
theorem dX11_averageMargin_90 : decode cX11_averageMargin 90 = .ok (.lcmp, 1) := by decide +kernel
theorem dX11_averageMargin_91 : decode cX11_averageMargin 91 = .ok (.ifCond .ne 7, 3) := by decide +kernel
theorem dX11_averageMargin_94 : decode cX11_averageMargin 94 = .ok (.fconst 0, 1) := by decide +kernel
theorem dX11_averageMargin_95 : decode cX11_averageMargin 95 = .ok (.goto 16, 3) := by decide +kernel
theorem dX11_averageMargin_98 : decode cX11_averageMargin 98 = .ok (.aload_n 0, 1) := by decide +kernel
theorem dX11_averageMargin_99 : decode cX11_averageMargin 99 = .ok (.iload_n 1, 1) := by decide +kernel
theorem dX11_averageMargin_100 : decode cX11_averageMargin 100 = .ok (.invokevirtual 231, 3) := by decide +kernel
theorem dX11_averageMargin_103 : decode cX11_averageMargin 103 = .ok (.l2f, 1) := by decide +kernel
theorem dX11_averageMargin_104 : decode cX11_averageMargin 104 = .ok (.ldc_w 264, 3) := by decide +kernel
theorem dX11_averageMargin_107 : decode cX11_averageMargin 107 = .ok (.fmul, 1) := by decide +kernel
theorem dX11_averageMargin_108 : decode cX11_averageMargin 108 = .ok (.lload_n 2, 1) := by decide +kernel
theorem dX11_averageMargin_109 : decode cX11_averageMargin 109 = .ok (.l2f, 1) := by decide +kernel
theorem dX11_averageMargin_110 : decode cX11_averageMargin 110 = .ok (.fdiv, 1) := by decide +kernel
theorem dX11_averageMargin_111 : decode cX11_averageMargin 111 = .ok (.freturn, 1) := by decide +kernel
theorem dX11_delivery_0 : decode cX11_delivery 0 = .ok (.aload_n 0, 1) := by decide +kernel
theorem dX11_delivery_1 : decode cX11_delivery 1 = .ok (.getfield 20, 3) := by decide +kernel
theorem dX11_delivery_4 : decode cX11_delivery 4 = .ok (.sipush 1008, 3) := by decide +kernel
theorem dX11_delivery_7 : decode cX11_delivery 7 = .ok (.iconst 5, 1) := by decide +kernel
theorem dX11_delivery_8 : decode cX11_delivery 8 = .ok (.iload_n 1, 1) := by decide +kernel
theorem dX11_delivery_9 : decode cX11_delivery 9 = .ok (.imul, 1) := by decide +kernel
theorem dX11_delivery_10 : decode cX11_delivery 10 = .ok (.iadd, 1) := by decide +kernel
theorem dX11_delivery_11 : decode cX11_delivery 11 = .ok (.iload_n 2, 1) := by decide +kernel
theorem dX11_delivery_12 : decode cX11_delivery 12 = .ok (.iadd, 1) := by decide +kernel
theorem dX11_delivery_13 : decode cX11_delivery 13 = .ok (.iaload, 1) := by decide +kernel
theorem dX11_delivery_14 : decode cX11_delivery 14 = .ok (.ireturn, 1) := by decide +kernel
set_option maxRecDepth 20000 in
theorem ggX11_gapBy_X11_delivery : GoodIn wsX11_gapBy wsX11_delivery := goodIn_r _ [5, 6, 12, 13, 14, 15, 16, 17, 18, 19, 20, 21, 22, 23, 24, 25, 26, 27, 28, 29, 30, 31, 32, 33, 34, 35] (by decide +kernel) (by decide +kernel)
set_option maxRecDepth 20000 in
theorem gX11_gapBy_X11_delivery : GoodIn wsX11_gapBy (wsV RX11 265 RX11 yX11_delivery wsX11_delivery) := goodIn_app (goodIn_of _ (by decide +kernel)) ggX11_gapBy_X11_delivery
set_option maxRecDepth 20000 in
theorem ggX11_gapBy_X11_bound : GoodIn wsX11_gapBy wsX11_bound := goodIn_r _ [10, 11, 12, 13, 14, 15, 16, 17, 18, 19, 20, 21, 22, 23, 24, 25, 26, 27, 28, 29, 30, 31, 32, 33, 34, 35] (by decide +kernel) (by decide +kernel)
set_option maxRecDepth 20000 in
theorem gX11_gapBy_X11_bound : GoodIn wsX11_gapBy (wsV RX11 183 RX11 yX11_bound wsX11_bound) := goodIn_app (goodIn_of _ (by decide +kernel)) ggX11_gapBy_X11_bound
theorem dX11_gapBy_0 : decode cX11_gapBy 0 = .ok (.aload_n 0, 1) := by decide +kernel
theorem dX11_gapBy_1 : decode cX11_gapBy 1 = .ok (.iload_n 1, 1) := by decide +kernel
theorem dX11_gapBy_2 : decode cX11_gapBy 2 = .ok (.iconst 4, 1) := by decide +kernel
theorem dX11_gapBy_3 : decode cX11_gapBy 3 = .ok (.invokevirtual 265, 3) := by decide +kernel
theorem dX11_gapBy_6 : decode cX11_gapBy 6 = .ok (.istore_n 2, 1) := by decide +kernel
theorem dX11_gapBy_7 : decode cX11_gapBy 7 = .ok (.aload_n 0, 1) := by decide +kernel
theorem dX11_gapBy_8 : decode cX11_gapBy 8 = .ok (.aload_n 0, 1) := by decide +kernel
theorem dX11_gapBy_9 : decode cX11_gapBy 9 = .ok (.iload_n 1, 1) := by decide +kernel
theorem dX11_gapBy_10 : decode cX11_gapBy 10 = .ok (.iconst 0, 1) := by decide +kernel
theorem dX11_gapBy_11 : decode cX11_gapBy 11 = .ok (.invokevirtual 265, 3) := by decide +kernel
theorem dX11_gapBy_14 : decode cX11_gapBy 14 = .ok (.bipush 28, 2) := by decide +kernel
theorem dX11_gapBy_16 : decode cX11_gapBy 16 = .ok (.invokevirtual 183, 3) := by decide +kernel
theorem dX11_gapBy_19 : decode cX11_gapBy 19 = .ok (.istore_n 3, 1) := by decide +kernel
theorem dX11_gapBy_20 : decode cX11_gapBy 20 = .ok (.aload_n 0, 1) := by decide +kernel
theorem dX11_gapBy_21 : decode cX11_gapBy 21 = .ok (.aload_n 0, 1) := by decide +kernel
theorem dX11_gapBy_22 : decode cX11_gapBy 22 = .ok (.iload_n 1, 1) := by decide +kernel
theorem dX11_gapBy_23 : decode cX11_gapBy 23 = .ok (.iconst 0, 1) := by decide +kernel
theorem dX11_gapBy_24 : decode cX11_gapBy 24 = .ok (.invokevirtual 265, 3) := by decide +kernel
theorem dX11_gapBy_27 : decode cX11_gapBy 27 = .ok (.bipush 34, 2) := by decide +kernel
theorem dX11_gapBy_29 : decode cX11_gapBy 29 = .ok (.invokevirtual 183, 3) := by decide +kernel
theorem dX11_gapBy_32 : decode cX11_gapBy 32 = .ok (.istore 4, 2) := by decide +kernel
theorem dX11_gapBy_34 : decode cX11_gapBy 34 = .ok (.iload_n 2, 1) := by decide +kernel
theorem dX11_gapBy_35 : decode cX11_gapBy 35 = .ok (.iload_n 3, 1) := by decide +kernel
theorem dX11_gapBy_36 : decode cX11_gapBy 36 = .ok (.if_icmp .ge 10, 3) := by decide +kernel
theorem dX11_gapBy_39 : decode cX11_gapBy 39 = .ok (.iload_n 2, 1) := by decide +kernel
theorem dX11_gapBy_40 : decode cX11_gapBy 40 = .ok (.iload_n 3, 1) := by decide +kernel
theorem dX11_gapBy_41 : decode cX11_gapBy 41 = .ok (.isub, 1) := by decide +kernel
theorem dX11_gapBy_42 : decode cX11_gapBy 42 = .ok (.i2l, 1) := by decide +kernel
theorem dX11_gapBy_43 : decode cX11_gapBy 43 = .ok (.goto 18, 3) := by decide +kernel
theorem dX11_gapBy_46 : decode cX11_gapBy 46 = .ok (.iload_n 2, 1) := by decide +kernel
theorem dX11_gapBy_47 : decode cX11_gapBy 47 = .ok (.iload 4, 2) := by decide +kernel
theorem dX11_gapBy_49 : decode cX11_gapBy 49 = .ok (.if_icmp .le 11, 3) := by decide +kernel
theorem dX11_gapBy_52 : decode cX11_gapBy 52 = .ok (.iload_n 2, 1) := by decide +kernel
theorem dX11_gapBy_53 : decode cX11_gapBy 53 = .ok (.iload 4, 2) := by decide +kernel
theorem dX11_gapBy_55 : decode cX11_gapBy 55 = .ok (.isub, 1) := by decide +kernel
theorem dX11_gapBy_56 : decode cX11_gapBy 56 = .ok (.i2l, 1) := by decide +kernel
theorem dX11_gapBy_57 : decode cX11_gapBy 57 = .ok (.goto 4, 3) := by decide +kernel
theorem dX11_gapBy_60 : decode cX11_gapBy 60 = .ok (.lconst 0, 1) := by decide +kernel
theorem dX11_gapBy_61 : decode cX11_gapBy 61 = .ok (.lstore 5, 2) := by decide +kernel
theorem dX11_gapBy_63 : decode cX11_gapBy 63 = .ok (.lload 5, 2) := by decide +kernel
theorem dX11_gapBy_65 : decode cX11_gapBy 65 = .ok (.aload_n 0, 1) := by decide +kernel
theorem dX11_gapBy_66 : decode cX11_gapBy 66 = .ok (.iload_n 1, 1) := by decide +kernel
theorem dX11_gapBy_67 : decode cX11_gapBy 67 = .ok (.iconst 3, 1) := by decide +kernel
theorem dX11_gapBy_68 : decode cX11_gapBy 68 = .ok (.invokevirtual 265, 3) := by decide +kernel
theorem dX11_gapBy_71 : decode cX11_gapBy 71 = .ok (.i2l, 1) := by decide +kernel
theorem dX11_gapBy_72 : decode cX11_gapBy 72 = .ok (.lmul, 1) := by decide +kernel
theorem dX11_gapBy_73 : decode cX11_gapBy 73 = .ok (.lreturn, 1) := by decide +kernel
set_option maxRecDepth 20000 in
theorem ggX11_gap_X11_within : GoodIn wsX11_gap wsX11_within := goodIn_r _ [6] (by decide +kernel) (by decide +kernel)
set_option maxRecDepth 20000 in
theorem gX11_gap_X11_within : GoodIn wsX11_gap (va_wsS RX11 89 yX11_within wsX11_within) := goodIn_app (goodIn_of _ (by decide +kernel)) ggX11_gap_X11_within
set_option maxRecDepth 20000 in
theorem ggX11_gap_X11_gapBy : GoodIn wsX11_gap wsX11_gapBy := goodIn_r _ [10, 11, 12, 13, 5, 14, 1, 15, 16, 17, 18, 19, 20, 21, 22, 23, 24, 25, 26, 27, 28, 29, 30, 31, 32, 33, 34, 35, 36, 37, 38, 39, 40, 41, 42, 43] (by decide +kernel) (by decide +kernel)
set_option maxRecDepth 20000 in
theorem gX11_gap_X11_gapBy : GoodIn wsX11_gap (wsV RX11 268 RX11 yX11_gapBy wsX11_gapBy) := goodIn_app (goodIn_of _ (by decide +kernel)) ggX11_gap_X11_gapBy
theorem dX11_gap_0 : decode cX11_gap 0 = .ok (.aload_n 0, 1) := by decide +kernel
theorem dX11_gap_1 : decode cX11_gap 1 = .ok (.iload_n 1, 1) := by decide +kernel
theorem dX11_gap_2 : decode cX11_gap 2 = .ok (.i2l, 1) := by decide +kernel
theorem dX11_gap_3 : decode cX11_gap 3 = .ok (.lconst 0, 1) := by decide +kernel
theorem dX11_gap_4 : decode cX11_gap 4 = .ok (.aload_n 0, 1) := by decide +kernel
theorem dX11_gap_5 : decode cX11_gap 5 = .ok (.getfield 20, 3) := by decide +kernel
theorem dX11_gap_8 : decode cX11_gap 8 = .ok (.iconst 2, 1) := by decide +kernel
theorem dX11_gap_9 : decode cX11_gap 9 = .ok (.iaload, 1) := by decide +kernel
theorem dX11_gap_10 : decode cX11_gap 10 = .ok (.iconst 1, 1) := by decide +kernel
theorem dX11_gap_11 : decode cX11_gap 11 = .ok (.isub, 1) := by decide +kernel
theorem dX11_gap_12 : decode cX11_gap 12 = .ok (.i2l, 1) := by decide +kernel
theorem dX11_gap_13 : decode cX11_gap 13 = .ok (.invokestatic 89, 3) := by decide +kernel
theorem dX11_gap_16 : decode cX11_gap 16 = .ok (.ifCond .eq 7, 3) := by decide +kernel
theorem dX11_gap_19 : decode cX11_gap 19 = .ok (.iconst 0, 1) := by decide +kernel
theorem dX11_gap_20 : decode cX11_gap 20 = .ok (.goto 4, 3) := by decide +kernel
theorem dX11_gap_23 : decode cX11_gap 23 = .ok (.iconst 1, 1) := by decide +kernel
theorem dX11_gap_24 : decode cX11_gap 24 = .ok (.putfield 58, 3) := by decide +kernel
theorem dX11_gap_27 : decode cX11_gap 27 = .ok (.aload_n 0, 1) := by decide +kernel
theorem dX11_gap_28 : decode cX11_gap 28 = .ok (.getfield 58, 3) := by decide +kernel
theorem dX11_gap_31 : decode cX11_gap 31 = .ok (.ifCond .ne 11, 3) := by decide +kernel
theorem dX11_gap_34 : decode cX11_gap 34 = .ok (.aload_n 0, 1) := by decide +kernel
theorem dX11_gap_35 : decode cX11_gap 35 = .ok (.iload_n 1, 1) := by decide +kernel
theorem dX11_gap_36 : decode cX11_gap 36 = .ok (.invokevirtual 268, 3) := by decide +kernel
theorem dX11_gap_39 : decode cX11_gap 39 = .ok (.goto 4, 3) := by decide +kernel
theorem dX11_gap_42 : decode cX11_gap 42 = .ok (.lconst 0, 1) := by decide +kernel
theorem dX11_gap_43 : decode cX11_gap 43 = .ok (.lreturn, 1) := by decide +kernel
set_option maxRecDepth 20000 in
theorem ggX11_gapsOf_X11_isCompany : GoodIn wsX11_gapsOf wsX11_isCompany := goodIn_r _ [7, 8, 9, 10, 6, 11, 24, 25, 26, 27, 28, 29, 30, 31, 32, 33, 34, 35, 36, 37, 38, 39, 40, 41, 42, 43, 44, 45, 46, 47] (by decide +kernel) (by decide +kernel)
set_option maxRecDepth 20000 in
theorem gX11_gapsOf_X11_isCompany : GoodIn wsX11_gapsOf (wsV RX11 177 RX11 yX11_isCompany wsX11_isCompany) := goodIn_app (goodIn_of _ (by decide +kernel)) ggX11_gapsOf_X11_isCompany
set_option maxRecDepth 20000 in
theorem ggX11_gapsOf_X11_delivery : GoodIn wsX11_gapsOf wsX11_delivery := goodIn_r _ [15, 2, 24, 25, 26, 27, 28, 29, 30, 31, 32, 33, 34, 35, 36, 37, 38, 39, 40, 41, 42, 43, 44, 45, 46, 47] (by decide +kernel) (by decide +kernel)
set_option maxRecDepth 20000 in
theorem gX11_gapsOf_X11_delivery : GoodIn wsX11_gapsOf (wsV RX11 265 RX11 yX11_delivery wsX11_delivery) := goodIn_app (goodIn_of _ (by decide +kernel)) ggX11_gapsOf_X11_delivery
set_option maxRecDepth 20000 in
theorem ggX11_gapsOf_X11_gapBy : GoodIn wsX11_gapsOf wsX11_gapBy := goodIn_r _ [19, 12, 13, 14, 6, 15, 2, 20, 21, 22, 23, 8, 24, 25, 26, 27, 28, 29, 30, 31, 32, 33, 34, 35, 36, 37, 38, 39, 40, 41, 42, 43, 44, 45, 46, 47] (by decide +kernel) (by decide +kernel)
set_option maxRecDepth 20000 in
theorem gX11_gapsOf_X11_gapBy : GoodIn wsX11_gapsOf (wsV RX11 268 RX11 yX11_gapBy wsX11_gapBy) := goodIn_app (goodIn_of _ (by decide +kernel)) ggX11_gapsOf_X11_gapBy
theorem dX11_gapsOf_0 : decode cX11_gapsOf 0 = .ok (.aload_n 0, 1) := by decide +kernel
theorem dX11_gapsOf_1 : decode cX11_gapsOf 1 = .ok (.aload_n 0, 1) := by decide +kernel
theorem dX11_gapsOf_2 : decode cX11_gapsOf 2 = .ok (.iload_n 1, 1) := by decide +kernel
theorem dX11_gapsOf_3 : decode cX11_gapsOf 3 = .ok (.invokevirtual 177, 3) := by decide +kernel
theorem dX11_gapsOf_6 : decode cX11_gapsOf 6 = .ok (.ifCond .eq 7, 3) := by decide +kernel
theorem dX11_gapsOf_9 : decode cX11_gapsOf 9 = .ok (.iconst 0, 1) := by decide +kernel
theorem dX11_gapsOf_10 : decode cX11_gapsOf 10 = .ok (.goto 4, 3) := by decide +kernel
theorem dX11_gapsOf_13 : decode cX11_gapsOf 13 = .ok (.iconst 1, 1) := by decide +kernel
theorem dX11_gapsOf_14 : decode cX11_gapsOf 14 = .ok (.putfield 58, 3) := by decide +kernel
theorem dX11_gapsOf_17 : decode cX11_gapsOf 17 = .ok (.lconst 0, 1) := by decide +kernel
theorem dX11_gapsOf_18 : decode cX11_gapsOf 18 = .ok (.lstore_n 2, 1) := by decide +kernel
theorem dX11_gapsOf_19 : decode cX11_gapsOf 19 = .ok (.iconst 0, 1) := by decide +kernel
theorem dX11_gapsOf_20 : decode cX11_gapsOf 20 = .ok (.istore 4, 2) := by decide +kernel
theorem dX11_gapsOf_22 : decode cX11_gapsOf 22 = .ok (.iload 4, 2) := by decide +kernel
theorem dX11_gapsOf_24 : decode cX11_gapsOf 24 = .ok (.aload_n 0, 1) := by decide +kernel
theorem dX11_gapsOf_25 : decode cX11_gapsOf 25 = .ok (.getfield 20, 3) := by decide +kernel
theorem dX11_gapsOf_28 : decode cX11_gapsOf 28 = .ok (.iconst 2, 1) := by decide +kernel
theorem dX11_gapsOf_29 : decode cX11_gapsOf 29 = .ok (.iaload, 1) := by decide +kernel
theorem dX11_gapsOf_30 : decode cX11_gapsOf 30 = .ok (.if_icmp .ge 56, 3) := by decide +kernel
theorem dX11_gapsOf_33 : decode cX11_gapsOf 33 = .ok (.aload_n 0, 1) := by decide +kernel
theorem dX11_gapsOf_34 : decode cX11_gapsOf 34 = .ok (.getfield 58, 3) := by decide +kernel
theorem dX11_gapsOf_37 : decode cX11_gapsOf 37 = .ok (.ifCond .ne 49, 3) := by decide +kernel
theorem dX11_gapsOf_40 : decode cX11_gapsOf 40 = .ok (.aload_n 0, 1) := by decide +kernel
theorem dX11_gapsOf_41 : decode cX11_gapsOf 41 = .ok (.iload 4, 2) := by decide +kernel
theorem dX11_gapsOf_43 : decode cX11_gapsOf 43 = .ok (.iconst 1, 1) := by decide +kernel
theorem dX11_gapsOf_44 : decode cX11_gapsOf 44 = .ok (.invokevirtual 265, 3) := by decide +kernel
theorem dX11_gapsOf_47 : decode cX11_gapsOf 47 = .ok (.iload_n 1, 1) := by decide +kernel
theorem dX11_gapsOf_48 : decode cX11_gapsOf 48 = .ok (.if_icmp .ne 12, 3) := by decide +kernel
theorem dX11_gapsOf_51 : decode cX11_gapsOf 51 = .ok (.lload_n 2, 1) := by decide +kernel
theorem dX11_gapsOf_52 : decode cX11_gapsOf 52 = .ok (.aload_n 0, 1) := by decide +kernel
theorem dX11_gapsOf_53 : decode cX11_gapsOf 53 = .ok (.iload 4, 2) := by decide +kernel
theorem dX11_gapsOf_55 : decode cX11_gapsOf 55 = .ok (.invokevirtual 268, 3) := by decide +kernel
theorem dX11_gapsOf_58 : decode cX11_gapsOf 58 = .ok (.ladd, 1) := by decide +kernel
theorem dX11_gapsOf_59 : decode cX11_gapsOf 59 = .ok (.lstore_n 2, 1) := by decide +kernel
theorem dX11_gapsOf_60 : decode cX11_gapsOf 60 = .ok (.aload_n 0, 1) := by decide +kernel
theorem dX11_gapsOf_61 : decode cX11_gapsOf 61 = .ok (.iload 4, 2) := by decide +kernel
theorem dX11_gapsOf_63 : decode cX11_gapsOf 63 = .ok (.iconst 2, 1) := by decide +kernel
theorem dX11_gapsOf_64 : decode cX11_gapsOf 64 = .ok (.invokevirtual 265, 3) := by decide +kernel
theorem dX11_gapsOf_67 : decode cX11_gapsOf 67 = .ok (.iload_n 1, 1) := by decide +kernel
theorem dX11_gapsOf_68 : decode cX11_gapsOf 68 = .ok (.if_icmp .ne 12, 3) := by decide +kernel
theorem dX11_gapsOf_71 : decode cX11_gapsOf 71 = .ok (.lload_n 2, 1) := by decide +kernel
theorem dX11_gapsOf_72 : decode cX11_gapsOf 72 = .ok (.aload_n 0, 1) := by decide +kernel
theorem dX11_gapsOf_73 : decode cX11_gapsOf 73 = .ok (.iload 4, 2) := by decide +kernel
theorem dX11_gapsOf_75 : decode cX11_gapsOf 75 = .ok (.invokevirtual 268, 3) := by decide +kernel
theorem dX11_gapsOf_78 : decode cX11_gapsOf 78 = .ok (.lsub, 1) := by decide +kernel
theorem dX11_gapsOf_79 : decode cX11_gapsOf 79 = .ok (.lstore_n 2, 1) := by decide +kernel
theorem dX11_gapsOf_80 : decode cX11_gapsOf 80 = .ok (.iinc 4 1, 3) := by decide +kernel
theorem dX11_gapsOf_83 : decode cX11_gapsOf 83 = .ok (.goto (-61), 3) := by decide +kernel
theorem dX11_gapsOf_86 : decode cX11_gapsOf 86 = .ok (.lload_n 2, 1) := by decide +kernel
theorem dX11_gapsOf_87 : decode cX11_gapsOf 87 = .ok (.lreturn, 1) := by decide +kernel
set_option maxRecDepth 20000 in
theorem ggX11_book_X11_isCompany : GoodIn wsX11_book wsX11_isCompany := goodIn_r _ [10, 11, 12, 13, 9, 14, 46, 47, 48, 49, 50, 51, 52, 53, 54, 55, 56, 57, 58, 59, 60, 61, 62, 63, 64, 65, 66, 67, 68, 69] (by decide +kernel) (by decide +kernel)
set_option maxRecDepth 20000 in
theorem gX11_book_X11_isCompany : GoodIn wsX11_book (wsV RX11 177 RX11 yX11_isCompany wsX11_isCompany) := goodIn_app (goodIn_of _ (by decide +kernel)) ggX11_book_X11_isCompany
set_option maxRecDepth 20000 in
theorem ggX11_book_X11_fail : GoodIn wsX11_book wsX11_fail := goodIn_r _ [18, 1, 46, 47, 48, 49, 50, 51, 52, 53, 54, 55, 56, 57, 58, 59, 60, 61, 62, 63, 64, 65, 66, 67, 68, 69] (by decide +kernel) (by decide +kernel)
set_option maxRecDepth 20000 in
theorem gX11_book_X11_fail : GoodIn wsX11_book (wsV RX11 159 RX11 yX11_fail wsX11_fail) := goodIn_app (goodIn_of _ (by decide +kernel)) ggX11_book_X11_fail
set_option maxRecDepth 20000 in
theorem ggX11_book_X11_within : GoodIn wsX11_book wsX11_within := goodIn_r _ [14] (by decide +kernel) (by decide +kernel)
set_option maxRecDepth 20000 in
theorem gX11_book_X11_within : GoodIn wsX11_book (va_wsS RX11 89 yX11_within wsX11_within) := goodIn_app (goodIn_of _ (by decide +kernel)) ggX11_book_X11_within
set_option maxRecDepth 20000 in
theorem ggX11_book_X11_keep : GoodIn wsX11_book wsX11_keep := goodIn_r _ [22, 23, 24, 25, 4, 5, 26, 27, 9, 28, 46, 47, 48, 49, 50, 51, 52, 53, 54, 55, 56, 57, 58, 59, 60, 61, 62, 63, 64, 65, 66, 67, 68, 69] (by decide +kernel) (by decide +kernel)
set_option maxRecDepth 20000 in
theorem gX11_book_X11_keep : GoodIn wsX11_book (wsV RX11 275 RX11 yX11_keep wsX11_keep) := goodIn_app (goodIn_of _ (by decide +kernel)) ggX11_book_X11_keep
set_option maxRecDepth 20000 in
theorem ggX11_book_X11_put : GoodIn wsX11_book wsX11_put := goodIn_r _ [32, 4, 46, 47, 48, 49, 50, 51, 52, 53, 54, 55, 56, 57, 58, 59, 60, 61, 62, 63, 64, 65, 66, 67, 68, 69] (by decide +kernel) (by decide +kernel)
set_option maxRecDepth 20000 in
theorem gX11_book_X11_put : GoodIn wsX11_book (wsV RX11 278 RX11 yX11_put wsX11_put) := goodIn_app (goodIn_of _ (by decide +kernel)) ggX11_book_X11_put
set_option maxRecDepth 20000 in
theorem ggX11_book_X11_valueOf : GoodIn wsX11_book wsX11_valueOf := goodIn_r _ [36, 5, 37, 38, 39, 40, 9, 41, 4, 42, 43, 44, 45, 11, 46, 47, 48, 49, 50, 51, 52, 53, 54, 55, 56, 57, 58, 59, 60, 61, 62, 63, 64, 65, 66, 67, 68, 69] (by decide +kernel) (by decide +kernel)
set_option maxRecDepth 20000 in
theorem gX11_book_X11_valueOf : GoodIn wsX11_book (wsV RX11 191 RX11 yX11_valueOf wsX11_valueOf) := goodIn_app (goodIn_of _ (by decide +kernel)) ggX11_book_X11_valueOf
theorem dX11_book_0 : decode cX11_book 0 = .ok (.aload_n 0, 1) := by decide +kernel
theorem dX11_book_1 : decode cX11_book 1 = .ok (.iconst 0, 1) := by decide +kernel
theorem dX11_book_2 : decode cX11_book 2 = .ok (.putfield 58, 3) := by decide +kernel
theorem dX11_book_5 : decode cX11_book 5 = .ok (.aload_n 0, 1) := by decide +kernel
theorem dX11_book_6 : decode cX11_book 6 = .ok (.iload_n 1, 1) := by decide +kernel
theorem dX11_book_7 : decode cX11_book 7 = .ok (.invokevirtual 177, 3) := by decide +kernel
theorem dX11_book_10 : decode cX11_book 10 = .ok (.ifCond .eq 11, 3) := by decide +kernel
theorem dX11_book_13 : decode cX11_book 13 = .ok (.aload_n 0, 1) := by decide +kernel
theorem dX11_book_14 : decode cX11_book 14 = .ok (.iload_n 2, 1) := by decide +kernel
theorem dX11_book_15 : decode cX11_book 15 = .ok (.invokevirtual 177, 3) := by decide +kernel
theorem dX11_book_18 : decode cX11_book 18 = .ok (.ifCond .ne 9, 3) := by decide +kernel
theorem dX11_book_21 : decode cX11_book 21 = .ok (.aload_n 0, 1) := by decide +kernel
theorem dX11_book_22 : decode cX11_book 22 = .ok (.iconst 1, 1) := by decide +kernel
theorem dX11_book_23 : decode cX11_book 23 = .ok (.invokevirtual 159, 3) := by decide +kernel
theorem dX11_book_26 : decode cX11_book 26 = .ok (.ireturn, 1) := by decide +kernel
theorem dX11_book_27 : decode cX11_book 27 = .ok (.iload_n 1, 1) := by decide +kernel
theorem dX11_book_28 : decode cX11_book 28 = .ok (.iload_n 2, 1) := by decide +kernel
theorem dX11_book_29 : decode cX11_book 29 = .ok (.if_icmp .eq 39, 3) := by decide +kernel
theorem dX11_book_32 : decode cX11_book 32 = .ok (.iload_n 3, 1) := by decide +kernel
theorem dX11_book_33 : decode cX11_book 33 = .ok (.i2l, 1) := by decide +kernel
theorem dX11_book_34 : decode cX11_book 34 = .ok (.lconst 0, 1) := by decide +kernel
theorem dX11_book_35 : decode cX11_book 35 = .ok (.lconst 1, 1) := by decide +kernel
theorem dX11_book_36 : decode cX11_book 36 = .ok (.invokestatic 89, 3) := by decide +kernel
theorem dX11_book_39 : decode cX11_book 39 = .ok (.ifCond .eq 29, 3) := by decide +kernel
theorem dX11_book_42 : decode cX11_book 42 = .ok (.iload 4, 2) := by decide +kernel
theorem dX11_book_44 : decode cX11_book 44 = .ok (.i2l, 1) := by decide +kernel
theorem dX11_book_45 : decode cX11_book 45 = .ok (.lconst 0, 1) := by decide +kernel
theorem dX11_book_46 : decode cX11_book 46 = .ok (.ldc2_w 271, 3) := by decide +kernel
theorem dX11_book_49 : decode cX11_book 49 = .ok (.invokestatic 89, 3) := by decide +kernel
theorem dX11_book_52 : decode cX11_book 52 = .ok (.ifCond .eq 16, 3) := by decide +kernel
theorem dX11_book_55 : decode cX11_book 55 = .ok (.iload 5, 2) := by decide +kernel
theorem dX11_book_57 : decode cX11_book 57 = .ok (.i2l, 1) := by decide +kernel
theorem dX11_book_58 : decode cX11_book 58 = .ok (.lconst 1, 1) := by decide +kernel
theorem dX11_book_59 : decode cX11_book 59 = .ok (.ldc2_w 273, 3) := by decide +kernel
theorem dX11_book_62 : decode cX11_book 62 = .ok (.invokestatic 89, 3) := by decide +kernel
theorem dX11_book_65 : decode cX11_book 65 = .ok (.ifCond .ne 9, 3) := by decide +kernel
theorem dX11_book_68 : decode cX11_book 68 = .ok (.aload_n 0, 1) := by decide +kernel
theorem dX11_book_69 : decode cX11_book 69 = .ok (.iconst 2, 1) := by decide +kernel
theorem dX11_book_70 : decode cX11_book 70 = .ok (.invokevirtual 159, 3) := by decide +kernel
theorem dX11_book_73 : decode cX11_book 73 = .ok (.ireturn, 1) := by decide +kernel
theorem dX11_book_74 : decode cX11_book 74 = .ok (.aload_n 0, 1) := by decide +kernel
theorem dX11_book_75 : decode cX11_book 75 = .ok (.getfield 20, 3) := by decide +kernel
theorem dX11_book_78 : decode cX11_book 78 = .ok (.iconst 0, 1) := by decide +kernel
theorem dX11_book_79 : decode cX11_book 79 = .ok (.iaload, 1) := by decide +kernel
theorem dX11_book_80 : decode cX11_book 80 = .ok (.bipush 100, 2) := by decide +kernel
theorem dX11_book_82 : decode cX11_book 82 = .ok (.if_icmp .ne 9, 3) := by decide +kernel
theorem dX11_book_85 : decode cX11_book 85 = .ok (.aload_n 0, 1) := by decide +kernel
theorem dX11_book_86 : decode cX11_book 86 = .ok (.iconst 3, 1) := by decide +kernel
theorem dX11_book_87 : decode cX11_book 87 = .ok (.invokevirtual 159, 3) := by decide +kernel
theorem dX11_book_90 : decode cX11_book 90 = .ok (.ireturn, 1) := by decide +kernel
theorem dX11_book_91 : decode cX11_book 91 = .ok (.aload_n 0, 1) := by decide +kernel
theorem dX11_book_92 : decode cX11_book 92 = .ok (.invokevirtual 275, 3) := by decide +kernel
theorem dX11_book_95 : decode cX11_book 95 = .ok (.aload_n 0, 1) := by decide +kernel
theorem dX11_book_96 : decode cX11_book 96 = .ok (.getfield 20, 3) := by decide +kernel
theorem dX11_book_99 : decode cX11_book 99 = .ok (.iconst 0, 1) := by decide +kernel
theorem dX11_book_100 : decode cX11_book 100 = .ok (.iaload, 1) := by decide +kernel
theorem dX11_book_101 : decode cX11_book 101 = .ok (.istore 6, 2) := by decide +kernel
theorem dX11_book_103 : decode cX11_book 103 = .ok (.aload_n 0, 1) := by decide +kernel
theorem dX11_book_104 : decode cX11_book 104 = .ok (.getfield 20, 3) := by decide +kernel
theorem dX11_book_107 : decode cX11_book 107 = .ok (.iconst 0, 1) := by decide +kernel
theorem dX11_book_108 : decode cX11_book 108 = .ok (.dup2, 1) := by decide +kernel
theorem dX11_book_109 : decode cX11_book 109 = .ok (.iaload, 1) := by decide +kernel
theorem dX11_book_110 : decode cX11_book 110 = .ok (.iconst 1, 1) := by decide +kernel
theorem dX11_book_111 : decode cX11_book 111 = .ok (.iadd, 1) := by decide +kernel
theorem dX11_book_112 : decode cX11_book 112 = .ok (.iastore, 1) := by decide +kernel
theorem dX11_book_113 : decode cX11_book 113 = .ok (.aload_n 0, 1) := by decide +kernel
theorem dX11_book_114 : decode cX11_book 114 = .ok (.iload 6, 2) := by decide +kernel
theorem dX11_book_116 : decode cX11_book 116 = .ok (.iconst 0, 1) := by decide +kernel
theorem dX11_book_117 : decode cX11_book 117 = .ok (.iload_n 1, 1) := by decide +kernel
theorem dX11_book_118 : decode cX11_book 118 = .ok (.invokevirtual 278, 3) := by decide +kernel
theorem dX11_book_121 : decode cX11_book 121 = .ok (.aload_n 0, 1) := by decide +kernel
theorem dX11_book_122 : decode cX11_book 122 = .ok (.iload 6, 2) := by decide +kernel
theorem dX11_book_124 : decode cX11_book 124 = .ok (.iconst 1, 1) := by decide +kernel
theorem dX11_book_125 : decode cX11_book 125 = .ok (.iload_n 2, 1) := by decide +kernel
theorem dX11_book_126 : decode cX11_book 126 = .ok (.invokevirtual 278, 3) := by decide +kernel
theorem dX11_book_129 : decode cX11_book 129 = .ok (.aload_n 0, 1) := by decide +kernel
theorem dX11_book_130 : decode cX11_book 130 = .ok (.iload 6, 2) := by decide +kernel
theorem dX11_book_132 : decode cX11_book 132 = .ok (.iconst 2, 1) := by decide +kernel
theorem dX11_book_133 : decode cX11_book 133 = .ok (.iload_n 3, 1) := by decide +kernel
theorem dX11_book_134 : decode cX11_book 134 = .ok (.invokevirtual 278, 3) := by decide +kernel
theorem dX11_book_137 : decode cX11_book 137 = .ok (.aload_n 0, 1) := by decide +kernel
theorem dX11_book_138 : decode cX11_book 138 = .ok (.iload 6, 2) := by decide +kernel
theorem dX11_book_140 : decode cX11_book 140 = .ok (.iconst 3, 1) := by decide +kernel
theorem dX11_book_141 : decode cX11_book 141 = .ok (.iload 4, 2) := by decide +kernel
theorem dX11_book_143 : decode cX11_book 143 = .ok (.invokevirtual 278, 3) := by decide +kernel
theorem dX11_book_146 : decode cX11_book 146 = .ok (.aload_n 0, 1) := by decide +kernel
theorem dX11_book_147 : decode cX11_book 147 = .ok (.iload 6, 2) := by decide +kernel
theorem dX11_book_149 : decode cX11_book 149 = .ok (.iconst 4, 1) := by decide +kernel
theorem dX11_book_150 : decode cX11_book 150 = .ok (.iconst 0, 1) := by decide +kernel
theorem dX11_book_151 : decode cX11_book 151 = .ok (.invokevirtual 278, 3) := by decide +kernel
theorem dX11_book_154 : decode cX11_book 154 = .ok (.aload_n 0, 1) := by decide +kernel
theorem dX11_book_155 : decode cX11_book 155 = .ok (.iload 6, 2) := by decide +kernel
theorem dX11_book_157 : decode cX11_book 157 = .ok (.iconst 5, 1) := by decide +kernel
theorem dX11_book_158 : decode cX11_book 158 = .ok (.iconst (-1), 1) := by decide +kernel
theorem dX11_book_159 : decode cX11_book 159 = .ok (.invokevirtual 278, 3) := by decide +kernel
theorem dX11_book_162 : decode cX11_book 162 = .ok (.aload_n 0, 1) := by decide +kernel
theorem dX11_book_163 : decode cX11_book 163 = .ok (.getfield 23, 3) := by decide +kernel
theorem dX11_book_166 : decode cX11_book 166 = .ok (.bipush 9, 2) := by decide +kernel
theorem dX11_book_168 : decode cX11_book 168 = .ok (.iload 6, 2) := by decide +kernel
theorem dX11_book_170 : decode cX11_book 170 = .ok (.iadd, 1) := by decide +kernel
theorem dX11_book_171 : decode cX11_book 171 = .ok (.iload 5, 2) := by decide +kernel
theorem dX11_book_173 : decode cX11_book 173 = .ok (.i2l, 1) := by decide +kernel
theorem dX11_book_174 : decode cX11_book 174 = .ok (.lastore, 1) := by decide +kernel
theorem dX11_book_175 : decode cX11_book 175 = .ok (.aload_n 0, 1) := by decide +kernel
theorem dX11_book_176 : decode cX11_book 176 = .ok (.getfield 23, 3) := by decide +kernel
theorem dX11_book_179 : decode cX11_book 179 = .ok (.bipush 109, 2) := by decide +kernel
theorem dX11_book_181 : decode cX11_book 181 = .ok (.iload 6, 2) := by decide +kernel
theorem dX11_book_183 : decode cX11_book 183 = .ok (.iadd, 1) := by decide +kernel
theorem dX11_book_184 : decode cX11_book 184 = .ok (.aload_n 0, 1) := by decide +kernel
theorem dX11_book_185 : decode cX11_book 185 = .ok (.iload 6, 2) := by decide +kernel
theorem dX11_book_187 : decode cX11_book 187 = .ok (.invokevirtual 191, 3) := by decide +kernel
theorem dX11_book_190 : decode cX11_book 190 = .ok (.lastore, 1) := by decide +kernel
theorem dX11_book_191 : decode cX11_book 191 = .ok (.iload 6, 2) := by decide +kernel
theorem dX11_book_193 : decode cX11_book 193 = .ok (.ireturn, 1) := by decide +kernel
set_option maxRecDepth 20000 in
theorem ggX11_cancel_X11_isItem : GoodIn wsX11_cancel wsX11_isItem := goodIn_r _ [6, 7, 8, 9, 5, 10, 40, 41, 42, 43, 44, 45, 46, 47, 48, 49, 50, 51, 52, 53, 54, 55, 56, 57, 58, 59, 60, 61, 62, 63] (by decide +kernel) (by decide +kernel)
set_option maxRecDepth 20000 in
theorem gX11_cancel_X11_isItem : GoodIn wsX11_cancel (wsV RX11 186 RX11 yX11_isItem wsX11_isItem) := goodIn_app (goodIn_of _ (by decide +kernel)) ggX11_cancel_X11_isItem
set_option maxRecDepth 20000 in
theorem ggX11_cancel_X11_of : GoodIn wsX11_cancel wsX11_of := goodIn_r _ [14, 7, 40, 41, 42, 43, 44, 45, 46, 47, 48, 49, 50, 51, 52, 53, 54, 55, 56, 57, 58, 59, 60, 61, 62, 63] (by decide +kernel) (by decide +kernel)
set_option maxRecDepth 20000 in
theorem gX11_cancel_X11_of : GoodIn wsX11_cancel (wsV RX11 169 RX11 yX11_of wsX11_of) := goodIn_app (goodIn_of _ (by decide +kernel)) ggX11_cancel_X11_of
set_option maxRecDepth 20000 in
theorem ggX11_cancel_X11_keep : GoodIn wsX11_cancel wsX11_keep := goodIn_r _ [18, 19, 20, 21, 7, 22, 23, 24, 5, 25, 40, 41, 42, 43, 44, 45, 46, 47, 48, 49, 50, 51, 52, 53, 54, 55, 56, 57, 58, 59, 60, 61, 62, 63] (by decide +kernel) (by decide +kernel)
set_option maxRecDepth 20000 in
theorem gX11_cancel_X11_keep : GoodIn wsX11_cancel (wsV RX11 275 RX11 yX11_keep wsX11_keep) := goodIn_app (goodIn_of _ (by decide +kernel)) ggX11_cancel_X11_keep
set_option maxRecDepth 20000 in
theorem ggX11_cancel_X11_valueOf : GoodIn wsX11_cancel wsX11_valueOf := goodIn_r _ [29, 22, 30, 11, 12, 13, 5, 14, 7, 31, 32, 33, 34, 35, 40, 41, 42, 43, 44, 45, 46, 47, 48, 49, 50, 51, 52, 53, 54, 55, 56, 57, 58, 59, 60, 61, 62, 63] (by decide +kernel) (by decide +kernel)
set_option maxRecDepth 20000 in
theorem gX11_cancel_X11_valueOf : GoodIn wsX11_cancel (wsV RX11 191 RX11 yX11_valueOf wsX11_valueOf) := goodIn_app (goodIn_of _ (by decide +kernel)) ggX11_cancel_X11_valueOf
set_option maxRecDepth 20000 in
theorem ggX11_cancel_X11_put : GoodIn wsX11_cancel wsX11_put := goodIn_r _ [39, 7, 40, 41, 42, 43, 44, 45, 46, 47, 48, 49, 50, 51, 52, 53, 54, 55, 56, 57, 58, 59, 60, 61, 62, 63] (by decide +kernel) (by decide +kernel)
set_option maxRecDepth 20000 in
theorem gX11_cancel_X11_put : GoodIn wsX11_cancel (wsV RX11 278 RX11 yX11_put wsX11_put) := goodIn_app (goodIn_of _ (by decide +kernel)) ggX11_cancel_X11_put
theorem dX11_cancel_0 : decode cX11_cancel 0 = .ok (.aload_n 0, 1) := by decide +kernel
theorem dX11_cancel_1 : decode cX11_cancel 1 = .ok (.aload_n 0, 1) := by decide +kernel
theorem dX11_cancel_2 : decode cX11_cancel 2 = .ok (.iload_n 1, 1) := by decide +kernel
theorem dX11_cancel_3 : decode cX11_cancel 3 = .ok (.invokevirtual 186, 3) := by decide +kernel
theorem dX11_cancel_6 : decode cX11_cancel 6 = .ok (.ifCond .ne 7, 3) := by decide +kernel
theorem dX11_cancel_9 : decode cX11_cancel 9 = .ok (.iconst 1, 1) := by decide +kernel
theorem dX11_cancel_10 : decode cX11_cancel 10 = .ok (.goto 17, 3) := by decide +kernel
theorem dX11_cancel_13 : decode cX11_cancel 13 = .ok (.aload_n 0, 1) := by decide +kernel
theorem dX11_cancel_14 : decode cX11_cancel 14 = .ok (.iload_n 1, 1) := by decide +kernel
theorem dX11_cancel_15 : decode cX11_cancel 15 = .ok (.iconst 4, 1) := by decide +kernel
theorem dX11_cancel_16 : decode cX11_cancel 16 = .ok (.invokevirtual 169, 3) := by decide +kernel
theorem dX11_cancel_19 : decode cX11_cancel 19 = .ok (.ifCond .eq 7, 3) := by decide +kernel
theorem dX11_cancel_22 : decode cX11_cancel 22 = .ok (.iconst 2, 1) := by decide +kernel
theorem dX11_cancel_23 : decode cX11_cancel 23 = .ok (.goto 4, 3) := by decide +kernel
theorem dX11_cancel_26 : decode cX11_cancel 26 = .ok (.iconst 0, 1) := by decide +kernel
theorem dX11_cancel_27 : decode cX11_cancel 27 = .ok (.putfield 58, 3) := by decide +kernel
theorem dX11_cancel_30 : decode cX11_cancel 30 = .ok (.aload_n 0, 1) := by decide +kernel
theorem dX11_cancel_31 : decode cX11_cancel 31 = .ok (.getfield 58, 3) := by decide +kernel
theorem dX11_cancel_34 : decode cX11_cancel 34 = .ok (.ifCond .le 5, 3) := by decide +kernel
theorem dX11_cancel_37 : decode cX11_cancel 37 = .ok (.lconst 0, 1) := by decide +kernel
theorem dX11_cancel_38 : decode cX11_cancel 38 = .ok (.lreturn, 1) := by decide +kernel
theorem dX11_cancel_39 : decode cX11_cancel 39 = .ok (.aload_n 0, 1) := by decide +kernel
theorem dX11_cancel_40 : decode cX11_cancel 40 = .ok (.invokevirtual 275, 3) := by decide +kernel
theorem dX11_cancel_43 : decode cX11_cancel 43 = .ok (.aload_n 0, 1) := by decide +kernel
theorem dX11_cancel_44 : decode cX11_cancel 44 = .ok (.iload_n 1, 1) := by decide +kernel
theorem dX11_cancel_45 : decode cX11_cancel 45 = .ok (.invokevirtual 191, 3) := by decide +kernel
theorem dX11_cancel_48 : decode cX11_cancel 48 = .ok (.lstore_n 2, 1) := by decide +kernel
theorem dX11_cancel_49 : decode cX11_cancel 49 = .ok (.aload_n 0, 1) := by decide +kernel
theorem dX11_cancel_50 : decode cX11_cancel 50 = .ok (.iload_n 1, 1) := by decide +kernel
theorem dX11_cancel_51 : decode cX11_cancel 51 = .ok (.iconst 4, 1) := by decide +kernel
theorem dX11_cancel_52 : decode cX11_cancel 52 = .ok (.iconst 4, 1) := by decide +kernel
theorem dX11_cancel_53 : decode cX11_cancel 53 = .ok (.invokevirtual 278, 3) := by decide +kernel
theorem dX11_cancel_56 : decode cX11_cancel 56 = .ok (.lload_n 2, 1) := by decide +kernel
theorem dX11_cancel_57 : decode cX11_cancel 57 = .ok (.lreturn, 1) := by decide +kernel
set_option maxRecDepth 20000 in
theorem ggX11_match_X11_keep : GoodIn wsX11_match wsX11_keep := goodIn_r _ [8, 9, 10, 11, 2, 12, 13, 14, 7, 15, 57, 58, 59, 60, 61, 62, 63, 64, 65, 66, 67, 68, 69, 70, 71, 72, 73, 74, 75, 76, 77, 78, 79, 80] (by decide +kernel) (by decide +kernel)
set_option maxRecDepth 20000 in
theorem gX11_match_X11_keep : GoodIn wsX11_match (wsV RX11 275 RX11 yX11_keep wsX11_keep) := goodIn_app (goodIn_of _ (by decide +kernel)) ggX11_match_X11_keep
set_option maxRecDepth 20000 in
theorem ggX11_match_X11_laysRun : GoodIn wsX11_match wsX11_laysRun := goodIn_r _ [19, 3, 2, 20, 21, 22, 7, 23, 24, 25, 26, 27, 28, 29, 30, 31, 32, 33, 34, 35, 36, 37, 38, 39, 12, 40, 41, 42, 43, 44, 45, 46, 47, 48, 57, 58, 59, 60, 61, 62, 63, 64, 65, 66, 67, 68, 69, 70, 71, 72, 73, 74, 75, 76, 77, 78, 79, 80] (by decide +kernel) (by decide +kernel)
set_option maxRecDepth 20000 in
theorem gX11_match_X11_laysRun : GoodIn wsX11_match (wsV RX11 212 RX11 yX11_laysRun wsX11_laysRun) := goodIn_app (goodIn_of _ (by decide +kernel)) ggX11_match_X11_laysRun
set_option maxRecDepth 20000 in
theorem ggX11_match_X11_of : GoodIn wsX11_match wsX11_of := goodIn_r _ [27, 2, 57, 58, 59, 60, 61, 62, 63, 64, 65, 66, 67, 68, 69, 70, 71, 72, 73, 74, 75, 76, 77, 78, 79, 80] (by decide +kernel) (by decide +kernel)
set_option maxRecDepth 20000 in
theorem gX11_match_X11_of : GoodIn wsX11_match (wsV RX11 169 RX11 yX11_of wsX11_of) := goodIn_app (goodIn_of _ (by decide +kernel)) ggX11_match_X11_of
set_option maxRecDepth 20000 in
theorem ggX11_match_X11_wouldDiffer : GoodIn wsX11_match wsX11_wouldDiffer := goodIn_r _ [52, 3, 36, 37, 38, 7, 39, 12, 40, 24, 25, 26, 27, 2, 41, 42, 43, 44, 45, 46, 47, 48, 57, 58, 59, 60, 61, 62, 63, 64, 65, 66, 67, 68, 69, 70, 71, 72, 73, 74, 75, 76, 77, 78, 79, 80] (by decide +kernel) (by decide +kernel)
set_option maxRecDepth 20000 in
theorem gX11_match_X11_wouldDiffer : GoodIn wsX11_match (wsV RX11 217 RX11 yX11_wouldDiffer wsX11_wouldDiffer) := goodIn_app (goodIn_of _ (by decide +kernel)) ggX11_match_X11_wouldDiffer
set_option maxRecDepth 20000 in
theorem ggX11_match_X11_put : GoodIn wsX11_match wsX11_put := goodIn_r _ [56, 2, 57, 58, 59, 60, 61, 62, 63, 64, 65, 66, 67, 68, 69, 70, 71, 72, 73, 74, 75, 76, 77, 78, 79, 80] (by decide +kernel) (by decide +kernel)
set_option maxRecDepth 20000 in
theorem gX11_match_X11_put : GoodIn wsX11_match (wsV RX11 278 RX11 yX11_put wsX11_put) := goodIn_app (goodIn_of _ (by decide +kernel)) ggX11_match_X11_put
theorem dX11_match_0 : decode cX11_match 0 = .ok (.aload_n 0, 1) := by decide +kernel
theorem dX11_match_1 : decode cX11_match 1 = .ok (.iconst 0, 1) := by decide +kernel
theorem dX11_match_2 : decode cX11_match 2 = .ok (.putfield 58, 3) := by decide +kernel
theorem dX11_match_5 : decode cX11_match 5 = .ok (.aload_n 0, 1) := by decide +kernel
theorem dX11_match_6 : decode cX11_match 6 = .ok (.invokevirtual 275, 3) := by decide +kernel
theorem dX11_match_9 : decode cX11_match 9 = .ok (.aload_n 0, 1) := by decide +kernel
theorem dX11_match_10 : decode cX11_match 10 = .ok (.invokevirtual 212, 3) := by decide +kernel
theorem dX11_match_13 : decode cX11_match 13 = .ok (.iconst 0, 1) := by decide +kernel
theorem dX11_match_14 : decode cX11_match 14 = .ok (.istore_n 1, 1) := by decide +kernel
theorem dX11_match_15 : decode cX11_match 15 = .ok (.iconst 0, 1) := by decide +kernel
theorem dX11_match_16 : decode cX11_match 16 = .ok (.istore_n 2, 1) := by decide +kernel
theorem dX11_match_17 : decode cX11_match 17 = .ok (.iload_n 2, 1) := by decide +kernel
theorem dX11_match_18 : decode cX11_match 18 = .ok (.aload_n 0, 1) := by decide +kernel
theorem dX11_match_19 : decode cX11_match 19 = .ok (.getfield 20, 3) := by decide +kernel
theorem dX11_match_22 : decode cX11_match 22 = .ok (.iconst 0, 1) := by decide +kernel
theorem dX11_match_23 : decode cX11_match 23 = .ok (.iaload, 1) := by decide +kernel
theorem dX11_match_24 : decode cX11_match 24 = .ok (.if_icmp .ge 99, 3) := by decide +kernel
theorem dX11_match_27 : decode cX11_match 27 = .ok (.aload_n 0, 1) := by decide +kernel
theorem dX11_match_28 : decode cX11_match 28 = .ok (.getfield 43, 3) := by decide +kernel
theorem dX11_match_31 : decode cX11_match 31 = .ok (.iload_n 2, 1) := by decide +kernel
theorem dX11_match_32 : decode cX11_match 32 = .ok (.iaload, 1) := by decide +kernel
theorem dX11_match_33 : decode cX11_match 33 = .ok (.ifCond .lt 84, 3) := by decide +kernel
theorem dX11_match_36 : decode cX11_match 36 = .ok (.aload_n 0, 1) := by decide +kernel
theorem dX11_match_37 : decode cX11_match 37 = .ok (.iload_n 2, 1) := by decide +kernel
theorem dX11_match_38 : decode cX11_match 38 = .ok (.iconst 2, 1) := by decide +kernel
theorem dX11_match_39 : decode cX11_match 39 = .ok (.invokevirtual 169, 3) := by decide +kernel
theorem dX11_match_42 : decode cX11_match 42 = .ok (.iconst 1, 1) := by decide +kernel
theorem dX11_match_43 : decode cX11_match 43 = .ok (.if_icmp .ne 6, 3) := by decide +kernel
theorem dX11_match_46 : decode cX11_match 46 = .ok (.goto 71, 3) := by decide +kernel
theorem dX11_match_49 : decode cX11_match 49 = .ok (.aload_n 0, 1) := by decide +kernel
theorem dX11_match_50 : decode cX11_match 50 = .ok (.iload_n 2, 1) := by decide +kernel
theorem dX11_match_51 : decode cX11_match 51 = .ok (.invokevirtual 217, 3) := by decide +kernel
theorem dX11_match_54 : decode cX11_match 54 = .ok (.aload_n 0, 1) := by decide +kernel
theorem dX11_match_55 : decode cX11_match 55 = .ok (.getfield 20, 3) := by decide +kernel
theorem dX11_match_58 : decode cX11_match 58 = .ok (.iconst 3, 1) := by decide +kernel
theorem dX11_match_59 : decode cX11_match 59 = .ok (.iaload, 1) := by decide +kernel
theorem dX11_match_60 : decode cX11_match 60 = .ok (.i2l, 1) := by decide +kernel
theorem dX11_match_61 : decode cX11_match 61 = .ok (.lcmp, 1) := by decide +kernel
theorem dX11_match_62 : decode cX11_match 62 = .ok (.ifCond .gt 7, 3) := by decide +kernel
theorem dX11_match_65 : decode cX11_match 65 = .ok (.iconst 1, 1) := by decide +kernel
theorem dX11_match_66 : decode cX11_match 66 = .ok (.goto 4, 3) := by decide +kernel
theorem dX11_match_69 : decode cX11_match 69 = .ok (.iconst 2, 1) := by decide +kernel
theorem dX11_match_70 : decode cX11_match 70 = .ok (.istore_n 3, 1) := by decide +kernel
theorem dX11_match_71 : decode cX11_match 71 = .ok (.aload_n 0, 1) := by decide +kernel
theorem dX11_match_72 : decode cX11_match 72 = .ok (.iload_n 2, 1) := by decide +kernel
theorem dX11_match_73 : decode cX11_match 73 = .ok (.iconst 4, 1) := by decide +kernel
theorem dX11_match_74 : decode cX11_match 74 = .ok (.iload_n 3, 1) := by decide +kernel
theorem dX11_match_75 : decode cX11_match 75 = .ok (.invokevirtual 278, 3) := by decide +kernel
theorem dX11_match_78 : decode cX11_match 78 = .ok (.aload_n 0, 1) := by decide +kernel
theorem dX11_match_79 : decode cX11_match 79 = .ok (.aload_n 0, 1) := by decide +kernel
theorem dX11_match_80 : decode cX11_match 80 = .ok (.getfield 43, 3) := by decide +kernel
theorem dX11_match_83 : decode cX11_match 83 = .ok (.iload_n 2, 1) := by decide +kernel
theorem dX11_match_84 : decode cX11_match 84 = .ok (.iaload, 1) := by decide +kernel
theorem dX11_match_85 : decode cX11_match 85 = .ok (.iconst 4, 1) := by decide +kernel
theorem dX11_match_86 : decode cX11_match 86 = .ok (.iload_n 3, 1) := by decide +kernel
theorem dX11_match_87 : decode cX11_match 87 = .ok (.invokevirtual 278, 3) := by decide +kernel
theorem dX11_match_90 : decode cX11_match 90 = .ok (.aload_n 0, 1) := by decide +kernel
theorem dX11_match_91 : decode cX11_match 91 = .ok (.iload_n 2, 1) := by decide +kernel
theorem dX11_match_92 : decode cX11_match 92 = .ok (.iconst 5, 1) := by decide +kernel
theorem dX11_match_93 : decode cX11_match 93 = .ok (.aload_n 0, 1) := by decide +kernel
theorem dX11_match_94 : decode cX11_match 94 = .ok (.getfield 43, 3) := by decide +kernel
theorem dX11_match_97 : decode cX11_match 97 = .ok (.iload_n 2, 1) := by decide +kernel
theorem dX11_match_98 : decode cX11_match 98 = .ok (.iaload, 1) := by decide +kernel
theorem dX11_match_99 : decode cX11_match 99 = .ok (.invokevirtual 278, 3) := by decide +kernel
theorem dX11_match_102 : decode cX11_match 102 = .ok (.aload_n 0, 1) := by decide +kernel
theorem dX11_match_103 : decode cX11_match 103 = .ok (.aload_n 0, 1) := by decide +kernel
theorem dX11_match_104 : decode cX11_match 104 = .ok (.getfield 43, 3) := by decide +kernel
theorem dX11_match_107 : decode cX11_match 107 = .ok (.iload_n 2, 1) := by decide +kernel
theorem dX11_match_108 : decode cX11_match 108 = .ok (.iaload, 1) := by decide +kernel
theorem dX11_match_109 : decode cX11_match 109 = .ok (.iconst 5, 1) := by decide +kernel
theorem dX11_match_110 : decode cX11_match 110 = .ok (.iload_n 2, 1) := by decide +kernel
theorem dX11_match_111 : decode cX11_match 111 = .ok (.invokevirtual 278, 3) := by decide +kernel
theorem dX11_match_114 : decode cX11_match 114 = .ok (.iinc 1 1, 3) := by decide +kernel
theorem dX11_match_117 : decode cX11_match 117 = .ok (.iinc 2 1, 3) := by decide +kernel
theorem dX11_match_120 : decode cX11_match 120 = .ok (.goto (-103), 3) := by decide +kernel
theorem dX11_match_123 : decode cX11_match 123 = .ok (.iload_n 1, 1) := by decide +kernel
theorem dX11_match_124 : decode cX11_match 124 = .ok (.ireturn, 1) := by decide +kernel
set_option maxRecDepth 20000 in
theorem ggX11_release_X11_isItem : GoodIn wsX11_release wsX11_isItem := goodIn_r _ [6, 7, 8, 9, 5, 10, 34, 35, 36, 37, 38, 39, 40, 41, 42, 43, 44, 45, 46, 47, 48, 49, 50, 51, 52, 53, 54, 55, 56, 57] (by decide +kernel) (by decide +kernel)
set_option maxRecDepth 20000 in
theorem gX11_release_X11_isItem : GoodIn wsX11_release (wsV RX11 186 RX11 yX11_isItem wsX11_isItem) := goodIn_app (goodIn_of _ (by decide +kernel)) ggX11_release_X11_isItem
set_option maxRecDepth 20000 in
theorem ggX11_release_X11_fail : GoodIn wsX11_release wsX11_fail := goodIn_r _ [14, 1, 34, 35, 36, 37, 38, 39, 40, 41, 42, 43, 44, 45, 46, 47, 48, 49, 50, 51, 52, 53, 54, 55, 56, 57] (by decide +kernel) (by decide +kernel)
set_option maxRecDepth 20000 in
theorem gX11_release_X11_fail : GoodIn wsX11_release (wsV RX11 159 RX11 yX11_fail wsX11_fail) := goodIn_app (goodIn_of _ (by decide +kernel)) ggX11_release_X11_fail
set_option maxRecDepth 20000 in
theorem ggX11_release_X11_of : GoodIn wsX11_release wsX11_of := goodIn_r _ [18, 7, 34, 35, 36, 37, 38, 39, 40, 41, 42, 43, 44, 45, 46, 47, 48, 49, 50, 51, 52, 53, 54, 55, 56, 57] (by decide +kernel) (by decide +kernel)
set_option maxRecDepth 20000 in
theorem gX11_release_X11_of : GoodIn wsX11_release (wsV RX11 169 RX11 yX11_of wsX11_of) := goodIn_app (goodIn_of _ (by decide +kernel)) ggX11_release_X11_of
set_option maxRecDepth 20000 in
theorem ggX11_release_X11_keep : GoodIn wsX11_release wsX11_keep := goodIn_r _ [22, 23, 24, 25, 7, 26, 27, 28, 5, 29, 34, 35, 36, 37, 38, 39, 40, 41, 42, 43, 44, 45, 46, 47, 48, 49, 50, 51, 52, 53, 54, 55, 56, 57] (by decide +kernel) (by decide +kernel)
set_option maxRecDepth 20000 in
theorem gX11_release_X11_keep : GoodIn wsX11_release (wsV RX11 275 RX11 yX11_keep wsX11_keep) := goodIn_app (goodIn_of _ (by decide +kernel)) ggX11_release_X11_keep
set_option maxRecDepth 20000 in
theorem ggX11_release_X11_put : GoodIn wsX11_release wsX11_put := goodIn_r _ [33, 7, 34, 35, 36, 37, 38, 39, 40, 41, 42, 43, 44, 45, 46, 47, 48, 49, 50, 51, 52, 53, 54, 55, 56, 57] (by decide +kernel) (by decide +kernel)
set_option maxRecDepth 20000 in
theorem gX11_release_X11_put : GoodIn wsX11_release (wsV RX11 278 RX11 yX11_put wsX11_put) := goodIn_app (goodIn_of _ (by decide +kernel)) ggX11_release_X11_put
theorem dX11_release_0 : decode cX11_release 0 = .ok (.aload_n 0, 1) := by decide +kernel
theorem dX11_release_1 : decode cX11_release 1 = .ok (.iconst 0, 1) := by decide +kernel
theorem dX11_release_2 : decode cX11_release 2 = .ok (.putfield 58, 3) := by decide +kernel
theorem dX11_release_5 : decode cX11_release 5 = .ok (.aload_n 0, 1) := by decide +kernel
theorem dX11_release_6 : decode cX11_release 6 = .ok (.iload_n 1, 1) := by decide +kernel
theorem dX11_release_7 : decode cX11_release 7 = .ok (.invokevirtual 186, 3) := by decide +kernel
theorem dX11_release_10 : decode cX11_release 10 = .ok (.ifCond .ne 9, 3) := by decide +kernel
theorem dX11_release_13 : decode cX11_release 13 = .ok (.aload_n 0, 1) := by decide +kernel
theorem dX11_release_14 : decode cX11_release 14 = .ok (.iconst 1, 1) := by decide +kernel
theorem dX11_release_15 : decode cX11_release 15 = .ok (.invokevirtual 159, 3) := by decide +kernel
theorem dX11_release_18 : decode cX11_release 18 = .ok (.ireturn, 1) := by decide +kernel
theorem dX11_release_19 : decode cX11_release 19 = .ok (.aload_n 0, 1) := by decide +kernel
theorem dX11_release_20 : decode cX11_release 20 = .ok (.iload_n 1, 1) := by decide +kernel
theorem dX11_release_21 : decode cX11_release 21 = .ok (.iconst 4, 1) := by decide +kernel
theorem dX11_release_22 : decode cX11_release 22 = .ok (.invokevirtual 169, 3) := by decide +kernel
theorem dX11_release_25 : decode cX11_release 25 = .ok (.iconst 1, 1) := by decide +kernel
theorem dX11_release_26 : decode cX11_release 26 = .ok (.if_icmp .eq 19, 3) := by decide +kernel
theorem dX11_release_29 : decode cX11_release 29 = .ok (.aload_n 0, 1) := by decide +kernel
theorem dX11_release_30 : decode cX11_release 30 = .ok (.iload_n 1, 1) := by decide +kernel
theorem dX11_release_31 : decode cX11_release 31 = .ok (.iconst 4, 1) := by decide +kernel
theorem dX11_release_32 : decode cX11_release 32 = .ok (.invokevirtual 169, 3) := by decide +kernel
theorem dX11_release_35 : decode cX11_release 35 = .ok (.iconst 2, 1) := by decide +kernel
theorem dX11_release_36 : decode cX11_release 36 = .ok (.if_icmp .eq 9, 3) := by decide +kernel
theorem dX11_release_39 : decode cX11_release 39 = .ok (.aload_n 0, 1) := by decide +kernel
theorem dX11_release_40 : decode cX11_release 40 = .ok (.iconst 2, 1) := by decide +kernel
theorem dX11_release_41 : decode cX11_release 41 = .ok (.invokevirtual 159, 3) := by decide +kernel
theorem dX11_release_44 : decode cX11_release 44 = .ok (.ireturn, 1) := by decide +kernel
theorem dX11_release_45 : decode cX11_release 45 = .ok (.aload_n 0, 1) := by decide +kernel
theorem dX11_release_46 : decode cX11_release 46 = .ok (.invokevirtual 275, 3) := by decide +kernel
theorem dX11_release_49 : decode cX11_release 49 = .ok (.aload_n 0, 1) := by decide +kernel
theorem dX11_release_50 : decode cX11_release 50 = .ok (.iload_n 1, 1) := by decide +kernel
theorem dX11_release_51 : decode cX11_release 51 = .ok (.iconst 5, 1) := by decide +kernel
theorem dX11_release_52 : decode cX11_release 52 = .ok (.invokevirtual 169, 3) := by decide +kernel
theorem dX11_release_55 : decode cX11_release 55 = .ok (.istore_n 2, 1) := by decide +kernel
theorem dX11_release_56 : decode cX11_release 56 = .ok (.aload_n 0, 1) := by decide +kernel
theorem dX11_release_57 : decode cX11_release 57 = .ok (.iload_n 1, 1) := by decide +kernel
theorem dX11_release_58 : decode cX11_release 58 = .ok (.iconst 4, 1) := by decide +kernel
theorem dX11_release_59 : decode cX11_release 59 = .ok (.iconst 0, 1) := by decide +kernel
theorem dX11_release_60 : decode cX11_release 60 = .ok (.invokevirtual 278, 3) := by decide +kernel
theorem dX11_release_63 : decode cX11_release 63 = .ok (.aload_n 0, 1) := by decide +kernel
theorem dX11_release_64 : decode cX11_release 64 = .ok (.iload_n 2, 1) := by decide +kernel
theorem dX11_release_65 : decode cX11_release 65 = .ok (.iconst 4, 1) := by decide +kernel
theorem dX11_release_66 : decode cX11_release 66 = .ok (.iconst 0, 1) := by decide +kernel
theorem dX11_release_67 : decode cX11_release 67 = .ok (.invokevirtual 278, 3) := by decide +kernel
theorem dX11_release_70 : decode cX11_release 70 = .ok (.aload_n 0, 1) := by decide +kernel
theorem dX11_release_71 : decode cX11_release 71 = .ok (.iload_n 1, 1) := by decide +kernel
theorem dX11_release_72 : decode cX11_release 72 = .ok (.iconst 5, 1) := by decide +kernel
theorem dX11_release_73 : decode cX11_release 73 = .ok (.iconst (-1), 1) := by decide +kernel
theorem dX11_release_74 : decode cX11_release 74 = .ok (.invokevirtual 278, 3) := by decide +kernel
theorem dX11_release_77 : decode cX11_release 77 = .ok (.aload_n 0, 1) := by decide +kernel
theorem dX11_release_78 : decode cX11_release 78 = .ok (.iload_n 2, 1) := by decide +kernel
theorem dX11_release_79 : decode cX11_release 79 = .ok (.iconst 5, 1) := by decide +kernel
theorem dX11_release_80 : decode cX11_release 80 = .ok (.iconst (-1), 1) := by decide +kernel
theorem dX11_release_81 : decode cX11_release 81 = .ok (.invokevirtual 278, 3) := by decide +kernel
theorem dX11_release_84 : decode cX11_release 84 = .ok (.iload_n 2, 1) := by decide +kernel
theorem dX11_release_85 : decode cX11_release 85 = .ok (.ireturn, 1) := by decide +kernel
set_option maxRecDepth 20000 in
theorem ggX11_accept_X11_isItem : GoodIn wsX11_accept wsX11_isItem := goodIn_r _ [9, 10, 11, 12, 8, 13, 41, 42, 43, 44, 45, 46, 47, 48, 49, 50, 51, 52, 53, 54, 55, 56, 57, 58, 59, 60, 61, 62, 63, 64] (by decide +kernel) (by decide +kernel)
set_option maxRecDepth 20000 in
theorem gX11_accept_X11_isItem : GoodIn wsX11_accept (wsV RX11 186 RX11 yX11_isItem wsX11_isItem) := goodIn_app (goodIn_of _ (by decide +kernel)) ggX11_accept_X11_isItem
set_option maxRecDepth 20000 in
theorem ggX11_accept_X11_of : GoodIn wsX11_accept wsX11_of := goodIn_r _ [17, 10, 41, 42, 43, 44, 45, 46, 47, 48, 49, 50, 51, 52, 53, 54, 55, 56, 57, 58, 59, 60, 61, 62, 63, 64] (by decide +kernel) (by decide +kernel)
set_option maxRecDepth 20000 in
theorem gX11_accept_X11_of : GoodIn wsX11_accept (wsV RX11 169 RX11 yX11_of wsX11_of) := goodIn_app (goodIn_of _ (by decide +kernel)) ggX11_accept_X11_of
set_option maxRecDepth 20000 in
theorem ggX11_accept_X11_valueOf : GoodIn wsX11_accept wsX11_valueOf := goodIn_r _ [21, 4, 2, 14, 15, 16, 8, 17, 10, 22, 23, 24, 25, 26, 41, 42, 43, 44, 45, 46, 47, 48, 49, 50, 51, 52, 53, 54, 55, 56, 57, 58, 59, 60, 61, 62, 63, 64] (by decide +kernel) (by decide +kernel)
set_option maxRecDepth 20000 in
theorem gX11_accept_X11_valueOf : GoodIn wsX11_accept (wsV RX11 191 RX11 yX11_valueOf wsX11_valueOf) := goodIn_app (goodIn_of _ (by decide +kernel)) ggX11_accept_X11_valueOf
set_option maxRecDepth 20000 in
theorem ggX11_accept_X11_rateOf : GoodIn wsX11_accept wsX11_rateOf := goodIn_r _ [25, 10, 26, 14, 15, 16, 8, 17, 41, 42, 43, 44, 45, 46, 47, 48, 49, 50, 51, 52, 53, 54, 55, 56, 57, 58, 59, 60, 61, 62, 63, 64] (by decide +kernel) (by decide +kernel)
set_option maxRecDepth 20000 in
theorem gX11_accept_X11_rateOf : GoodIn wsX11_accept (wsV RX11 172 RX11 yX11_rateOf wsX11_rateOf) := goodIn_app (goodIn_of _ (by decide +kernel)) ggX11_accept_X11_rateOf
set_option maxRecDepth 20000 in
theorem ggX11_accept_X11_within : GoodIn wsX11_accept wsX11_within := goodIn_r _ [13] (by decide +kernel) (by decide +kernel)
set_option maxRecDepth 20000 in
theorem gX11_accept_X11_within : GoodIn wsX11_accept (va_wsS RX11 89 yX11_within wsX11_within) := goodIn_app (goodIn_of _ (by decide +kernel)) ggX11_accept_X11_within
set_option maxRecDepth 20000 in
theorem ggX11_accept_X11_keep : GoodIn wsX11_accept wsX11_keep := goodIn_r _ [30, 31, 32, 33, 10, 4, 34, 35, 8, 36, 41, 42, 43, 44, 45, 46, 47, 48, 49, 50, 51, 52, 53, 54, 55, 56, 57, 58, 59, 60, 61, 62, 63, 64] (by decide +kernel) (by decide +kernel)
set_option maxRecDepth 20000 in
theorem gX11_accept_X11_keep : GoodIn wsX11_accept (wsV RX11 275 RX11 yX11_keep wsX11_keep) := goodIn_app (goodIn_of _ (by decide +kernel)) ggX11_accept_X11_keep
set_option maxRecDepth 20000 in
theorem ggX11_accept_X11_put : GoodIn wsX11_accept wsX11_put := goodIn_r _ [40, 10, 41, 42, 43, 44, 45, 46, 47, 48, 49, 50, 51, 52, 53, 54, 55, 56, 57, 58, 59, 60, 61, 62, 63, 64] (by decide +kernel) (by decide +kernel)
set_option maxRecDepth 20000 in
theorem gX11_accept_X11_put : GoodIn wsX11_accept (wsV RX11 278 RX11 yX11_put wsX11_put) := goodIn_app (goodIn_of _ (by decide +kernel)) ggX11_accept_X11_put
theorem dX11_accept_0 : decode cX11_accept 0 = .ok (.aload_n 0, 1) := by decide +kernel
theorem dX11_accept_1 : decode cX11_accept 1 = .ok (.aload_n 0, 1) := by decide +kernel
theorem dX11_accept_2 : decode cX11_accept 2 = .ok (.iload_n 1, 1) := by decide +kernel
theorem dX11_accept_3 : decode cX11_accept 3 = .ok (.invokevirtual 186, 3) := by decide +kernel
theorem dX11_accept_6 : decode cX11_accept 6 = .ok (.ifCond .ne 7, 3) := by decide +kernel
theorem dX11_accept_9 : decode cX11_accept 9 = .ok (.iconst 1, 1) := by decide +kernel
theorem dX11_accept_10 : decode cX11_accept 10 = .ok (.goto 18, 3) := by decide +kernel
theorem dX11_accept_13 : decode cX11_accept 13 = .ok (.aload_n 0, 1) := by decide +kernel
theorem dX11_accept_14 : decode cX11_accept 14 = .ok (.iload_n 1, 1) := by decide +kernel
theorem dX11_accept_15 : decode cX11_accept 15 = .ok (.iconst 4, 1) := by decide +kernel
theorem dX11_accept_16 : decode cX11_accept 16 = .ok (.invokevirtual 169, 3) := by decide +kernel
theorem dX11_accept_19 : decode cX11_accept 19 = .ok (.iconst 2, 1) := by decide +kernel
theorem dX11_accept_20 : decode cX11_accept 20 = .ok (.if_icmp .eq 7, 3) := by decide +kernel
theorem dX11_accept_23 : decode cX11_accept 23 = .ok (.iconst 2, 1) := by decide +kernel
theorem dX11_accept_24 : decode cX11_accept 24 = .ok (.goto 4, 3) := by decide +kernel
theorem dX11_accept_27 : decode cX11_accept 27 = .ok (.iconst 0, 1) := by decide +kernel
theorem dX11_accept_28 : decode cX11_accept 28 = .ok (.putfield 58, 3) := by decide +kernel
theorem dX11_accept_31 : decode cX11_accept 31 = .ok (.aload_n 0, 1) := by decide +kernel
theorem dX11_accept_32 : decode cX11_accept 32 = .ok (.getfield 58, 3) := by decide +kernel
theorem dX11_accept_35 : decode cX11_accept 35 = .ok (.ifCond .le 5, 3) := by decide +kernel
theorem dX11_accept_38 : decode cX11_accept 38 = .ok (.lconst 0, 1) := by decide +kernel
theorem dX11_accept_39 : decode cX11_accept 39 = .ok (.lreturn, 1) := by decide +kernel
theorem dX11_accept_40 : decode cX11_accept 40 = .ok (.aload_n 0, 1) := by decide +kernel
theorem dX11_accept_41 : decode cX11_accept 41 = .ok (.iload_n 1, 1) := by decide +kernel
theorem dX11_accept_42 : decode cX11_accept 42 = .ok (.iconst 5, 1) := by decide +kernel
theorem dX11_accept_43 : decode cX11_accept 43 = .ok (.invokevirtual 169, 3) := by decide +kernel
theorem dX11_accept_46 : decode cX11_accept 46 = .ok (.istore_n 2, 1) := by decide +kernel
theorem dX11_accept_47 : decode cX11_accept 47 = .ok (.aload_n 0, 1) := by decide +kernel
theorem dX11_accept_48 : decode cX11_accept 48 = .ok (.iload_n 1, 1) := by decide +kernel
theorem dX11_accept_49 : decode cX11_accept 49 = .ok (.invokevirtual 191, 3) := by decide +kernel
theorem dX11_accept_52 : decode cX11_accept 52 = .ok (.ldc2_w 175, 3) := by decide +kernel
theorem dX11_accept_55 : decode cX11_accept 55 = .ok (.lmul, 1) := by decide +kernel
theorem dX11_accept_56 : decode cX11_accept 56 = .ok (.aload_n 0, 1) := by decide +kernel
theorem dX11_accept_57 : decode cX11_accept 57 = .ok (.iload_n 2, 1) := by decide +kernel
theorem dX11_accept_58 : decode cX11_accept 58 = .ok (.invokevirtual 172, 3) := by decide +kernel
theorem dX11_accept_61 : decode cX11_accept 61 = .ok (.i2l, 1) := by decide +kernel
theorem dX11_accept_62 : decode cX11_accept 62 = .ok (.ldiv, 1) := by decide +kernel
theorem dX11_accept_63 : decode cX11_accept 63 = .ok (.lstore_n 3, 1) := by decide +kernel
theorem dX11_accept_64 : decode cX11_accept 64 = .ok (.aload_n 0, 1) := by decide +kernel
theorem dX11_accept_65 : decode cX11_accept 65 = .ok (.lload_n 3, 1) := by decide +kernel
theorem dX11_accept_66 : decode cX11_accept 66 = .ok (.lconst 1, 1) := by decide +kernel
theorem dX11_accept_67 : decode cX11_accept 67 = .ok (.ldc2_w 282, 3) := by decide +kernel
theorem dX11_accept_70 : decode cX11_accept 70 = .ok (.invokestatic 89, 3) := by decide +kernel
theorem dX11_accept_73 : decode cX11_accept 73 = .ok (.ifCond .eq 7, 3) := by decide +kernel
theorem dX11_accept_76 : decode cX11_accept 76 = .ok (.iconst 0, 1) := by decide +kernel
theorem dX11_accept_77 : decode cX11_accept 77 = .ok (.goto 4, 3) := by decide +kernel
theorem dX11_accept_80 : decode cX11_accept 80 = .ok (.iconst 2, 1) := by decide +kernel
theorem dX11_accept_81 : decode cX11_accept 81 = .ok (.putfield 58, 3) := by decide +kernel
theorem dX11_accept_84 : decode cX11_accept 84 = .ok (.aload_n 0, 1) := by decide +kernel
theorem dX11_accept_85 : decode cX11_accept 85 = .ok (.getfield 58, 3) := by decide +kernel
theorem dX11_accept_88 : decode cX11_accept 88 = .ok (.ifCond .le 5, 3) := by decide +kernel
theorem dX11_accept_91 : decode cX11_accept 91 = .ok (.lconst 0, 1) := by decide +kernel
theorem dX11_accept_92 : decode cX11_accept 92 = .ok (.lreturn, 1) := by decide +kernel
theorem dX11_accept_93 : decode cX11_accept 93 = .ok (.aload_n 0, 1) := by decide +kernel
theorem dX11_accept_94 : decode cX11_accept 94 = .ok (.invokevirtual 275, 3) := by decide +kernel
theorem dX11_accept_97 : decode cX11_accept 97 = .ok (.aload_n 0, 1) := by decide +kernel
theorem dX11_accept_98 : decode cX11_accept 98 = .ok (.getfield 23, 3) := by decide +kernel
theorem dX11_accept_101 : decode cX11_accept 101 = .ok (.bipush 9, 2) := by decide +kernel
theorem dX11_accept_103 : decode cX11_accept 103 = .ok (.iload_n 2, 1) := by decide +kernel
theorem dX11_accept_104 : decode cX11_accept 104 = .ok (.iadd, 1) := by decide +kernel
theorem dX11_accept_105 : decode cX11_accept 105 = .ok (.lload_n 3, 1) := by decide +kernel
theorem dX11_accept_106 : decode cX11_accept 106 = .ok (.lastore, 1) := by decide +kernel
theorem dX11_accept_107 : decode cX11_accept 107 = .ok (.aload_n 0, 1) := by decide +kernel
theorem dX11_accept_108 : decode cX11_accept 108 = .ok (.iload_n 1, 1) := by decide +kernel
theorem dX11_accept_109 : decode cX11_accept 109 = .ok (.iconst 4, 1) := by decide +kernel
theorem dX11_accept_110 : decode cX11_accept 110 = .ok (.iconst 1, 1) := by decide +kernel
theorem dX11_accept_111 : decode cX11_accept 111 = .ok (.invokevirtual 278, 3) := by decide +kernel
theorem dX11_accept_114 : decode cX11_accept 114 = .ok (.aload_n 0, 1) := by decide +kernel
theorem dX11_accept_115 : decode cX11_accept 115 = .ok (.iload_n 2, 1) := by decide +kernel
theorem dX11_accept_116 : decode cX11_accept 116 = .ok (.iconst 4, 1) := by decide +kernel
theorem dX11_accept_117 : decode cX11_accept 117 = .ok (.iconst 1, 1) := by decide +kernel
theorem dX11_accept_118 : decode cX11_accept 118 = .ok (.invokevirtual 278, 3) := by decide +kernel
theorem dX11_accept_121 : decode cX11_accept 121 = .ok (.aload_n 0, 1) := by decide +kernel
theorem dX11_accept_122 : decode cX11_accept 122 = .ok (.getfield 23, 3) := by decide +kernel
theorem dX11_accept_125 : decode cX11_accept 125 = .ok (.bipush 109, 2) := by decide +kernel
theorem dX11_accept_127 : decode cX11_accept 127 = .ok (.iload_n 2, 1) := by decide +kernel
theorem dX11_accept_128 : decode cX11_accept 128 = .ok (.iadd, 1) := by decide +kernel
theorem dX11_accept_129 : decode cX11_accept 129 = .ok (.aload_n 0, 1) := by decide +kernel
theorem dX11_accept_130 : decode cX11_accept 130 = .ok (.iload_n 2, 1) := by decide +kernel
theorem dX11_accept_131 : decode cX11_accept 131 = .ok (.invokevirtual 191, 3) := by decide +kernel
theorem dX11_accept_134 : decode cX11_accept 134 = .ok (.lastore, 1) := by decide +kernel
theorem dX11_accept_135 : decode cX11_accept 135 = .ok (.lload_n 3, 1) := by decide +kernel
theorem dX11_accept_136 : decode cX11_accept 136 = .ok (.lreturn, 1) := by decide +kernel
set_option maxRecDepth 20000 in
theorem ggX11_setRate_X11_within : GoodIn wsX11_setRate wsX11_within := goodIn_r _ [8] (by decide +kernel) (by decide +kernel)
set_option maxRecDepth 20000 in
theorem gX11_setRate_X11_within : GoodIn wsX11_setRate (va_wsS RX11 89 yX11_within wsX11_within) := goodIn_app (goodIn_of _ (by decide +kernel)) ggX11_setRate_X11_within
set_option maxRecDepth 20000 in
theorem ggX11_setRate_X11_fail : GoodIn wsX11_setRate wsX11_fail := goodIn_r _ [12, 1, 24, 25, 26, 27, 28, 29, 30, 31, 32, 33, 34, 35, 36, 37, 38, 39, 40, 41, 42, 43, 44, 45, 46, 47] (by decide +kernel) (by decide +kernel)
set_option maxRecDepth 20000 in
theorem gX11_setRate_X11_fail : GoodIn wsX11_setRate (wsV RX11 159 RX11 yX11_fail wsX11_fail) := goodIn_app (goodIn_of _ (by decide +kernel)) ggX11_setRate_X11_fail
set_option maxRecDepth 20000 in
theorem ggX11_setRate_X11_keep : GoodIn wsX11_setRate wsX11_keep := goodIn_r _ [16, 17, 18, 19, 4, 20, 21, 22, 7, 23, 24, 25, 26, 27, 28, 29, 30, 31, 32, 33, 34, 35, 36, 37, 38, 39, 40, 41, 42, 43, 44, 45, 46, 47] (by decide +kernel) (by decide +kernel)
set_option maxRecDepth 20000 in
theorem gX11_setRate_X11_keep : GoodIn wsX11_setRate (wsV RX11 275 RX11 yX11_keep wsX11_keep) := goodIn_app (goodIn_of _ (by decide +kernel)) ggX11_setRate_X11_keep
theorem dX11_setRate_0 : decode cX11_setRate 0 = .ok (.aload_n 0, 1) := by decide +kernel
theorem dX11_setRate_1 : decode cX11_setRate 1 = .ok (.iconst 0, 1) := by decide +kernel
theorem dX11_setRate_2 : decode cX11_setRate 2 = .ok (.putfield 58, 3) := by decide +kernel
theorem dX11_setRate_5 : decode cX11_setRate 5 = .ok (.iload_n 1, 1) := by decide +kernel
theorem dX11_setRate_6 : decode cX11_setRate 6 = .ok (.i2l, 1) := by decide +kernel
theorem dX11_setRate_7 : decode cX11_setRate 7 = .ok (.lconst 0, 1) := by decide +kernel
theorem dX11_setRate_8 : decode cX11_setRate 8 = .ok (.aload_n 0, 1) := by decide +kernel
theorem dX11_setRate_9 : decode cX11_setRate 9 = .ok (.getfield 17, 3) := by decide +kernel
theorem dX11_setRate_12 : decode cX11_setRate 12 = .ok (.iconst 0, 1) := by decide +kernel
theorem dX11_setRate_13 : decode cX11_setRate 13 = .ok (.iaload, 1) := by decide +kernel
theorem dX11_setRate_14 : decode cX11_setRate 14 = .ok (.iconst 1, 1) := by decide +kernel
theorem dX11_setRate_15 : decode cX11_setRate 15 = .ok (.isub, 1) := by decide +kernel
theorem dX11_setRate_16 : decode cX11_setRate 16 = .ok (.i2l, 1) := by decide +kernel
theorem dX11_setRate_17 : decode cX11_setRate 17 = .ok (.invokestatic 89, 3) := by decide +kernel
theorem dX11_setRate_20 : decode cX11_setRate 20 = .ok (.ifCond .ne 9, 3) := by decide +kernel
theorem dX11_setRate_23 : decode cX11_setRate 23 = .ok (.aload_n 0, 1) := by decide +kernel
theorem dX11_setRate_24 : decode cX11_setRate 24 = .ok (.iconst 1, 1) := by decide +kernel
theorem dX11_setRate_25 : decode cX11_setRate 25 = .ok (.invokevirtual 159, 3) := by decide +kernel
theorem dX11_setRate_28 : decode cX11_setRate 28 = .ok (.ireturn, 1) := by decide +kernel
theorem dX11_setRate_29 : decode cX11_setRate 29 = .ok (.iload_n 2, 1) := by decide +kernel
theorem dX11_setRate_30 : decode cX11_setRate 30 = .ok (.i2l, 1) := by decide +kernel
theorem dX11_setRate_31 : decode cX11_setRate 31 = .ok (.lconst 1, 1) := by decide +kernel
theorem dX11_setRate_32 : decode cX11_setRate 32 = .ok (.ldc2_w 259, 3) := by decide +kernel
theorem dX11_setRate_35 : decode cX11_setRate 35 = .ok (.invokestatic 89, 3) := by decide +kernel
theorem dX11_setRate_38 : decode cX11_setRate 38 = .ok (.ifCond .ne 9, 3) := by decide +kernel
theorem dX11_setRate_41 : decode cX11_setRate 41 = .ok (.aload_n 0, 1) := by decide +kernel
theorem dX11_setRate_42 : decode cX11_setRate 42 = .ok (.iconst 2, 1) := by decide +kernel
theorem dX11_setRate_43 : decode cX11_setRate 43 = .ok (.invokevirtual 159, 3) := by decide +kernel
theorem dX11_setRate_46 : decode cX11_setRate 46 = .ok (.ireturn, 1) := by decide +kernel
theorem dX11_setRate_47 : decode cX11_setRate 47 = .ok (.aload_n 0, 1) := by decide +kernel
theorem dX11_setRate_48 : decode cX11_setRate 48 = .ok (.invokevirtual 275, 3) := by decide +kernel
theorem dX11_setRate_51 : decode cX11_setRate 51 = .ok (.aload_n 0, 1) := by decide +kernel
theorem dX11_setRate_52 : decode cX11_setRate 52 = .ok (.getfield 20, 3) := by decide +kernel
theorem dX11_setRate_55 : decode cX11_setRate 55 = .ok (.iconst 4, 1) := by decide +kernel
theorem dX11_setRate_56 : decode cX11_setRate 56 = .ok (.iload_n 1, 1) := by decide +kernel
theorem dX11_setRate_57 : decode cX11_setRate 57 = .ok (.iadd, 1) := by decide +kernel
theorem dX11_setRate_58 : decode cX11_setRate 58 = .ok (.iaload, 1) := by decide +kernel
theorem dX11_setRate_59 : decode cX11_setRate 59 = .ok (.istore_n 3, 1) := by decide +kernel
theorem dX11_setRate_60 : decode cX11_setRate 60 = .ok (.aload_n 0, 1) := by decide +kernel
theorem dX11_setRate_61 : decode cX11_setRate 61 = .ok (.getfield 20, 3) := by decide +kernel
theorem dX11_setRate_64 : decode cX11_setRate 64 = .ok (.iconst 4, 1) := by decide +kernel
theorem dX11_setRate_65 : decode cX11_setRate 65 = .ok (.iload_n 1, 1) := by decide +kernel
theorem dX11_setRate_66 : decode cX11_setRate 66 = .ok (.iadd, 1) := by decide +kernel
theorem dX11_setRate_67 : decode cX11_setRate 67 = .ok (.iload_n 2, 1) := by decide +kernel
theorem dX11_setRate_68 : decode cX11_setRate 68 = .ok (.iastore, 1) := by decide +kernel
theorem dX11_setRate_69 : decode cX11_setRate 69 = .ok (.iload_n 3, 1) := by decide +kernel
theorem dX11_setRate_70 : decode cX11_setRate 70 = .ok (.ireturn, 1) := by decide +kernel
set_option maxRecDepth 20000 in
theorem ggX11_setTolerance_X11_within : GoodIn wsX11_setTolerance wsX11_within := goodIn_r _ [7] (by decide +kernel) (by decide +kernel)
set_option maxRecDepth 20000 in
theorem gX11_setTolerance_X11_within : GoodIn wsX11_setTolerance (va_wsS RX11 89 yX11_within wsX11_within) := goodIn_app (goodIn_of _ (by decide +kernel)) ggX11_setTolerance_X11_within
set_option maxRecDepth 20000 in
theorem ggX11_setTolerance_X11_fail : GoodIn wsX11_setTolerance wsX11_fail := goodIn_r _ [11, 1, 23, 24, 25, 26, 27, 28, 29, 30, 31, 32, 33, 34, 35, 36, 37, 38, 39, 40, 41, 42, 43, 44, 45, 46] (by decide +kernel) (by decide +kernel)
set_option maxRecDepth 20000 in
theorem gX11_setTolerance_X11_fail : GoodIn wsX11_setTolerance (wsV RX11 159 RX11 yX11_fail wsX11_fail) := goodIn_app (goodIn_of _ (by decide +kernel)) ggX11_setTolerance_X11_fail
set_option maxRecDepth 20000 in
theorem ggX11_setTolerance_X11_keep : GoodIn wsX11_setTolerance wsX11_keep := goodIn_r _ [15, 16, 17, 18, 3, 19, 20, 21, 6, 22, 23, 24, 25, 26, 27, 28, 29, 30, 31, 32, 33, 34, 35, 36, 37, 38, 39, 40, 41, 42, 43, 44, 45, 46] (by decide +kernel) (by decide +kernel)
set_option maxRecDepth 20000 in
theorem gX11_setTolerance_X11_keep : GoodIn wsX11_setTolerance (wsV RX11 275 RX11 yX11_keep wsX11_keep) := goodIn_app (goodIn_of _ (by decide +kernel)) ggX11_setTolerance_X11_keep
theorem dX11_setTolerance_0 : decode cX11_setTolerance 0 = .ok (.aload_n 0, 1) := by decide +kernel
theorem dX11_setTolerance_1 : decode cX11_setTolerance 1 = .ok (.iconst 0, 1) := by decide +kernel
theorem dX11_setTolerance_2 : decode cX11_setTolerance 2 = .ok (.putfield 58, 3) := by decide +kernel
theorem dX11_setTolerance_5 : decode cX11_setTolerance 5 = .ok (.iload_n 1, 1) := by decide +kernel
theorem dX11_setTolerance_6 : decode cX11_setTolerance 6 = .ok (.i2l, 1) := by decide +kernel
theorem dX11_setTolerance_7 : decode cX11_setTolerance 7 = .ok (.lconst 0, 1) := by decide +kernel
theorem dX11_setTolerance_8 : decode cX11_setTolerance 8 = .ok (.ldc2_w 273, 3) := by decide +kernel
theorem dX11_setTolerance_11 : decode cX11_setTolerance 11 = .ok (.invokestatic 89, 3) := by decide +kernel
theorem dX11_setTolerance_14 : decode cX11_setTolerance 14 = .ok (.ifCond .ne 9, 3) := by decide +kernel
theorem dX11_setTolerance_17 : decode cX11_setTolerance 17 = .ok (.aload_n 0, 1) := by decide +kernel
theorem dX11_setTolerance_18 : decode cX11_setTolerance 18 = .ok (.iconst 1, 1) := by decide +kernel
theorem dX11_setTolerance_19 : decode cX11_setTolerance 19 = .ok (.invokevirtual 159, 3) := by decide +kernel
theorem dX11_setTolerance_22 : decode cX11_setTolerance 22 = .ok (.ireturn, 1) := by decide +kernel
theorem dX11_setTolerance_23 : decode cX11_setTolerance 23 = .ok (.aload_n 0, 1) := by decide +kernel
theorem dX11_setTolerance_24 : decode cX11_setTolerance 24 = .ok (.invokevirtual 275, 3) := by decide +kernel
theorem dX11_setTolerance_27 : decode cX11_setTolerance 27 = .ok (.aload_n 0, 1) := by decide +kernel
theorem dX11_setTolerance_28 : decode cX11_setTolerance 28 = .ok (.getfield 20, 3) := by decide +kernel
theorem dX11_setTolerance_31 : decode cX11_setTolerance 31 = .ok (.iconst 3, 1) := by decide +kernel
theorem dX11_setTolerance_32 : decode cX11_setTolerance 32 = .ok (.iaload, 1) := by decide +kernel
theorem dX11_setTolerance_33 : decode cX11_setTolerance 33 = .ok (.istore_n 2, 1) := by decide +kernel
theorem dX11_setTolerance_34 : decode cX11_setTolerance 34 = .ok (.aload_n 0, 1) := by decide +kernel
theorem dX11_setTolerance_35 : decode cX11_setTolerance 35 = .ok (.getfield 20, 3) := by decide +kernel
theorem dX11_setTolerance_38 : decode cX11_setTolerance 38 = .ok (.iconst 3, 1) := by decide +kernel
theorem dX11_setTolerance_39 : decode cX11_setTolerance 39 = .ok (.iload_n 1, 1) := by decide +kernel
theorem dX11_setTolerance_40 : decode cX11_setTolerance 40 = .ok (.iastore, 1) := by decide +kernel
theorem dX11_setTolerance_41 : decode cX11_setTolerance 41 = .ok (.iload_n 2, 1) := by decide +kernel
theorem dX11_setTolerance_42 : decode cX11_setTolerance 42 = .ok (.ireturn, 1) := by decide +kernel
set_option maxRecDepth 20000 in
theorem ggX11_net_X11_pairs : GoodIn wsX11_net wsX11_pairs := goodIn_r _ [9, 4, 10, 11, 12, 8, 13, 14, 15, 16, 17, 53, 54, 55, 56, 57, 58, 59, 60, 61, 62, 63, 64, 65, 66, 67, 68, 69, 70, 71, 72, 73, 74, 75, 76] (by decide +kernel) (by decide +kernel)
set_option maxRecDepth 20000 in
theorem gX11_net_X11_pairs : GoodIn wsX11_net (wsV RX11 220 RX11 yX11_pairs wsX11_pairs) := goodIn_app (goodIn_of _ (by decide +kernel)) ggX11_net_X11_pairs
set_option maxRecDepth 20000 in
theorem ggX11_net_X11_fail : GoodIn wsX11_net wsX11_fail := goodIn_r _ [21, 1, 53, 54, 55, 56, 57, 58, 59, 60, 61, 62, 63, 64, 65, 66, 67, 68, 69, 70, 71, 72, 73, 74, 75, 76] (by decide +kernel) (by decide +kernel)
set_option maxRecDepth 20000 in
theorem gX11_net_X11_fail : GoodIn wsX11_net (wsV RX11 159 RX11 yX11_fail wsX11_fail) := goodIn_app (goodIn_of _ (by decide +kernel)) ggX11_net_X11_fail
set_option maxRecDepth 20000 in
theorem ggX11_net_X11_keep : GoodIn wsX11_net wsX11_keep := goodIn_r _ [25, 26, 27, 28, 4, 3, 29, 30, 8, 31, 53, 54, 55, 56, 57, 58, 59, 60, 61, 62, 63, 64, 65, 66, 67, 68, 69, 70, 71, 72, 73, 74, 75, 76] (by decide +kernel) (by decide +kernel)
set_option maxRecDepth 20000 in
theorem gX11_net_X11_keep : GoodIn wsX11_net (wsV RX11 275 RX11 yX11_keep wsX11_keep) := goodIn_app (goodIn_of _ (by decide +kernel)) ggX11_net_X11_keep
set_option maxRecDepth 20000 in
theorem ggX11_net_X11_positionOf : GoodIn wsX11_net wsX11_positionOf := goodIn_r _ [35, 4, 10, 11, 12, 8, 13, 14, 15, 16, 17, 36, 37, 38, 39, 3, 40, 41, 42, 43, 44, 2, 53, 54, 55, 56, 57, 58, 59, 60, 61, 62, 63, 64, 65, 66, 67, 68, 69, 70, 71, 72, 73, 74, 75, 76] (by decide +kernel) (by decide +kernel)
set_option maxRecDepth 20000 in
theorem gX11_net_X11_positionOf : GoodIn wsX11_net (wsV RX11 234 RX11 yX11_positionOf wsX11_positionOf) := goodIn_app (goodIn_of _ (by decide +kernel)) ggX11_net_X11_positionOf
set_option maxRecDepth 20000 in
theorem ggX11_net_X11_is : GoodIn wsX11_net wsX11_is := goodIn_r _ [13, 14, 15, 16, 8, 17, 4, 53, 54, 55, 56, 57, 58, 59, 60, 61, 62, 63, 64, 65, 66, 67, 68, 69, 70, 71, 72, 73, 74, 75, 76] (by decide +kernel) (by decide +kernel)
set_option maxRecDepth 20000 in
theorem gX11_net_X11_is : GoodIn wsX11_net (wsV RX11 201 RX11 yX11_is wsX11_is) := goodIn_app (goodIn_of _ (by decide +kernel)) ggX11_net_X11_is
set_option maxRecDepth 20000 in
theorem ggX11_net_X11_of : GoodIn wsX11_net wsX11_of := goodIn_r _ [17, 4, 53, 54, 55, 56, 57, 58, 59, 60, 61, 62, 63, 64, 65, 66, 67, 68, 69, 70, 71, 72, 73, 74, 75, 76] (by decide +kernel) (by decide +kernel)
set_option maxRecDepth 20000 in
theorem gX11_net_X11_of : GoodIn wsX11_net (wsV RX11 169 RX11 yX11_of wsX11_of) := goodIn_app (goodIn_of _ (by decide +kernel)) ggX11_net_X11_of
set_option maxRecDepth 20000 in
theorem ggX11_net_X11_differenceOf : GoodIn wsX11_net wsX11_differenceOf := goodIn_r _ [48, 36, 37, 38, 8, 39, 3, 40, 14, 15, 16, 17, 4, 41, 42, 43, 44, 2, 53, 54, 55, 56, 57, 58, 59, 60, 61, 62, 63, 64, 65, 66, 67, 68, 69, 70, 71, 72, 73, 74, 75, 76] (by decide +kernel) (by decide +kernel)
set_option maxRecDepth 20000 in
theorem gX11_net_X11_differenceOf : GoodIn wsX11_net (wsV RX11 195 RX11 yX11_differenceOf wsX11_differenceOf) := goodIn_app (goodIn_of _ (by decide +kernel)) ggX11_net_X11_differenceOf
set_option maxRecDepth 20000 in
theorem ggX11_net_X11_valueOf : GoodIn wsX11_net wsX11_valueOf := goodIn_r _ [39, 3, 40, 14, 15, 16, 8, 17, 4, 41, 42, 43, 44, 2, 53, 54, 55, 56, 57, 58, 59, 60, 61, 62, 63, 64, 65, 66, 67, 68, 69, 70, 71, 72, 73, 74, 75, 76] (by decide +kernel) (by decide +kernel)
set_option maxRecDepth 20000 in
theorem gX11_net_X11_valueOf : GoodIn wsX11_net (wsV RX11 191 RX11 yX11_valueOf wsX11_valueOf) := goodIn_app (goodIn_of _ (by decide +kernel)) ggX11_net_X11_valueOf
set_option maxRecDepth 20000 in
theorem ggX11_net_X11_put : GoodIn wsX11_net wsX11_put := goodIn_r _ [52, 4, 53, 54, 55, 56, 57, 58, 59, 60, 61, 62, 63, 64, 65, 66, 67, 68, 69, 70, 71, 72, 73, 74, 75, 76] (by decide +kernel) (by decide +kernel)
set_option maxRecDepth 20000 in
theorem gX11_net_X11_put : GoodIn wsX11_net (wsV RX11 278 RX11 yX11_put wsX11_put) := goodIn_app (goodIn_of _ (by decide +kernel)) ggX11_net_X11_put
theorem dX11_net_0 : decode cX11_net 0 = .ok (.aload_n 0, 1) := by decide +kernel
theorem dX11_net_1 : decode cX11_net 1 = .ok (.iconst 0, 1) := by decide +kernel
theorem dX11_net_2 : decode cX11_net 2 = .ok (.putfield 58, 3) := by decide +kernel
theorem dX11_net_5 : decode cX11_net 5 = .ok (.aload_n 0, 1) := by decide +kernel
theorem dX11_net_6 : decode cX11_net 6 = .ok (.iconst 1, 1) := by decide +kernel
theorem dX11_net_7 : decode cX11_net 7 = .ok (.invokevirtual 220, 3) := by decide +kernel
theorem dX11_net_10 : decode cX11_net 10 = .ok (.ifCond .ne 9, 3) := by decide +kernel
theorem dX11_net_13 : decode cX11_net 13 = .ok (.aload_n 0, 1) := by decide +kernel
theorem dX11_net_14 : decode cX11_net 14 = .ok (.iconst 1, 1) := by decide +kernel
theorem dX11_net_15 : decode cX11_net 15 = .ok (.invokevirtual 159, 3) := by decide +kernel
theorem dX11_net_18 : decode cX11_net 18 = .ok (.ireturn, 1) := by decide +kernel
theorem dX11_net_19 : decode cX11_net 19 = .ok (.aload_n 0, 1) := by decide +kernel
theorem dX11_net_20 : decode cX11_net 20 = .ok (.invokevirtual 275, 3) := by decide +kernel
theorem dX11_net_23 : decode cX11_net 23 = .ok (.iconst 0, 1) := by decide +kernel
theorem dX11_net_24 : decode cX11_net 24 = .ok (.istore_n 1, 1) := by decide +kernel
theorem dX11_net_25 : decode cX11_net 25 = .ok (.iconst 0, 1) := by decide +kernel
theorem dX11_net_26 : decode cX11_net 26 = .ok (.istore_n 2, 1) := by decide +kernel
theorem dX11_net_27 : decode cX11_net 27 = .ok (.iload_n 2, 1) := by decide +kernel
theorem dX11_net_28 : decode cX11_net 28 = .ok (.aload_n 0, 1) := by decide +kernel
theorem dX11_net_29 : decode cX11_net 29 = .ok (.getfield 17, 3) := by decide +kernel
theorem dX11_net_32 : decode cX11_net 32 = .ok (.iconst 1, 1) := by decide +kernel
theorem dX11_net_33 : decode cX11_net 33 = .ok (.iaload, 1) := by decide +kernel
theorem dX11_net_34 : decode cX11_net 34 = .ok (.if_icmp .ge 45, 3) := by decide +kernel
theorem dX11_net_37 : decode cX11_net 37 = .ok (.aload_n 0, 1) := by decide +kernel
theorem dX11_net_38 : decode cX11_net 38 = .ok (.getfield 23, 3) := by decide +kernel
theorem dX11_net_41 : decode cX11_net 41 = .ok (.iconst 3, 1) := by decide +kernel
theorem dX11_net_42 : decode cX11_net 42 = .ok (.iload_n 2, 1) := by decide +kernel
theorem dX11_net_43 : decode cX11_net 43 = .ok (.iadd, 1) := by decide +kernel
theorem dX11_net_44 : decode cX11_net 44 = .ok (.aload_n 0, 1) := by decide +kernel
theorem dX11_net_45 : decode cX11_net 45 = .ok (.iload_n 2, 1) := by decide +kernel
theorem dX11_net_46 : decode cX11_net 46 = .ok (.invokevirtual 234, 3) := by decide +kernel
theorem dX11_net_49 : decode cX11_net 49 = .ok (.lastore, 1) := by decide +kernel
theorem dX11_net_50 : decode cX11_net 50 = .ok (.iload_n 2, 1) := by decide +kernel
theorem dX11_net_51 : decode cX11_net 51 = .ok (.aload_n 0, 1) := by decide +kernel
theorem dX11_net_52 : decode cX11_net 52 = .ok (.getfield 17, 3) := by decide +kernel
theorem dX11_net_55 : decode cX11_net 55 = .ok (.iconst 4, 1) := by decide +kernel
theorem dX11_net_56 : decode cX11_net 56 = .ok (.iaload, 1) := by decide +kernel
theorem dX11_net_57 : decode cX11_net 57 = .ok (.if_icmp .eq 16, 3) := by decide +kernel
theorem dX11_net_60 : decode cX11_net 60 = .ok (.aload_n 0, 1) := by decide +kernel
theorem dX11_net_61 : decode cX11_net 61 = .ok (.iload_n 2, 1) := by decide +kernel
theorem dX11_net_62 : decode cX11_net 62 = .ok (.invokevirtual 234, 3) := by decide +kernel
theorem dX11_net_65 : decode cX11_net 65 = .ok (.lconst 0, 1) := by decide +kernel
theorem dX11_net_66 : decode cX11_net 66 = .ok (.lcmp, 1) := by decide +kernel
theorem dX11_net_67 : decode cX11_net 67 = .ok (.ifCond .eq 6, 3) := by decide +kernel
theorem dX11_net_70 : decode cX11_net 70 = .ok (.iinc 1 1, 3) := by decide +kernel
theorem dX11_net_73 : decode cX11_net 73 = .ok (.iinc 2 1, 3) := by decide +kernel
theorem dX11_net_76 : decode cX11_net 76 = .ok (.goto (-49), 3) := by decide +kernel
theorem dX11_net_79 : decode cX11_net 79 = .ok (.aload_n 0, 1) := by decide +kernel
theorem dX11_net_80 : decode cX11_net 80 = .ok (.getfield 23, 3) := by decide +kernel
theorem dX11_net_83 : decode cX11_net 83 = .ok (.iconst 1, 1) := by decide +kernel
theorem dX11_net_84 : decode cX11_net 84 = .ok (.dup2, 1) := by decide +kernel
theorem dX11_net_85 : decode cX11_net 85 = .ok (.laload, 1) := by decide +kernel
theorem dX11_net_86 : decode cX11_net 86 = .ok (.iload_n 1, 1) := by decide +kernel
theorem dX11_net_87 : decode cX11_net 87 = .ok (.i2l, 1) := by decide +kernel
theorem dX11_net_88 : decode cX11_net 88 = .ok (.aload_n 0, 1) := by decide +kernel
theorem dX11_net_89 : decode cX11_net 89 = .ok (.getfield 17, 3) := by decide +kernel
theorem dX11_net_92 : decode cX11_net 92 = .ok (.iconst 5, 1) := by decide +kernel
theorem dX11_net_93 : decode cX11_net 93 = .ok (.iaload, 1) := by decide +kernel
theorem dX11_net_94 : decode cX11_net 94 = .ok (.i2l, 1) := by decide +kernel
theorem dX11_net_95 : decode cX11_net 95 = .ok (.lmul, 1) := by decide +kernel
theorem dX11_net_96 : decode cX11_net 96 = .ok (.ladd, 1) := by decide +kernel
theorem dX11_net_97 : decode cX11_net 97 = .ok (.lastore, 1) := by decide +kernel
theorem dX11_net_98 : decode cX11_net 98 = .ok (.iconst 0, 1) := by decide +kernel
theorem dX11_net_99 : decode cX11_net 99 = .ok (.istore_n 2, 1) := by decide +kernel
theorem dX11_net_100 : decode cX11_net 100 = .ok (.iload_n 2, 1) := by decide +kernel
theorem dX11_net_101 : decode cX11_net 101 = .ok (.aload_n 0, 1) := by decide +kernel
theorem dX11_net_102 : decode cX11_net 102 = .ok (.getfield 20, 3) := by decide +kernel
theorem dX11_net_105 : decode cX11_net 105 = .ok (.iconst 0, 1) := by decide +kernel
theorem dX11_net_106 : decode cX11_net 106 = .ok (.iaload, 1) := by decide +kernel
theorem dX11_net_107 : decode cX11_net 107 = .ok (.if_icmp .ge 87, 3) := by decide +kernel
theorem dX11_net_110 : decode cX11_net 110 = .ok (.aload_n 0, 1) := by decide +kernel
theorem dX11_net_111 : decode cX11_net 111 = .ok (.iload_n 2, 1) := by decide +kernel
theorem dX11_net_112 : decode cX11_net 112 = .ok (.iconst 0, 1) := by decide +kernel
theorem dX11_net_113 : decode cX11_net 113 = .ok (.iconst 1, 1) := by decide +kernel
theorem dX11_net_114 : decode cX11_net 114 = .ok (.invokevirtual 201, 3) := by decide +kernel
theorem dX11_net_117 : decode cX11_net 117 = .ok (.ifCond .ne 6, 3) := by decide +kernel
theorem dX11_net_120 : decode cX11_net 120 = .ok (.goto 68, 3) := by decide +kernel
theorem dX11_net_123 : decode cX11_net 123 = .ok (.aload_n 0, 1) := by decide +kernel
theorem dX11_net_124 : decode cX11_net 124 = .ok (.iload_n 2, 1) := by decide +kernel
theorem dX11_net_125 : decode cX11_net 125 = .ok (.iconst 5, 1) := by decide +kernel
theorem dX11_net_126 : decode cX11_net 126 = .ok (.invokevirtual 169, 3) := by decide +kernel
theorem dX11_net_129 : decode cX11_net 129 = .ok (.istore_n 3, 1) := by decide +kernel
theorem dX11_net_130 : decode cX11_net 130 = .ok (.aload_n 0, 1) := by decide +kernel
theorem dX11_net_131 : decode cX11_net 131 = .ok (.getfield 23, 3) := by decide +kernel
theorem dX11_net_134 : decode cX11_net 134 = .ok (.iconst 0, 1) := by decide +kernel
theorem dX11_net_135 : decode cX11_net 135 = .ok (.dup2, 1) := by decide +kernel
theorem dX11_net_136 : decode cX11_net 136 = .ok (.laload, 1) := by decide +kernel
theorem dX11_net_137 : decode cX11_net 137 = .ok (.aload_n 0, 1) := by decide +kernel
theorem dX11_net_138 : decode cX11_net 138 = .ok (.iload_n 2, 1) := by decide +kernel
theorem dX11_net_139 : decode cX11_net 139 = .ok (.invokevirtual 195, 3) := by decide +kernel
theorem dX11_net_142 : decode cX11_net 142 = .ok (.ladd, 1) := by decide +kernel
theorem dX11_net_143 : decode cX11_net 143 = .ok (.lastore, 1) := by decide +kernel
theorem dX11_net_144 : decode cX11_net 144 = .ok (.aload_n 0, 1) := by decide +kernel
theorem dX11_net_145 : decode cX11_net 145 = .ok (.getfield 23, 3) := by decide +kernel
theorem dX11_net_148 : decode cX11_net 148 = .ok (.sipush 209, 3) := by decide +kernel
theorem dX11_net_151 : decode cX11_net 151 = .ok (.iload_n 2, 1) := by decide +kernel
theorem dX11_net_152 : decode cX11_net 152 = .ok (.iadd, 1) := by decide +kernel
theorem dX11_net_153 : decode cX11_net 153 = .ok (.aload_n 0, 1) := by decide +kernel
theorem dX11_net_154 : decode cX11_net 154 = .ok (.iload_n 2, 1) := by decide +kernel
theorem dX11_net_155 : decode cX11_net 155 = .ok (.invokevirtual 191, 3) := by decide +kernel
theorem dX11_net_158 : decode cX11_net 158 = .ok (.lastore, 1) := by decide +kernel
theorem dX11_net_159 : decode cX11_net 159 = .ok (.aload_n 0, 1) := by decide +kernel
theorem dX11_net_160 : decode cX11_net 160 = .ok (.getfield 23, 3) := by decide +kernel
theorem dX11_net_163 : decode cX11_net 163 = .ok (.sipush 209, 3) := by decide +kernel
theorem dX11_net_166 : decode cX11_net 166 = .ok (.iload_n 3, 1) := by decide +kernel
theorem dX11_net_167 : decode cX11_net 167 = .ok (.iadd, 1) := by decide +kernel
theorem dX11_net_168 : decode cX11_net 168 = .ok (.aload_n 0, 1) := by decide +kernel
theorem dX11_net_169 : decode cX11_net 169 = .ok (.iload_n 3, 1) := by decide +kernel
theorem dX11_net_170 : decode cX11_net 170 = .ok (.invokevirtual 191, 3) := by decide +kernel
theorem dX11_net_173 : decode cX11_net 173 = .ok (.lastore, 1) := by decide +kernel
theorem dX11_net_174 : decode cX11_net 174 = .ok (.aload_n 0, 1) := by decide +kernel
theorem dX11_net_175 : decode cX11_net 175 = .ok (.iload_n 2, 1) := by decide +kernel
theorem dX11_net_176 : decode cX11_net 176 = .ok (.iconst 4, 1) := by decide +kernel
theorem dX11_net_177 : decode cX11_net 177 = .ok (.iconst 3, 1) := by decide +kernel
theorem dX11_net_178 : decode cX11_net 178 = .ok (.invokevirtual 278, 3) := by decide +kernel
theorem dX11_net_181 : decode cX11_net 181 = .ok (.aload_n 0, 1) := by decide +kernel
theorem dX11_net_182 : decode cX11_net 182 = .ok (.iload_n 3, 1) := by decide +kernel
theorem dX11_net_183 : decode cX11_net 183 = .ok (.iconst 4, 1) := by decide +kernel
theorem dX11_net_184 : decode cX11_net 184 = .ok (.iconst 3, 1) := by decide +kernel
theorem dX11_net_185 : decode cX11_net 185 = .ok (.invokevirtual 278, 3) := by decide +kernel
theorem dX11_net_188 : decode cX11_net 188 = .ok (.iinc 2 1, 3) := by decide +kernel
theorem dX11_net_191 : decode cX11_net 191 = .ok (.goto (-91), 3) := by decide +kernel
theorem dX11_net_194 : decode cX11_net 194 = .ok (.iload_n 1, 1) := by decide +kernel
theorem dX11_net_195 : decode cX11_net 195 = .ok (.ireturn, 1) := by decide +kernel
set_option maxRecDepth 20000 in
theorem ggX11_takes_X11_isLotOf : GoodIn wsX11_takes wsX11_isLotOf := goodIn_r _ [7, 8, 9, 10, 6, 11, 2, 12, 13, 14, 15, 16, 17, 18, 19, 20, 21, 22, 23, 24, 25, 26, 27, 28, 29, 30, 31, 32, 33, 34, 35] (by decide +kernel) (by decide +kernel)
set_option maxRecDepth 20000 in
theorem gX11_takes_X11_isLotOf : GoodIn wsX11_takes (wsV RX11 247 RX11 yX11_isLotOf wsX11_isLotOf) := goodIn_app (goodIn_of _ (by decide +kernel)) ggX11_takes_X11_isLotOf
set_option maxRecDepth 20000 in
theorem ggX11_takes_X11_lot : GoodIn wsX11_takes wsX11_lot := goodIn_r _ [11, 2, 12, 13, 14, 15, 16, 17, 18, 19, 20, 21, 22, 23, 24, 25, 26, 27, 28, 29, 30, 31, 32, 33, 34, 35] (by decide +kernel) (by decide +kernel)
set_option maxRecDepth 20000 in
theorem gX11_takes_X11_lot : GoodIn wsX11_takes (wsV RX11 244 RX11 yX11_lot wsX11_lot) := goodIn_app (goodIn_of _ (by decide +kernel)) ggX11_takes_X11_lot
theorem dX11_takes_0 : decode cX11_takes 0 = .ok (.aload_n 0, 1) := by decide +kernel
theorem dX11_takes_1 : decode cX11_takes 1 = .ok (.getfield 17, 3) := by decide +kernel
theorem dX11_takes_4 : decode cX11_takes 4 = .ok (.bipush 16, 2) := by decide +kernel
theorem dX11_takes_6 : decode cX11_takes 6 = .ok (.iload_n 2, 1) := by decide +kernel
theorem dX11_takes_7 : decode cX11_takes 7 = .ok (.iadd, 1) := by decide +kernel
theorem dX11_takes_8 : decode cX11_takes 8 = .ok (.iaload, 1) := by decide +kernel
theorem dX11_takes_9 : decode cX11_takes 9 = .ok (.iload_n 1, 1) := by decide +kernel
theorem dX11_takes_10 : decode cX11_takes 10 = .ok (.if_icmp .ne 7, 3) := by decide +kernel
theorem dX11_takes_13 : decode cX11_takes 13 = .ok (.iconst 0, 1) := by decide +kernel
theorem dX11_takes_14 : decode cX11_takes 14 = .ok (.goto 4, 3) := by decide +kernel
theorem dX11_takes_17 : decode cX11_takes 17 = .ok (.iload_n 3, 1) := by decide +kernel
theorem dX11_takes_18 : decode cX11_takes 18 = .ok (.istore 4, 2) := by decide +kernel
theorem dX11_takes_20 : decode cX11_takes 20 = .ok (.iconst 0, 1) := by decide +kernel
theorem dX11_takes_21 : decode cX11_takes 21 = .ok (.istore 5, 2) := by decide +kernel
theorem dX11_takes_23 : decode cX11_takes 23 = .ok (.iconst 0, 1) := by decide +kernel
theorem dX11_takes_24 : decode cX11_takes 24 = .ok (.istore 6, 2) := by decide +kernel
theorem dX11_takes_26 : decode cX11_takes 26 = .ok (.iload 6, 2) := by decide +kernel
theorem dX11_takes_28 : decode cX11_takes 28 = .ok (.aload_n 0, 1) := by decide +kernel
theorem dX11_takes_29 : decode cX11_takes 29 = .ok (.getfield 20, 3) := by decide +kernel
theorem dX11_takes_32 : decode cX11_takes 32 = .ok (.iconst 1, 1) := by decide +kernel
theorem dX11_takes_33 : decode cX11_takes 33 = .ok (.iaload, 1) := by decide +kernel
theorem dX11_takes_34 : decode cX11_takes 34 = .ok (.if_icmp .ge 127, 3) := by decide +kernel
theorem dX11_takes_37 : decode cX11_takes 37 = .ok (.aload_n 0, 1) := by decide +kernel
theorem dX11_takes_38 : decode cX11_takes 38 = .ok (.iload 6, 2) := by decide +kernel
theorem dX11_takes_40 : decode cX11_takes 40 = .ok (.iload_n 1, 1) := by decide +kernel
theorem dX11_takes_41 : decode cX11_takes 41 = .ok (.iload_n 2, 1) := by decide +kernel
theorem dX11_takes_42 : decode cX11_takes 42 = .ok (.invokevirtual 247, 3) := by decide +kernel
theorem dX11_takes_45 : decode cX11_takes 45 = .ok (.ifCond .ne 7, 3) := by decide +kernel
theorem dX11_takes_48 : decode cX11_takes 48 = .ok (.iconst 0, 1) := by decide +kernel
theorem dX11_takes_49 : decode cX11_takes 49 = .ok (.goto 27, 3) := by decide +kernel
theorem dX11_takes_52 : decode cX11_takes 52 = .ok (.aload_n 0, 1) := by decide +kernel
theorem dX11_takes_53 : decode cX11_takes 53 = .ok (.iload 6, 2) := by decide +kernel
theorem dX11_takes_55 : decode cX11_takes 55 = .ok (.iconst 2, 1) := by decide +kernel
theorem dX11_takes_56 : decode cX11_takes 56 = .ok (.invokevirtual 244, 3) := by decide +kernel
theorem dX11_takes_59 : decode cX11_takes 59 = .ok (.iload 4, 2) := by decide +kernel
theorem dX11_takes_61 : decode cX11_takes 61 = .ok (.if_icmp .ge 13, 3) := by decide +kernel
theorem dX11_takes_64 : decode cX11_takes 64 = .ok (.aload_n 0, 1) := by decide +kernel
theorem dX11_takes_65 : decode cX11_takes 65 = .ok (.iload 6, 2) := by decide +kernel
theorem dX11_takes_67 : decode cX11_takes 67 = .ok (.iconst 2, 1) := by decide +kernel
theorem dX11_takes_68 : decode cX11_takes 68 = .ok (.invokevirtual 244, 3) := by decide +kernel
theorem dX11_takes_71 : decode cX11_takes 71 = .ok (.goto 5, 3) := by decide +kernel
theorem dX11_takes_74 : decode cX11_takes 74 = .ok (.iload 4, 2) := by decide +kernel
theorem dX11_takes_76 : decode cX11_takes 76 = .ok (.istore 7, 2) := by decide +kernel
theorem dX11_takes_78 : decode cX11_takes 78 = .ok (.iload 4, 2) := by decide +kernel
theorem dX11_takes_80 : decode cX11_takes 80 = .ok (.iload 7, 2) := by decide +kernel
theorem dX11_takes_82 : decode cX11_takes 82 = .ok (.isub, 1) := by decide +kernel
theorem dX11_takes_83 : decode cX11_takes 83 = .ok (.istore 4, 2) := by decide +kernel
theorem dX11_takes_85 : decode cX11_takes 85 = .ok (.aload_n 0, 1) := by decide +kernel
theorem dX11_takes_86 : decode cX11_takes 86 = .ok (.iload 6, 2) := by decide +kernel
theorem dX11_takes_88 : decode cX11_takes 88 = .ok (.iconst 2, 1) := by decide +kernel
theorem dX11_takes_89 : decode cX11_takes 89 = .ok (.invokevirtual 244, 3) := by decide +kernel
theorem dX11_takes_92 : decode cX11_takes 92 = .ok (.iload 7, 2) := by decide +kernel
theorem dX11_takes_94 : decode cX11_takes 94 = .ok (.if_icmp .ne 6, 3) := by decide +kernel
theorem dX11_takes_97 : decode cX11_takes 97 = .ok (.goto 58, 3) := by decide +kernel
theorem dX11_takes_100 : decode cX11_takes 100 = .ok (.iconst 0, 1) := by decide +kernel
theorem dX11_takes_101 : decode cX11_takes 101 = .ok (.istore 8, 2) := by decide +kernel
theorem dX11_takes_103 : decode cX11_takes 103 = .ok (.iload 8, 2) := by decide +kernel
theorem dX11_takes_105 : decode cX11_takes 105 = .ok (.iconst 4, 1) := by decide +kernel
theorem dX11_takes_106 : decode cX11_takes 106 = .ok (.if_icmp .ge 46, 3) := by decide +kernel
theorem dX11_takes_109 : decode cX11_takes 109 = .ok (.aload_n 0, 1) := by decide +kernel
theorem dX11_takes_110 : decode cX11_takes 110 = .ok (.getfield 20, 3) := by decide +kernel
theorem dX11_takes_113 : decode cX11_takes 113 = .ok (.sipush 608, 3) := by decide +kernel
theorem dX11_takes_116 : decode cX11_takes 116 = .ok (.iconst 4, 1) := by decide +kernel
theorem dX11_takes_117 : decode cX11_takes 117 = .ok (.iload 5, 2) := by decide +kernel
theorem dX11_takes_119 : decode cX11_takes 119 = .ok (.imul, 1) := by decide +kernel
theorem dX11_takes_120 : decode cX11_takes 120 = .ok (.iadd, 1) := by decide +kernel
theorem dX11_takes_121 : decode cX11_takes 121 = .ok (.iload 8, 2) := by decide +kernel
theorem dX11_takes_123 : decode cX11_takes 123 = .ok (.iadd, 1) := by decide +kernel
