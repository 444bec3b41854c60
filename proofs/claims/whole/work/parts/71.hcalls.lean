set_option maxRecDepth 20000 in
theorem ggL_parse_X10_parse : GoodIn wsL_parse wsX10_parse := goodIn_ca (goodIn_r _ [6, 7, 8, 9, 10, 11, 12, 13, 14, 15, 16, 17, 18, 19, 20, 21, 22, 23, 24, 25, 26, 27, 28, 29, 30, 31, 32, 33, 34, 35, 36, 37, 38, 39, 40, 41, 42, 43, 44, 45, 46, 47, 48, 49, 50, 51, 52, 53, 54, 55, 56, 57, 58, 59, 60, 61, 62, 63, 64, 65, 66, 67, 68, 69, 70, 71, 72, 73, 74, 75, 76, 77, 78, 79, 80, 81, 82, 83, 84, 85, 86, 87, 88, 89, 90, 91, 92, 93, 94, 95, 96, 97, 98, 99, 100, 101, 102, 103, 104, 105, 106, 107, 108, 109, 110, 111, 112, 113, 114, 115, 116, 117, 118, 119, 120, 121, 122, 123, 124, 125, 126, 127, 128, 129, 130, 131, 132, 133, 134, 135, 136, 137, 138, 139, 140, 141, 142, 143, 144, 145, 146, 147, 148, 149, 150, 151, 152, 153, 154, 155, 156, 157, 158, 159, 160, 161, 162, 163, 164, 165, 166, 167, 168, 169, 170, 171, 172, 173, 174, 175, 176, 177, 178, 179, 180, 181, 182, 183, 184, 185, 186, 187, 188, 189, 190, 191, 192, 193, 194, 195, 196, 197, 198, 199, 200, 201, 202, 203, 204, 205, 206, 207, 208, 209, 210, 211, 212, 213, 214, 215, 216, 217, 218, 219, 220, 221, 222, 223, 224, 225, 226, 227, 228, 229, 230, 231, 232, 233, 234, 235, 236, 237, 238, 239, 240, 241, 242, 243, 244, 245, 246, 247, 248, 249, 250, 251, 252, 253, 254, 255, 256, 257, 258, 259, 260, 261, 262] (by decide +kernel) (by decide +kernel)) (goodIn_sub (fun _ h => List.mem_cons_of_mem _ (List.mem_append_right _ h)) (by decide +kernel))
set_option maxRecDepth 20000 in
theorem gL_parse_X10_parse : GoodIn wsL_parse (wsV RL 7 RX10 yX10_parse wsX10_parse) := goodIn_app (goodIn_of _ (by decide +kernel)) ggL_parse_X10_parse
theorem dL_parse_0 : decode cL_parse 0 = .ok (.aload_n 2, 1) := by decide +kernel
theorem dL_parse_1 : decode cL_parse 1 = .ok (.iconst 0, 1) := by decide +kernel
theorem dL_parse_2 : decode cL_parse 2 = .ok (.aload_n 0, 1) := by decide +kernel
theorem dL_parse_3 : decode cL_parse 3 = .ok (.iload_n 1, 1) := by decide +kernel
theorem dL_parse_4 : decode cL_parse 4 = .ok (.invokevirtual 7, 3) := by decide +kernel
theorem dL_parse_7 : decode cL_parse 7 = .ok (.i2l, 1) := by decide +kernel
theorem dL_parse_8 : decode cL_parse 8 = .ok (.lastore, 1) := by decide +kernel
theorem dL_parse_9 : decode cL_parse 9 = .ok (.goto 6, 3) := by decide +kernel
theorem dL_parse_12 : decode cL_parse 12 = .ok (.astore_n 3, 1) := by decide +kernel
theorem dL_parse_13 : decode cL_parse 13 = .ok (.iconst 1, 1) := by decide +kernel
theorem dL_parse_14 : decode cL_parse 14 = .ok (.ireturn, 1) := by decide +kernel
theorem dL_parse_15 : decode cL_parse 15 = .ok (.iconst 0, 1) := by decide +kernel
theorem dL_parse_16 : decode cL_parse 16 = .ok (.ireturn, 1) := by decide +kernel
set_option maxRecDepth 20000 in
theorem ggL_size_X10_size : GoodIn wsL_size wsX10_size := goodIn_ca (goodIn_r _ [6, 7, 8, 9, 10, 11, 12, 13, 14, 15, 16, 17, 18, 19, 20, 21, 22, 23, 24, 25, 26, 27, 28, 29, 30, 31, 32, 33, 34, 35, 36, 37, 38, 39, 40, 41, 42, 43, 44, 45, 46, 47, 48, 49, 50, 51, 52] (by decide +kernel) (by decide +kernel)) (goodIn_sub (fun _ h => List.mem_cons_of_mem _ (List.mem_append_right _ h)) (by decide +kernel))
set_option maxRecDepth 20000 in
theorem gL_size_X10_size : GoodIn wsL_size (wsV RL 15 RX10 yX10_size wsX10_size) := goodIn_app (goodIn_of _ (by decide +kernel)) ggL_size_X10_size
theorem dL_size_0 : decode cL_size 0 = .ok (.aload_n 2, 1) := by decide +kernel
theorem dL_size_1 : decode cL_size 1 = .ok (.iconst 0, 1) := by decide +kernel
theorem dL_size_2 : decode cL_size 2 = .ok (.aload_n 0, 1) := by decide +kernel
theorem dL_size_3 : decode cL_size 3 = .ok (.iload_n 1, 1) := by decide +kernel
theorem dL_size_4 : decode cL_size 4 = .ok (.invokevirtual 15, 3) := by decide +kernel
theorem dL_size_7 : decode cL_size 7 = .ok (.i2l, 1) := by decide +kernel
theorem dL_size_8 : decode cL_size 8 = .ok (.lastore, 1) := by decide +kernel
theorem dL_size_9 : decode cL_size 9 = .ok (.goto 6, 3) := by decide +kernel
theorem dL_size_12 : decode cL_size 12 = .ok (.astore_n 3, 1) := by decide +kernel
theorem dL_size_13 : decode cL_size 13 = .ok (.iconst 1, 1) := by decide +kernel
theorem dL_size_14 : decode cL_size 14 = .ok (.ireturn, 1) := by decide +kernel
theorem dL_size_15 : decode cL_size 15 = .ok (.iconst 0, 1) := by decide +kernel
theorem dL_size_16 : decode cL_size 16 = .ok (.ireturn, 1) := by decide +kernel
set_option maxRecDepth 20000 in
theorem ggL_rate_X10_rate : GoodIn wsL_rate wsX10_rate := goodIn_ca (goodIn_r _ [6, 7, 8, 9, 10, 11, 12, 5, 13, 14, 15, 16, 17, 18, 19, 20, 21, 22, 23, 24, 25, 26, 27, 28, 29, 30, 31, 32, 33, 34, 35, 36, 37, 38, 39, 40, 41, 42, 43, 44, 45, 46, 47, 48, 49, 50, 51, 52, 53] (by decide +kernel) (by decide +kernel)) (goodIn_sub (fun _ h => List.mem_cons_of_mem _ (List.mem_append_right _ h)) (by decide +kernel))
set_option maxRecDepth 20000 in
theorem gL_rate_X10_rate : GoodIn wsL_rate (wsV RL 18 RX10 yX10_rate wsX10_rate) := goodIn_app (goodIn_of _ (by decide +kernel)) ggL_rate_X10_rate
theorem dL_rate_0 : decode cL_rate 0 = .ok (.aload_n 2, 1) := by decide +kernel
theorem dL_rate_1 : decode cL_rate 1 = .ok (.iconst 0, 1) := by decide +kernel
theorem dL_rate_2 : decode cL_rate 2 = .ok (.aload_n 0, 1) := by decide +kernel
theorem dL_rate_3 : decode cL_rate 3 = .ok (.iload_n 1, 1) := by decide +kernel
theorem dL_rate_4 : decode cL_rate 4 = .ok (.invokevirtual 18, 3) := by decide +kernel
theorem dL_rate_7 : decode cL_rate 7 = .ok (.i2l, 1) := by decide +kernel
theorem dL_rate_8 : decode cL_rate 8 = .ok (.lastore, 1) := by decide +kernel
theorem dL_rate_9 : decode cL_rate 9 = .ok (.goto 6, 3) := by decide +kernel
theorem dL_rate_12 : decode cL_rate 12 = .ok (.astore_n 3, 1) := by decide +kernel
theorem dL_rate_13 : decode cL_rate 13 = .ok (.iconst 1, 1) := by decide +kernel
theorem dL_rate_14 : decode cL_rate 14 = .ok (.ireturn, 1) := by decide +kernel
theorem dL_rate_15 : decode cL_rate 15 = .ok (.iconst 0, 1) := by decide +kernel
theorem dL_rate_16 : decode cL_rate 16 = .ok (.ireturn, 1) := by decide +kernel
set_option maxRecDepth 20000 in
theorem ggL_currencyOf_X10_currencyOf : GoodIn wsL_currencyOf wsX10_currencyOf := goodIn_ca (goodIn_r _ [6, 7, 8, 9, 10, 11, 12, 5, 13, 14, 15, 16, 17, 18, 19, 20, 21, 22, 23, 24, 25, 26, 27, 28, 29, 30, 31, 32, 33, 34, 35, 36, 37, 38] (by decide +kernel) (by decide +kernel)) (goodIn_sub (fun _ h => List.mem_cons_of_mem _ (List.mem_append_right _ h)) (by decide +kernel))
set_option maxRecDepth 20000 in
theorem gL_currencyOf_X10_currencyOf : GoodIn wsL_currencyOf (wsV RL 23 RX10 yX10_currencyOf wsX10_currencyOf) := goodIn_app (goodIn_of _ (by decide +kernel)) ggL_currencyOf_X10_currencyOf
theorem dL_currencyOf_0 : decode cL_currencyOf 0 = .ok (.aload_n 2, 1) := by decide +kernel
theorem dL_currencyOf_1 : decode cL_currencyOf 1 = .ok (.iconst 0, 1) := by decide +kernel
theorem dL_currencyOf_2 : decode cL_currencyOf 2 = .ok (.aload_n 0, 1) := by decide +kernel
theorem dL_currencyOf_3 : decode cL_currencyOf 3 = .ok (.iload_n 1, 1) := by decide +kernel
theorem dL_currencyOf_4 : decode cL_currencyOf 4 = .ok (.invokevirtual 23, 3) := by decide +kernel
theorem dL_currencyOf_7 : decode cL_currencyOf 7 = .ok (.i2l, 1) := by decide +kernel
theorem dL_currencyOf_8 : decode cL_currencyOf 8 = .ok (.lastore, 1) := by decide +kernel
theorem dL_currencyOf_9 : decode cL_currencyOf 9 = .ok (.goto 6, 3) := by decide +kernel
theorem dL_currencyOf_12 : decode cL_currencyOf 12 = .ok (.astore_n 3, 1) := by decide +kernel
theorem dL_currencyOf_13 : decode cL_currencyOf 13 = .ok (.iconst 1, 1) := by decide +kernel
theorem dL_currencyOf_14 : decode cL_currencyOf 14 = .ok (.ireturn, 1) := by decide +kernel
theorem dL_currencyOf_15 : decode cL_currencyOf 15 = .ok (.iconst 0, 1) := by decide +kernel
theorem dL_currencyOf_16 : decode cL_currencyOf 16 = .ok (.ireturn, 1) := by decide +kernel
set_option maxRecDepth 20000 in
theorem ggL_product_X10_product : GoodIn wsL_product wsX10_product := goodIn_ca (goodIn_ca (goodIn_r _ [7, 8, 9, 10, 11, 12, 13, 14, 15, 16, 17, 18, 6, 19, 20, 21, 22, 23, 24, 25, 26, 27, 28, 29, 30, 31, 32, 33, 34, 35, 36, 37, 38, 39, 40, 41, 42, 43, 44] (by decide +kernel) (by decide +kernel)) (goodIn_sub (fun _ h => List.mem_cons_of_mem _ (List.mem_append_left _ (List.mem_append_right _ h))) (by decide +kernel))) (goodIn_sub (fun _ h => List.mem_cons_of_mem _ (List.mem_append_right _ h)) (by decide +kernel))
set_option maxRecDepth 20000 in
theorem gL_product_X10_product : GoodIn wsL_product (wsV RL 26 RX10 yX10_product wsX10_product) := goodIn_app (goodIn_of _ (by decide +kernel)) ggL_product_X10_product
theorem dL_product_0 : decode cL_product 0 = .ok (.aload_n 3, 1) := by decide +kernel
theorem dL_product_1 : decode cL_product 1 = .ok (.iconst 0, 1) := by decide +kernel
theorem dL_product_2 : decode cL_product 2 = .ok (.aload_n 0, 1) := by decide +kernel
theorem dL_product_3 : decode cL_product 3 = .ok (.iload_n 1, 1) := by decide +kernel
theorem dL_product_4 : decode cL_product 4 = .ok (.iload_n 2, 1) := by decide +kernel
theorem dL_product_5 : decode cL_product 5 = .ok (.invokevirtual 26, 3) := by decide +kernel
theorem dL_product_8 : decode cL_product 8 = .ok (.i2l, 1) := by decide +kernel
theorem dL_product_9 : decode cL_product 9 = .ok (.lastore, 1) := by decide +kernel
theorem dL_product_10 : decode cL_product 10 = .ok (.goto 11, 3) := by decide +kernel
theorem dL_product_13 : decode cL_product 13 = .ok (.astore 4, 2) := by decide +kernel
theorem dL_product_15 : decode cL_product 15 = .ok (.iconst 1, 1) := by decide +kernel
theorem dL_product_16 : decode cL_product 16 = .ok (.ireturn, 1) := by decide +kernel
theorem dL_product_17 : decode cL_product 17 = .ok (.astore 4, 2) := by decide +kernel
theorem dL_product_19 : decode cL_product 19 = .ok (.iconst 2, 1) := by decide +kernel
theorem dL_product_20 : decode cL_product 20 = .ok (.ireturn, 1) := by decide +kernel
theorem dL_product_21 : decode cL_product 21 = .ok (.iconst 0, 1) := by decide +kernel
theorem dL_product_22 : decode cL_product 22 = .ok (.ireturn, 1) := by decide +kernel
set_option maxRecDepth 20000 in
theorem ggL_item_X10_item : GoodIn wsL_item wsX10_item := goodIn_ca (goodIn_ca (goodIn_r _ [7, 8, 9, 10, 11, 12, 13, 14, 15, 16, 17, 18, 19, 20, 21, 6, 22, 23, 24, 25, 26, 27, 28, 29, 30, 31, 32, 33, 34, 35, 36, 37, 38, 39, 40, 41, 42, 43, 44, 45, 46, 47, 48, 49, 50, 51, 52, 53, 54, 55, 56, 57, 58] (by decide +kernel) (by decide +kernel)) (goodIn_sub (fun _ h => List.mem_cons_of_mem _ (List.mem_append_left _ (List.mem_append_right _ h))) (by decide +kernel))) (goodIn_sub (fun _ h => List.mem_cons_of_mem _ (List.mem_append_right _ h)) (by decide +kernel))
set_option maxRecDepth 20000 in
theorem gL_item_X10_item : GoodIn wsL_item (wsV RL 30 RX10 yX10_item wsX10_item) := goodIn_app (goodIn_of _ (by decide +kernel)) ggL_item_X10_item
theorem dL_item_0 : decode cL_item 0 = .ok (.aload_n 3, 1) := by decide +kernel
theorem dL_item_1 : decode cL_item 1 = .ok (.iconst 0, 1) := by decide +kernel
theorem dL_item_2 : decode cL_item 2 = .ok (.aload_n 0, 1) := by decide +kernel
theorem dL_item_3 : decode cL_item 3 = .ok (.iload_n 1, 1) := by decide +kernel
theorem dL_item_4 : decode cL_item 4 = .ok (.iload_n 2, 1) := by decide +kernel
theorem dL_item_5 : decode cL_item 5 = .ok (.invokevirtual 30, 3) := by decide +kernel
theorem dL_item_8 : decode cL_item 8 = .ok (.i2l, 1) := by decide +kernel
theorem dL_item_9 : decode cL_item 9 = .ok (.lastore, 1) := by decide +kernel
theorem dL_item_10 : decode cL_item 10 = .ok (.goto 11, 3) := by decide +kernel
theorem dL_item_13 : decode cL_item 13 = .ok (.astore 4, 2) := by decide +kernel
theorem dL_item_15 : decode cL_item 15 = .ok (.iconst 1, 1) := by decide +kernel
theorem dL_item_16 : decode cL_item 16 = .ok (.ireturn, 1) := by decide +kernel
theorem dL_item_17 : decode cL_item 17 = .ok (.astore 4, 2) := by decide +kernel
theorem dL_item_19 : decode cL_item 19 = .ok (.iconst 2, 1) := by decide +kernel
theorem dL_item_20 : decode cL_item 20 = .ok (.ireturn, 1) := by decide +kernel
theorem dL_item_21 : decode cL_item 21 = .ok (.iconst 0, 1) := by decide +kernel
theorem dL_item_22 : decode cL_item 22 = .ok (.ireturn, 1) := by decide +kernel
set_option maxRecDepth 20000 in
theorem ggL_amount_X10_amount : GoodIn wsL_amount wsX10_amount := goodIn_ca (goodIn_r _ [6, 7, 8, 9, 10, 11, 12, 5, 13, 14, 15, 16, 17, 18, 19, 20, 21, 22, 23, 24, 25, 26, 27, 28, 29, 30, 31, 32, 33, 34, 35, 36, 37, 38, 39, 40] (by decide +kernel) (by decide +kernel)) (goodIn_sub (fun _ h => List.mem_cons_of_mem _ (List.mem_append_right _ h)) (by decide +kernel))
set_option maxRecDepth 20000 in
theorem gL_amount_X10_amount : GoodIn wsL_amount (wsV RL 33 RX10 yX10_amount wsX10_amount) := goodIn_app (goodIn_of _ (by decide +kernel)) ggL_amount_X10_amount
theorem dL_amount_0 : decode cL_amount 0 = .ok (.aload_n 2, 1) := by decide +kernel
theorem dL_amount_1 : decode cL_amount 1 = .ok (.iconst 0, 1) := by decide +kernel
theorem dL_amount_2 : decode cL_amount 2 = .ok (.aload_n 0, 1) := by decide +kernel
theorem dL_amount_3 : decode cL_amount 3 = .ok (.iload_n 1, 1) := by decide +kernel
theorem dL_amount_4 : decode cL_amount 4 = .ok (.invokevirtual 33, 3) := by decide +kernel
theorem dL_amount_7 : decode cL_amount 7 = .ok (.lastore, 1) := by decide +kernel
theorem dL_amount_8 : decode cL_amount 8 = .ok (.goto 6, 3) := by decide +kernel
theorem dL_amount_11 : decode cL_amount 11 = .ok (.astore_n 3, 1) := by decide +kernel
theorem dL_amount_12 : decode cL_amount 12 = .ok (.iconst 1, 1) := by decide +kernel
theorem dL_amount_13 : decode cL_amount 13 = .ok (.ireturn, 1) := by decide +kernel
theorem dL_amount_14 : decode cL_amount 14 = .ok (.iconst 0, 1) := by decide +kernel
theorem dL_amount_15 : decode cL_amount 15 = .ok (.ireturn, 1) := by decide +kernel
set_option maxRecDepth 20000 in
theorem ggL_value_X10_value : GoodIn wsL_value wsX10_value := goodIn_ca (goodIn_r _ [6, 7, 8, 9, 10, 5, 11, 12, 13, 14, 15, 16, 17, 18, 19, 20, 21, 22, 23, 24, 25, 26, 27, 28, 29, 30, 31, 32, 33, 34, 35, 36, 37, 38, 39, 40, 41, 42, 43, 44, 45, 46, 47, 48, 49, 50, 51, 52, 53, 54, 55, 56, 57, 58, 59, 60, 61, 62, 63, 64, 65, 66, 67, 68, 69, 70, 71, 72, 73, 74, 75, 76, 77, 78, 79] (by decide +kernel) (by decide +kernel)) (goodIn_sub (fun _ h => List.mem_cons_of_mem _ (List.mem_append_right _ h)) (by decide +kernel))
set_option maxRecDepth 20000 in
theorem gL_value_X10_value : GoodIn wsL_value (wsV RL 37 RX10 yX10_value wsX10_value) := goodIn_app (goodIn_of _ (by decide +kernel)) ggL_value_X10_value
theorem dL_value_0 : decode cL_value 0 = .ok (.aload_n 2, 1) := by decide +kernel
theorem dL_value_1 : decode cL_value 1 = .ok (.iconst 0, 1) := by decide +kernel
theorem dL_value_2 : decode cL_value 2 = .ok (.aload_n 0, 1) := by decide +kernel
theorem dL_value_3 : decode cL_value 3 = .ok (.iload_n 1, 1) := by decide +kernel
theorem dL_value_4 : decode cL_value 4 = .ok (.invokevirtual 37, 3) := by decide +kernel
theorem dL_value_7 : decode cL_value 7 = .ok (.lastore, 1) := by decide +kernel
theorem dL_value_8 : decode cL_value 8 = .ok (.goto 6, 3) := by decide +kernel
theorem dL_value_11 : decode cL_value 11 = .ok (.astore_n 3, 1) := by decide +kernel
theorem dL_value_12 : decode cL_value 12 = .ok (.iconst 1, 1) := by decide +kernel
theorem dL_value_13 : decode cL_value 13 = .ok (.ireturn, 1) := by decide +kernel
theorem dL_value_14 : decode cL_value 14 = .ok (.iconst 0, 1) := by decide +kernel
theorem dL_value_15 : decode cL_value 15 = .ok (.ireturn, 1) := by decide +kernel
set_option maxRecDepth 20000 in
theorem ggL_currencyDifference_X10_currencyDifference : GoodIn wsL_currencyDifference wsX10_currencyDifference := goodIn_ca (goodIn_r _ [6, 7, 8, 9, 10, 11, 12, 13, 5, 14, 15, 16, 17, 18, 19, 20, 21, 22, 23, 24, 25, 26, 27, 28, 29, 30, 31, 32, 33, 34, 35, 36, 37, 38, 39, 40, 41, 42, 43, 44, 45, 46, 47, 48, 49, 50, 51, 52, 53, 54, 55, 56, 57, 58, 59, 60, 61, 62, 63, 64, 65, 66, 67, 68, 69, 70, 71, 72, 73, 74, 75, 76, 77, 78, 79, 80, 81] (by decide +kernel) (by decide +kernel)) (goodIn_sub (fun _ h => List.mem_cons_of_mem _ (List.mem_append_right _ h)) (by decide +kernel))
set_option maxRecDepth 20000 in
theorem gL_currencyDifference_X10_currencyDifference : GoodIn wsL_currencyDifference (wsV RL 40 RX10 yX10_currencyDifference wsX10_currencyDifference) := goodIn_app (goodIn_of _ (by decide +kernel)) ggL_currencyDifference_X10_currencyDifference
theorem dL_currencyDifference_0 : decode cL_currencyDifference 0 = .ok (.aload_n 2, 1) := by decide +kernel
theorem dL_currencyDifference_1 : decode cL_currencyDifference 1 = .ok (.iconst 0, 1) := by decide +kernel
theorem dL_currencyDifference_2 : decode cL_currencyDifference 2 = .ok (.aload_n 0, 1) := by decide +kernel
theorem dL_currencyDifference_3 : decode cL_currencyDifference 3 = .ok (.iload_n 1, 1) := by decide +kernel
theorem dL_currencyDifference_4 : decode cL_currencyDifference 4 = .ok (.invokevirtual 40, 3) := by decide +kernel
theorem dL_currencyDifference_7 : decode cL_currencyDifference 7 = .ok (.lastore, 1) := by decide +kernel
theorem dL_currencyDifference_8 : decode cL_currencyDifference 8 = .ok (.goto 6, 3) := by decide +kernel
theorem dL_currencyDifference_11 : decode cL_currencyDifference 11 = .ok (.astore_n 3, 1) := by decide +kernel
theorem dL_currencyDifference_12 : decode cL_currencyDifference 12 = .ok (.iconst 1, 1) := by decide +kernel
theorem dL_currencyDifference_13 : decode cL_currencyDifference 13 = .ok (.ireturn, 1) := by decide +kernel
theorem dL_currencyDifference_14 : decode cL_currencyDifference 14 = .ok (.iconst 0, 1) := by decide +kernel
theorem dL_currencyDifference_15 : decode cL_currencyDifference 15 = .ok (.ireturn, 1) := by decide +kernel
set_option maxRecDepth 20000 in
theorem ggL_pairDifference_X10_pairDifference : GoodIn wsL_pairDifference wsX10_pairDifference := goodIn_ca (goodIn_ca (goodIn_r _ [7, 8, 9, 10, 11, 12, 13, 14, 15, 16, 17, 6, 18, 19, 20, 21, 22, 23, 24, 25, 26, 27, 28, 29, 30, 31, 32, 33, 34, 35, 36, 37, 38, 39, 40, 41, 42, 43, 44, 45, 46, 47, 48, 49, 50, 51, 52, 53, 54, 55, 56, 57, 58, 59, 60, 61, 62, 63, 64, 65, 66, 67, 68, 69, 70, 71, 72, 73, 74, 75, 76, 77, 78, 79, 80, 81, 82, 83, 84, 85] (by decide +kernel) (by decide +kernel)) (goodIn_sub (fun _ h => List.mem_cons_of_mem _ (List.mem_append_left _ (List.mem_append_right _ h))) (by decide +kernel))) (goodIn_sub (fun _ h => List.mem_cons_of_mem _ (List.mem_append_right _ h)) (by decide +kernel))
set_option maxRecDepth 20000 in
theorem gL_pairDifference_X10_pairDifference : GoodIn wsL_pairDifference (wsV RL 43 RX10 yX10_pairDifference wsX10_pairDifference) := goodIn_app (goodIn_of _ (by decide +kernel)) ggL_pairDifference_X10_pairDifference
theorem dL_pairDifference_0 : decode cL_pairDifference 0 = .ok (.aload_n 2, 1) := by decide +kernel
theorem dL_pairDifference_1 : decode cL_pairDifference 1 = .ok (.iconst 0, 1) := by decide +kernel
theorem dL_pairDifference_2 : decode cL_pairDifference 2 = .ok (.aload_n 0, 1) := by decide +kernel
theorem dL_pairDifference_3 : decode cL_pairDifference 3 = .ok (.iload_n 1, 1) := by decide +kernel
theorem dL_pairDifference_4 : decode cL_pairDifference 4 = .ok (.invokevirtual 43, 3) := by decide +kernel
theorem dL_pairDifference_7 : decode cL_pairDifference 7 = .ok (.lastore, 1) := by decide +kernel
theorem dL_pairDifference_8 : decode cL_pairDifference 8 = .ok (.goto 9, 3) := by decide +kernel
theorem dL_pairDifference_11 : decode cL_pairDifference 11 = .ok (.astore_n 3, 1) := by decide +kernel
theorem dL_pairDifference_12 : decode cL_pairDifference 12 = .ok (.iconst 1, 1) := by decide +kernel
theorem dL_pairDifference_13 : decode cL_pairDifference 13 = .ok (.ireturn, 1) := by decide +kernel
theorem dL_pairDifference_14 : decode cL_pairDifference 14 = .ok (.astore_n 3, 1) := by decide +kernel
theorem dL_pairDifference_15 : decode cL_pairDifference 15 = .ok (.iconst 2, 1) := by decide +kernel
theorem dL_pairDifference_16 : decode cL_pairDifference 16 = .ok (.ireturn, 1) := by decide +kernel
theorem dL_pairDifference_17 : decode cL_pairDifference 17 = .ok (.iconst 0, 1) := by decide +kernel
theorem dL_pairDifference_18 : decode cL_pairDifference 18 = .ok (.ireturn, 1) := by decide +kernel
set_option maxRecDepth 20000 in
theorem ggL_candidates_X10_candidates : GoodIn wsL_candidates wsX10_candidates := goodIn_ca (goodIn_r _ [6, 7, 8, 9, 10, 11, 5, 12, 13, 14, 15, 16, 17, 18, 19, 20, 21, 22, 23, 24, 25, 26, 27, 28, 29, 30, 31, 32, 33, 34, 35, 36, 37, 38, 39, 40, 41, 42, 43, 44, 45, 46, 47, 48, 49, 50, 51, 52, 53, 54, 55, 56, 57, 58, 59, 60, 61, 62, 63, 64, 65] (by decide +kernel) (by decide +kernel)) (goodIn_sub (fun _ h => List.mem_cons_of_mem _ (List.mem_append_right _ h)) (by decide +kernel))
set_option maxRecDepth 20000 in
theorem gL_candidates_X10_candidates : GoodIn wsL_candidates (wsV RL 48 RX10 yX10_candidates wsX10_candidates) := goodIn_app (goodIn_of _ (by decide +kernel)) ggL_candidates_X10_candidates
theorem dL_candidates_0 : decode cL_candidates 0 = .ok (.aload_n 2, 1) := by decide +kernel
theorem dL_candidates_1 : decode cL_candidates 1 = .ok (.iconst 0, 1) := by decide +kernel
theorem dL_candidates_2 : decode cL_candidates 2 = .ok (.aload_n 0, 1) := by decide +kernel
theorem dL_candidates_3 : decode cL_candidates 3 = .ok (.iload_n 1, 1) := by decide +kernel
theorem dL_candidates_4 : decode cL_candidates 4 = .ok (.invokevirtual 48, 3) := by decide +kernel
theorem dL_candidates_7 : decode cL_candidates 7 = .ok (.i2l, 1) := by decide +kernel
theorem dL_candidates_8 : decode cL_candidates 8 = .ok (.lastore, 1) := by decide +kernel
theorem dL_candidates_9 : decode cL_candidates 9 = .ok (.goto 6, 3) := by decide +kernel
theorem dL_candidates_12 : decode cL_candidates 12 = .ok (.astore_n 3, 1) := by decide +kernel
theorem dL_candidates_13 : decode cL_candidates 13 = .ok (.iconst 1, 1) := by decide +kernel
theorem dL_candidates_14 : decode cL_candidates 14 = .ok (.ireturn, 1) := by decide +kernel
theorem dL_candidates_15 : decode cL_candidates 15 = .ok (.iconst 0, 1) := by decide +kernel
theorem dL_candidates_16 : decode cL_candidates 16 = .ok (.ireturn, 1) := by decide +kernel
set_option maxRecDepth 20000 in
theorem ggL_wouldPair_X10_wouldPair : GoodIn wsL_wouldPair wsX10_wouldPair := goodIn_ca (goodIn_ca (goodIn_r _ [7, 8, 9, 10, 11, 12, 13, 14, 15, 16, 17, 18, 19, 6, 20, 21, 22, 23, 24, 25, 26, 27, 28, 29, 30, 31, 32, 33, 34, 35, 36, 37, 38, 39, 40, 41, 42, 43, 44, 45, 46, 47, 48, 49, 50, 51, 52, 53, 54, 55, 56, 57, 58, 59, 60, 61, 62, 63, 64, 65, 66, 67, 68, 69, 70, 71, 72, 73, 74, 75, 76, 77, 78, 79, 80, 81, 82, 83, 84, 85, 86, 87, 88, 89, 90, 91, 92, 93, 94, 95, 96, 97, 98, 99, 100, 101, 102, 103, 104, 105, 106, 107, 108, 109, 110, 111, 112, 113, 114, 115, 116, 117, 118, 119, 120, 121] (by decide +kernel) (by decide +kernel)) (goodIn_sub (fun _ h => List.mem_cons_of_mem _ (List.mem_append_left _ (List.mem_append_right _ h))) (by decide +kernel))) (goodIn_sub (fun _ h => List.mem_cons_of_mem _ (List.mem_append_right _ h)) (by decide +kernel))
set_option maxRecDepth 20000 in
theorem gL_wouldPair_X10_wouldPair : GoodIn wsL_wouldPair (wsV RL 51 RX10 yX10_wouldPair wsX10_wouldPair) := goodIn_app (goodIn_of _ (by decide +kernel)) ggL_wouldPair_X10_wouldPair
theorem dL_wouldPair_0 : decode cL_wouldPair 0 = .ok (.aload_n 2, 1) := by decide +kernel
theorem dL_wouldPair_1 : decode cL_wouldPair 1 = .ok (.iconst 0, 1) := by decide +kernel
theorem dL_wouldPair_2 : decode cL_wouldPair 2 = .ok (.aload_n 0, 1) := by decide +kernel
theorem dL_wouldPair_3 : decode cL_wouldPair 3 = .ok (.iload_n 1, 1) := by decide +kernel
theorem dL_wouldPair_4 : decode cL_wouldPair 4 = .ok (.invokevirtual 51, 3) := by decide +kernel
theorem dL_wouldPair_7 : decode cL_wouldPair 7 = .ok (.i2l, 1) := by decide +kernel
theorem dL_wouldPair_8 : decode cL_wouldPair 8 = .ok (.lastore, 1) := by decide +kernel
theorem dL_wouldPair_9 : decode cL_wouldPair 9 = .ok (.goto 9, 3) := by decide +kernel
theorem dL_wouldPair_12 : decode cL_wouldPair 12 = .ok (.astore_n 3, 1) := by decide +kernel
theorem dL_wouldPair_13 : decode cL_wouldPair 13 = .ok (.iconst 1, 1) := by decide +kernel
theorem dL_wouldPair_14 : decode cL_wouldPair 14 = .ok (.ireturn, 1) := by decide +kernel
theorem dL_wouldPair_15 : decode cL_wouldPair 15 = .ok (.astore_n 3, 1) := by decide +kernel
theorem dL_wouldPair_16 : decode cL_wouldPair 16 = .ok (.iconst 2, 1) := by decide +kernel
theorem dL_wouldPair_17 : decode cL_wouldPair 17 = .ok (.ireturn, 1) := by decide +kernel
theorem dL_wouldPair_18 : decode cL_wouldPair 18 = .ok (.iconst 0, 1) := by decide +kernel
theorem dL_wouldPair_19 : decode cL_wouldPair 19 = .ok (.ireturn, 1) := by decide +kernel
set_option maxRecDepth 20000 in
theorem ggL_balance_X10_balance : GoodIn wsL_balance wsX10_balance := goodIn_ca (goodIn_r _ [6, 7, 8, 9, 10, 5, 11, 12, 13, 14, 15, 16, 17, 18, 19, 20, 21, 22, 23, 24, 25, 26, 27, 28, 29, 30, 31, 32, 33, 34, 35, 36, 37, 38, 39, 40, 41, 42, 43, 44, 45, 46, 47, 48, 49, 50, 51, 52, 53, 54, 55, 56, 57, 58, 59, 60, 61, 62, 63, 64, 65, 66, 67, 68, 69, 70, 71, 72, 73, 74, 75, 76, 77, 78, 79, 80, 81, 82, 83, 84, 85, 86] (by decide +kernel) (by decide +kernel)) (goodIn_sub (fun _ h => List.mem_cons_of_mem _ (List.mem_append_right _ h)) (by decide +kernel))
set_option maxRecDepth 20000 in
theorem gL_balance_X10_balance : GoodIn wsL_balance (wsV RL 54 RX10 yX10_balance wsX10_balance) := goodIn_app (goodIn_of _ (by decide +kernel)) ggL_balance_X10_balance
theorem dL_balance_0 : decode cL_balance 0 = .ok (.aload_n 3, 1) := by decide +kernel
theorem dL_balance_1 : decode cL_balance 1 = .ok (.iconst 0, 1) := by decide +kernel
theorem dL_balance_2 : decode cL_balance 2 = .ok (.aload_n 0, 1) := by decide +kernel
theorem dL_balance_3 : decode cL_balance 3 = .ok (.iload_n 1, 1) := by decide +kernel
theorem dL_balance_4 : decode cL_balance 4 = .ok (.iload_n 2, 1) := by decide +kernel
theorem dL_balance_5 : decode cL_balance 5 = .ok (.invokevirtual 54, 3) := by decide +kernel
theorem dL_balance_8 : decode cL_balance 8 = .ok (.lastore, 1) := by decide +kernel
theorem dL_balance_9 : decode cL_balance 9 = .ok (.goto 7, 3) := by decide +kernel
theorem dL_balance_12 : decode cL_balance 12 = .ok (.astore 4, 2) := by decide +kernel
theorem dL_balance_14 : decode cL_balance 14 = .ok (.iconst 1, 1) := by decide +kernel
theorem dL_balance_15 : decode cL_balance 15 = .ok (.ireturn, 1) := by decide +kernel
theorem dL_balance_16 : decode cL_balance 16 = .ok (.iconst 0, 1) := by decide +kernel
theorem dL_balance_17 : decode cL_balance 17 = .ok (.ireturn, 1) := by decide +kernel
set_option maxRecDepth 20000 in
theorem ggL_total_X10_total : GoodIn wsL_total wsX10_total := goodIn_ca (goodIn_r _ [6, 7, 8, 9, 10, 11, 12, 13, 14, 15, 16, 17, 18, 19, 20, 21, 22, 23, 24, 25, 26, 27, 28, 29, 30, 31, 32, 33, 34, 35, 36, 37, 38, 39, 40, 41, 42, 43, 44, 45, 46, 47, 48, 49, 50, 51, 52, 53, 54, 55, 56, 57, 58, 59, 60, 61, 62, 63, 64, 65, 66, 67, 68, 69, 70, 71, 72, 73, 74, 75, 76, 77, 78, 79, 80, 81, 82, 83, 84, 85, 86, 87, 88, 89, 90, 91, 92, 93, 94, 95, 96, 97, 98, 99, 100, 101, 102, 103] (by decide +kernel) (by decide +kernel)) (goodIn_sub (fun _ h => List.mem_cons_of_mem _ (List.mem_append_right _ h)) (by decide +kernel))
set_option maxRecDepth 20000 in
theorem gL_total_X10_total : GoodIn wsL_total (wsV RL 58 RX10 yX10_total wsX10_total) := goodIn_app (goodIn_of _ (by decide +kernel)) ggL_total_X10_total
theorem dL_total_0 : decode cL_total 0 = .ok (.aload_n 2, 1) := by decide +kernel
theorem dL_total_1 : decode cL_total 1 = .ok (.iconst 0, 1) := by decide +kernel
theorem dL_total_2 : decode cL_total 2 = .ok (.aload_n 0, 1) := by decide +kernel
theorem dL_total_3 : decode cL_total 3 = .ok (.iload_n 1, 1) := by decide +kernel
theorem dL_total_4 : decode cL_total 4 = .ok (.invokevirtual 58, 3) := by decide +kernel
theorem dL_total_7 : decode cL_total 7 = .ok (.lastore, 1) := by decide +kernel
theorem dL_total_8 : decode cL_total 8 = .ok (.goto 6, 3) := by decide +kernel
theorem dL_total_11 : decode cL_total 11 = .ok (.astore_n 3, 1) := by decide +kernel
theorem dL_total_12 : decode cL_total 12 = .ok (.iconst 1, 1) := by decide +kernel
theorem dL_total_13 : decode cL_total 13 = .ok (.ireturn, 1) := by decide +kernel
theorem dL_total_14 : decode cL_total 14 = .ok (.iconst 0, 1) := by decide +kernel
theorem dL_total_15 : decode cL_total 15 = .ok (.ireturn, 1) := by decide +kernel
set_option maxRecDepth 20000 in
theorem ggL_position_X10_position : GoodIn wsL_position wsX10_position := goodIn_ca (goodIn_r _ [6, 7, 8, 9, 10, 11, 12, 5, 13, 14, 15, 16, 17, 18, 19, 20, 21, 22, 23, 24, 25, 26, 27, 28, 29, 30, 31, 32, 33, 34, 35, 36, 37, 38, 39, 40, 41, 42, 43, 44, 45, 46, 47, 48, 49, 50, 51, 52, 53, 54, 55, 56, 57, 58, 59, 60, 61, 62, 63, 64, 65, 66, 67, 68, 69, 70, 71, 72, 73, 74, 75, 76, 77, 78, 79, 80, 81, 82, 83, 84, 85, 86, 87, 88, 89, 90, 91, 92, 93, 94, 95, 96, 97, 98, 99, 100] (by decide +kernel) (by decide +kernel)) (goodIn_sub (fun _ h => List.mem_cons_of_mem _ (List.mem_append_right _ h)) (by decide +kernel))
set_option maxRecDepth 20000 in
theorem gL_position_X10_position : GoodIn wsL_position (wsV RL 61 RX10 yX10_position wsX10_position) := goodIn_app (goodIn_of _ (by decide +kernel)) ggL_position_X10_position
theorem dL_position_0 : decode cL_position 0 = .ok (.aload_n 2, 1) := by decide +kernel
theorem dL_position_1 : decode cL_position 1 = .ok (.iconst 0, 1) := by decide +kernel
theorem dL_position_2 : decode cL_position 2 = .ok (.aload_n 0, 1) := by decide +kernel
theorem dL_position_3 : decode cL_position 3 = .ok (.iload_n 1, 1) := by decide +kernel
theorem dL_position_4 : decode cL_position 4 = .ok (.invokevirtual 61, 3) := by decide +kernel
theorem dL_position_7 : decode cL_position 7 = .ok (.lastore, 1) := by decide +kernel
theorem dL_position_8 : decode cL_position 8 = .ok (.goto 6, 3) := by decide +kernel
theorem dL_position_11 : decode cL_position 11 = .ok (.astore_n 3, 1) := by decide +kernel
theorem dL_position_12 : decode cL_position 12 = .ok (.iconst 1, 1) := by decide +kernel
theorem dL_position_13 : decode cL_position 13 = .ok (.ireturn, 1) := by decide +kernel
theorem dL_position_14 : decode cL_position 14 = .ok (.iconst 0, 1) := by decide +kernel
theorem dL_position_15 : decode cL_position 15 = .ok (.ireturn, 1) := by decide +kernel
set_option maxRecDepth 20000 in
theorem ggL_settledPosition_X10_settledPosition : GoodIn wsL_settledPosition wsX10_settledPosition := goodIn_ca (goodIn_r _ [6, 7, 8, 9, 10, 11, 12, 5, 13, 14, 15, 16, 17, 18, 19, 20, 21, 22, 23, 24, 25, 26, 27, 28, 29, 30, 31, 32, 33, 34, 35, 36, 37, 38, 39, 40, 41, 42, 43, 44, 45, 46, 47, 48, 49, 50, 51, 52, 53] (by decide +kernel) (by decide +kernel)) (goodIn_sub (fun _ h => List.mem_cons_of_mem _ (List.mem_append_right _ h)) (by decide +kernel))
set_option maxRecDepth 20000 in
theorem gL_settledPosition_X10_settledPosition : GoodIn wsL_settledPosition (wsV RL 64 RX10 yX10_settledPosition wsX10_settledPosition) := goodIn_app (goodIn_of _ (by decide +kernel)) ggL_settledPosition_X10_settledPosition
theorem dL_settledPosition_0 : decode cL_settledPosition 0 = .ok (.aload_n 2, 1) := by decide +kernel
theorem dL_settledPosition_1 : decode cL_settledPosition 1 = .ok (.iconst 0, 1) := by decide +kernel
theorem dL_settledPosition_2 : decode cL_settledPosition 2 = .ok (.aload_n 0, 1) := by decide +kernel
theorem dL_settledPosition_3 : decode cL_settledPosition 3 = .ok (.iload_n 1, 1) := by decide +kernel
theorem dL_settledPosition_4 : decode cL_settledPosition 4 = .ok (.invokevirtual 64, 3) := by decide +kernel
theorem dL_settledPosition_7 : decode cL_settledPosition 7 = .ok (.lastore, 1) := by decide +kernel
theorem dL_settledPosition_8 : decode cL_settledPosition 8 = .ok (.goto 6, 3) := by decide +kernel
theorem dL_settledPosition_11 : decode cL_settledPosition 11 = .ok (.astore_n 3, 1) := by decide +kernel
theorem dL_settledPosition_12 : decode cL_settledPosition 12 = .ok (.iconst 1, 1) := by decide +kernel
theorem dL_settledPosition_13 : decode cL_settledPosition 13 = .ok (.ireturn, 1) := by decide +kernel
theorem dL_settledPosition_14 : decode cL_settledPosition 14 = .ok (.iconst 0, 1) := by decide +kernel
theorem dL_settledPosition_15 : decode cL_settledPosition 15 = .ok (.ireturn, 1) := by decide +kernel
set_option maxRecDepth 20000 in
theorem ggL_stock_X10_stock : GoodIn wsL_stock wsX10_stock := goodIn_ca (goodIn_r _ [6, 7, 8, 9, 10, 11, 5, 12, 13, 14, 15, 16, 17, 18, 19, 20, 21, 22, 23, 24, 25, 26, 27, 28, 29, 30, 31, 32, 33, 34, 35, 36, 37, 38, 39, 40, 41, 42, 43, 44, 45, 46, 47, 48, 49, 50, 51, 52, 53, 54, 55, 56, 57, 58, 59, 60, 61, 62, 63, 64, 65, 66, 67, 68, 69, 70, 71, 72, 73, 74, 75, 76, 77, 78, 79, 80] (by decide +kernel) (by decide +kernel)) (goodIn_sub (fun _ h => List.mem_cons_of_mem _ (List.mem_append_right _ h)) (by decide +kernel))
set_option maxRecDepth 20000 in
theorem gL_stock_X10_stock : GoodIn wsL_stock (wsV RL 67 RX10 yX10_stock wsX10_stock) := goodIn_app (goodIn_of _ (by decide +kernel)) ggL_stock_X10_stock
theorem dL_stock_0 : decode cL_stock 0 = .ok (.aload_n 3, 1) := by decide +kernel
theorem dL_stock_1 : decode cL_stock 1 = .ok (.iconst 0, 1) := by decide +kernel
theorem dL_stock_2 : decode cL_stock 2 = .ok (.aload_n 0, 1) := by decide +kernel
theorem dL_stock_3 : decode cL_stock 3 = .ok (.iload_n 1, 1) := by decide +kernel
theorem dL_stock_4 : decode cL_stock 4 = .ok (.iload_n 2, 1) := by decide +kernel
theorem dL_stock_5 : decode cL_stock 5 = .ok (.invokevirtual 67, 3) := by decide +kernel
theorem dL_stock_8 : decode cL_stock 8 = .ok (.i2l, 1) := by decide +kernel
theorem dL_stock_9 : decode cL_stock 9 = .ok (.lastore, 1) := by decide +kernel
theorem dL_stock_10 : decode cL_stock 10 = .ok (.goto 7, 3) := by decide +kernel
theorem dL_stock_13 : decode cL_stock 13 = .ok (.astore 4, 2) := by decide +kernel
theorem dL_stock_15 : decode cL_stock 15 = .ok (.iconst 1, 1) := by decide +kernel
theorem dL_stock_16 : decode cL_stock 16 = .ok (.ireturn, 1) := by decide +kernel
theorem dL_stock_17 : decode cL_stock 17 = .ok (.iconst 0, 1) := by decide +kernel
theorem dL_stock_18 : decode cL_stock 18 = .ok (.ireturn, 1) := by decide +kernel
set_option maxRecDepth 20000 in
theorem ggL_oldestPrice_X10_oldestPrice : GoodIn wsL_oldestPrice wsX10_oldestPrice := goodIn_ca (goodIn_r _ [6, 7, 8, 9, 10, 11, 5, 12, 13, 14, 15, 16, 17, 18, 19, 20, 21, 22, 23, 24, 25, 26, 27, 28, 29, 30, 31, 32, 33, 34, 35, 36, 37, 38, 39, 40, 41, 42, 43, 44, 45, 46, 47, 48, 49, 50, 51, 52, 53, 54, 55, 56, 57, 58, 59, 60, 61, 62, 63, 64, 65, 66, 67, 68, 69, 70, 71, 72, 73, 74, 75, 76, 77, 78, 79, 80, 81] (by decide +kernel) (by decide +kernel)) (goodIn_sub (fun _ h => List.mem_cons_of_mem _ (List.mem_append_right _ h)) (by decide +kernel))
set_option maxRecDepth 20000 in
theorem gL_oldestPrice_X10_oldestPrice : GoodIn wsL_oldestPrice (wsV RL 70 RX10 yX10_oldestPrice wsX10_oldestPrice) := goodIn_app (goodIn_of _ (by decide +kernel)) ggL_oldestPrice_X10_oldestPrice
theorem dL_oldestPrice_0 : decode cL_oldestPrice 0 = .ok (.aload_n 3, 1) := by decide +kernel
theorem dL_oldestPrice_1 : decode cL_oldestPrice 1 = .ok (.iconst 0, 1) := by decide +kernel
theorem dL_oldestPrice_2 : decode cL_oldestPrice 2 = .ok (.aload_n 0, 1) := by decide +kernel
theorem dL_oldestPrice_3 : decode cL_oldestPrice 3 = .ok (.iload_n 1, 1) := by decide +kernel
theorem dL_oldestPrice_4 : decode cL_oldestPrice 4 = .ok (.iload_n 2, 1) := by decide +kernel
theorem dL_oldestPrice_5 : decode cL_oldestPrice 5 = .ok (.invokevirtual 70, 3) := by decide +kernel
theorem dL_oldestPrice_8 : decode cL_oldestPrice 8 = .ok (.i2l, 1) := by decide +kernel
theorem dL_oldestPrice_9 : decode cL_oldestPrice 9 = .ok (.lastore, 1) := by decide +kernel
theorem dL_oldestPrice_10 : decode cL_oldestPrice 10 = .ok (.goto 7, 3) := by decide +kernel
theorem dL_oldestPrice_13 : decode cL_oldestPrice 13 = .ok (.astore 4, 2) := by decide +kernel
theorem dL_oldestPrice_15 : decode cL_oldestPrice 15 = .ok (.iconst 1, 1) := by decide +kernel
theorem dL_oldestPrice_16 : decode cL_oldestPrice 16 = .ok (.ireturn, 1) := by decide +kernel
theorem dL_oldestPrice_17 : decode cL_oldestPrice 17 = .ok (.iconst 0, 1) := by decide +kernel
theorem dL_oldestPrice_18 : decode cL_oldestPrice 18 = .ok (.ireturn, 1) := by decide +kernel
set_option maxRecDepth 20000 in
theorem ggL_unrealized_X10_unrealized : GoodIn wsL_unrealized wsX10_unrealized := goodIn_ca (goodIn_r _ [6, 7, 8, 9, 10, 11, 5, 12, 13, 14, 15, 16, 17, 18, 19, 20, 21, 22, 23, 24, 25, 26, 27, 28, 29, 30, 31, 32, 33, 34, 35, 36, 37, 38, 39, 40, 41, 42, 43, 44, 45, 46, 47, 48, 49, 50, 51, 52, 53, 54, 55, 56, 57, 58, 59, 60, 61, 62, 63, 64, 65, 66, 67, 68, 69, 70, 71, 72, 73, 74, 75, 76, 77, 78, 79, 80, 81, 82, 83, 84, 85] (by decide +kernel) (by decide +kernel)) (goodIn_sub (fun _ h => List.mem_cons_of_mem _ (List.mem_append_right _ h)) (by decide +kernel))
set_option maxRecDepth 20000 in
theorem gL_unrealized_X10_unrealized : GoodIn wsL_unrealized (wsV RL 73 RX10 yX10_unrealized wsX10_unrealized) := goodIn_app (goodIn_of _ (by decide +kernel)) ggL_unrealized_X10_unrealized
theorem dL_unrealized_0 : decode cL_unrealized 0 = .ok (.aload_n 2, 1) := by decide +kernel
theorem dL_unrealized_1 : decode cL_unrealized 1 = .ok (.iconst 0, 1) := by decide +kernel
theorem dL_unrealized_2 : decode cL_unrealized 2 = .ok (.aload_n 0, 1) := by decide +kernel
theorem dL_unrealized_3 : decode cL_unrealized 3 = .ok (.iload_n 1, 1) := by decide +kernel
theorem dL_unrealized_4 : decode cL_unrealized 4 = .ok (.invokevirtual 73, 3) := by decide +kernel
theorem dL_unrealized_7 : decode cL_unrealized 7 = .ok (.lastore, 1) := by decide +kernel
theorem dL_unrealized_8 : decode cL_unrealized 8 = .ok (.goto 6, 3) := by decide +kernel
theorem dL_unrealized_11 : decode cL_unrealized 11 = .ok (.astore_n 3, 1) := by decide +kernel
theorem dL_unrealized_12 : decode cL_unrealized 12 = .ok (.iconst 1, 1) := by decide +kernel
theorem dL_unrealized_13 : decode cL_unrealized 13 = .ok (.ireturn, 1) := by decide +kernel
theorem dL_unrealized_14 : decode cL_unrealized 14 = .ok (.iconst 0, 1) := by decide +kernel
theorem dL_unrealized_15 : decode cL_unrealized 15 = .ok (.ireturn, 1) := by decide +kernel
set_option maxRecDepth 20000 in
theorem ggL_unrealizedAfterSale_X10_unrealizedAfterSale : GoodIn wsL_unrealizedAfterSale wsX10_unrealizedAfterSale := goodIn_ca (goodIn_ca (goodIn_ca (goodIn_r _ [8, 9, 10, 11, 12, 13, 7, 14, 15, 16, 17, 18, 19, 20, 21, 22, 23, 24, 25, 26, 27, 28, 29, 30, 31, 32, 33, 34, 35, 36, 37, 38, 39, 40, 41, 42, 43, 44, 45, 46, 47, 48, 49, 50, 51, 52, 53, 54, 55, 56, 57, 58, 59, 60, 61, 62, 63, 64, 65, 66, 67, 68, 69, 70, 71, 72, 73, 74, 75, 76, 77, 78, 79, 80, 81, 82, 83, 84, 85, 86, 87, 88, 89, 90, 91, 92, 93, 94, 95, 96, 97, 98, 99, 100, 101, 102, 103, 104, 105, 106, 107, 108, 109, 110, 111] (by decide +kernel) (by decide +kernel)) (goodIn_sub (fun _ h => List.mem_cons_of_mem _ (List.mem_append_left _ (List.mem_append_left _ (List.mem_append_right _ h)))) (by decide +kernel))) (goodIn_sub (fun _ h => List.mem_cons_of_mem _ (List.mem_append_left _ (List.mem_append_right _ h))) (by decide +kernel))) (goodIn_sub (fun _ h => List.mem_cons_of_mem _ (List.mem_append_right _ h)) (by decide +kernel))
set_option maxRecDepth 20000 in
theorem gL_unrealizedAfterSale_X10_unrealizedAfterSale : GoodIn wsL_unrealizedAfterSale (wsV RL 76 RX10 yX10_unrealizedAfterSale wsX10_unrealizedAfterSale) := goodIn_app (goodIn_of _ (by decide +kernel)) ggL_unrealizedAfterSale_X10_unrealizedAfterSale
theorem dL_unrealizedAfterSale_0 : decode cL_unrealizedAfterSale 0 = .ok (.aload 4, 2) := by decide +kernel
theorem dL_unrealizedAfterSale_2 : decode cL_unrealizedAfterSale 2 = .ok (.iconst 0, 1) := by decide +kernel
theorem dL_unrealizedAfterSale_3 : decode cL_unrealizedAfterSale 3 = .ok (.aload_n 0, 1) := by decide +kernel
theorem dL_unrealizedAfterSale_4 : decode cL_unrealizedAfterSale 4 = .ok (.iload_n 1, 1) := by decide +kernel
theorem dL_unrealizedAfterSale_5 : decode cL_unrealizedAfterSale 5 = .ok (.iload_n 2, 1) := by decide +kernel
theorem dL_unrealizedAfterSale_6 : decode cL_unrealizedAfterSale 6 = .ok (.iload_n 3, 1) := by decide +kernel
theorem dL_unrealizedAfterSale_7 : decode cL_unrealizedAfterSale 7 = .ok (.invokevirtual 76, 3) := by decide +kernel
theorem dL_unrealizedAfterSale_10 : decode cL_unrealizedAfterSale 10 = .ok (.lastore, 1) := by decide +kernel
theorem dL_unrealizedAfterSale_11 : decode cL_unrealizedAfterSale 11 = .ok (.goto 15, 3) := by decide +kernel
theorem dL_unrealizedAfterSale_14 : decode cL_unrealizedAfterSale 14 = .ok (.astore 5, 2) := by decide +kernel
theorem dL_unrealizedAfterSale_16 : decode cL_unrealizedAfterSale 16 = .ok (.iconst 1, 1) := by decide +kernel
theorem dL_unrealizedAfterSale_17 : decode cL_unrealizedAfterSale 17 = .ok (.ireturn, 1) := by decide +kernel
theorem dL_unrealizedAfterSale_18 : decode cL_unrealizedAfterSale 18 = .ok (.astore 5, 2) := by decide +kernel
theorem dL_unrealizedAfterSale_20 : decode cL_unrealizedAfterSale 20 = .ok (.iconst 2, 1) := by decide +kernel
theorem dL_unrealizedAfterSale_21 : decode cL_unrealizedAfterSale 21 = .ok (.ireturn, 1) := by decide +kernel
theorem dL_unrealizedAfterSale_22 : decode cL_unrealizedAfterSale 22 = .ok (.astore 5, 2) := by decide +kernel
theorem dL_unrealizedAfterSale_24 : decode cL_unrealizedAfterSale 24 = .ok (.iconst 3, 1) := by decide +kernel
theorem dL_unrealizedAfterSale_25 : decode cL_unrealizedAfterSale 25 = .ok (.ireturn, 1) := by decide +kernel
theorem dL_unrealizedAfterSale_26 : decode cL_unrealizedAfterSale 26 = .ok (.iconst 0, 1) := by decide +kernel
theorem dL_unrealizedAfterSale_27 : decode cL_unrealizedAfterSale 27 = .ok (.ireturn, 1) := by decide +kernel
set_option maxRecDepth 20000 in
theorem ggL_averageMargin_X10_averageMargin : GoodIn wsL_averageMargin wsX10_averageMargin := goodIn_ca (goodIn_r _ [6, 7, 8, 9, 10, 11, 12, 5, 13, 14, 15, 16, 17, 18, 19, 20, 21, 22, 23, 24, 25, 26, 27, 28, 29, 30, 31, 32, 33, 34, 35, 36, 37, 38, 39, 40, 41, 42, 43, 44, 45, 46, 47, 48, 49, 50, 51, 52, 53, 54, 55, 56, 57, 58, 59, 60, 61, 62, 63, 64, 65, 66, 67, 68, 69, 70, 71, 72, 73, 74, 75, 76, 77, 78, 79, 80, 81, 82, 83, 84, 85, 86, 87, 88, 89, 90] (by decide +kernel) (by decide +kernel)) (goodIn_sub (fun _ h => List.mem_cons_of_mem _ (List.mem_append_right _ h)) (by decide +kernel))
set_option maxRecDepth 20000 in
theorem gL_averageMargin_X10_averageMargin : GoodIn wsL_averageMargin (wsV RL 80 RX10 yX10_averageMargin wsX10_averageMargin) := goodIn_app (goodIn_of _ (by decide +kernel)) ggL_averageMargin_X10_averageMargin
theorem dL_averageMargin_0 : decode cL_averageMargin 0 = .ok (.aload_n 2, 1) := by decide +kernel
theorem dL_averageMargin_1 : decode cL_averageMargin 1 = .ok (.iconst 0, 1) := by decide +kernel
theorem dL_averageMargin_2 : decode cL_averageMargin 2 = .ok (.aload_n 0, 1) := by decide +kernel
theorem dL_averageMargin_3 : decode cL_averageMargin 3 = .ok (.iload_n 1, 1) := by decide +kernel
theorem dL_averageMargin_4 : decode cL_averageMargin 4 = .ok (.invokevirtual 80, 3) := by decide +kernel
theorem dL_averageMargin_7 : decode cL_averageMargin 7 = .ok (.f2d, 1) := by decide +kernel
theorem dL_averageMargin_8 : decode cL_averageMargin 8 = .ok (.dastore, 1) := by decide +kernel
theorem dL_averageMargin_9 : decode cL_averageMargin 9 = .ok (.goto 6, 3) := by decide +kernel
theorem dL_averageMargin_12 : decode cL_averageMargin 12 = .ok (.astore_n 3, 1) := by decide +kernel
theorem dL_averageMargin_13 : decode cL_averageMargin 13 = .ok (.iconst 1, 1) := by decide +kernel
theorem dL_averageMargin_14 : decode cL_averageMargin 14 = .ok (.ireturn, 1) := by decide +kernel
theorem dL_averageMargin_15 : decode cL_averageMargin 15 = .ok (.iconst 0, 1) := by decide +kernel
theorem dL_averageMargin_16 : decode cL_averageMargin 16 = .ok (.ireturn, 1) := by decide +kernel
set_option maxRecDepth 20000 in
theorem ggL_gap_X10_gap : GoodIn wsL_gap wsX10_gap := goodIn_ca (goodIn_r _ [6, 7, 8, 9, 10, 11, 12, 13, 14, 15, 16, 17, 18, 19, 20, 21, 22, 23, 24, 25, 26, 27, 28, 29, 30, 31, 32, 33, 34, 35, 36, 37, 38, 39, 40, 41, 42, 43, 44, 45, 46, 47, 48, 49, 50, 51, 52, 53, 54, 55, 56, 57, 58, 59, 60, 61, 62, 63, 64, 65, 66, 67, 68, 69] (by decide +kernel) (by decide +kernel)) (goodIn_sub (fun _ h => List.mem_cons_of_mem _ (List.mem_append_right _ h)) (by decide +kernel))
set_option maxRecDepth 20000 in
theorem gL_gap_X10_gap : GoodIn wsL_gap (wsV RL 84 RX10 yX10_gap wsX10_gap) := goodIn_app (goodIn_of _ (by decide +kernel)) ggL_gap_X10_gap
theorem dL_gap_0 : decode cL_gap 0 = .ok (.aload_n 2, 1) := by decide +kernel
theorem dL_gap_1 : decode cL_gap 1 = .ok (.iconst 0, 1) := by decide +kernel
theorem dL_gap_2 : decode cL_gap 2 = .ok (.aload_n 0, 1) := by decide +kernel
theorem dL_gap_3 : decode cL_gap 3 = .ok (.iload_n 1, 1) := by decide +kernel
theorem dL_gap_4 : decode cL_gap 4 = .ok (.invokevirtual 84, 3) := by decide +kernel
theorem dL_gap_7 : decode cL_gap 7 = .ok (.lastore, 1) := by decide +kernel
theorem dL_gap_8 : decode cL_gap 8 = .ok (.goto 6, 3) := by decide +kernel
theorem dL_gap_11 : decode cL_gap 11 = .ok (.astore_n 3, 1) := by decide +kernel
theorem dL_gap_12 : decode cL_gap 12 = .ok (.iconst 1, 1) := by decide +kernel
theorem dL_gap_13 : decode cL_gap 13 = .ok (.ireturn, 1) := by decide +kernel
theorem dL_gap_14 : decode cL_gap 14 = .ok (.iconst 0, 1) := by decide +kernel
theorem dL_gap_15 : decode cL_gap 15 = .ok (.ireturn, 1) := by decide +kernel
set_option maxRecDepth 20000 in
theorem ggL_gapsOf_X10_gapsOf : GoodIn wsL_gapsOf wsX10_gapsOf := goodIn_ca (goodIn_r _ [6, 7, 8, 9, 10, 11, 5, 12, 13, 14, 15, 16, 17, 18, 19, 20, 21, 22, 23, 24, 25, 26, 27, 28, 29, 30, 31, 32, 33, 34, 35, 36, 37, 38, 39, 40, 41, 42, 43, 44, 45, 46, 47, 48, 49, 50, 51, 52, 53, 54, 55, 56, 57, 58, 59, 60, 61, 62, 63, 64, 65, 66, 67, 68, 69, 70, 71, 72, 73, 74, 75, 76, 77, 78, 79, 80, 81] (by decide +kernel) (by decide +kernel)) (goodIn_sub (fun _ h => List.mem_cons_of_mem _ (List.mem_append_right _ h)) (by decide +kernel))
set_option maxRecDepth 20000 in
theorem gL_gapsOf_X10_gapsOf : GoodIn wsL_gapsOf (wsV RL 87 RX10 yX10_gapsOf wsX10_gapsOf) := goodIn_app (goodIn_of _ (by decide +kernel)) ggL_gapsOf_X10_gapsOf
theorem dL_gapsOf_0 : decode cL_gapsOf 0 = .ok (.aload_n 2, 1) := by decide +kernel
theorem dL_gapsOf_1 : decode cL_gapsOf 1 = .ok (.iconst 0, 1) := by decide +kernel
theorem dL_gapsOf_2 : decode cL_gapsOf 2 = .ok (.aload_n 0, 1) := by decide +kernel
theorem dL_gapsOf_3 : decode cL_gapsOf 3 = .ok (.iload_n 1, 1) := by decide +kernel
theorem dL_gapsOf_4 : decode cL_gapsOf 4 = .ok (.invokevirtual 87, 3) := by decide +kernel
theorem dL_gapsOf_7 : decode cL_gapsOf 7 = .ok (.lastore, 1) := by decide +kernel
theorem dL_gapsOf_8 : decode cL_gapsOf 8 = .ok (.goto 6, 3) := by decide +kernel
theorem dL_gapsOf_11 : decode cL_gapsOf 11 = .ok (.astore_n 3, 1) := by decide +kernel
theorem dL_gapsOf_12 : decode cL_gapsOf 12 = .ok (.iconst 1, 1) := by decide +kernel
theorem dL_gapsOf_13 : decode cL_gapsOf 13 = .ok (.ireturn, 1) := by decide +kernel
theorem dL_gapsOf_14 : decode cL_gapsOf 14 = .ok (.iconst 0, 1) := by decide +kernel
theorem dL_gapsOf_15 : decode cL_gapsOf 15 = .ok (.ireturn, 1) := by decide +kernel
set_option maxRecDepth 20000 in
theorem ggL_book_X10_book : GoodIn wsL_book wsX10_book := goodIn_ca (goodIn_ca (goodIn_ca (goodIn_r _ [8, 9, 10, 11, 12, 13, 14, 15, 16, 17, 18, 19, 20, 21, 7, 22, 23, 24, 25, 26, 27, 28, 29, 30, 31, 32, 33, 34, 35, 36, 37, 38, 39, 40, 41, 42, 43, 44, 45, 46, 47, 48, 49, 50, 51, 52, 53, 54, 55, 56, 57, 58, 59, 60, 61, 62, 63, 64, 65, 66, 67, 68, 69, 70, 71, 72, 73, 74, 75, 76, 77, 78, 79, 80, 81, 82, 83, 84, 85, 86, 87, 88, 89, 90, 91, 92, 93, 94, 95, 96, 97, 98, 99, 100, 101, 102, 103, 104, 105, 106, 107, 108, 109, 110, 111, 112, 113, 114, 115, 116, 117, 118, 119, 120, 121, 122, 123, 124, 125, 126, 127, 128, 129, 130, 131, 132, 133, 134, 135, 136, 137, 138, 139, 140, 141, 142, 143, 144, 145, 146, 147, 148, 149, 150] (by decide +kernel) (by decide +kernel)) (goodIn_sub (fun _ h => List.mem_cons_of_mem _ (List.mem_append_left _ (List.mem_append_left _ (List.mem_append_right _ h)))) (by decide +kernel))) (goodIn_sub (fun _ h => List.mem_cons_of_mem _ (List.mem_append_left _ (List.mem_append_right _ h))) (by decide +kernel))) (goodIn_sub (fun _ h => List.mem_cons_of_mem _ (List.mem_append_right _ h)) (by decide +kernel))
set_option maxRecDepth 20000 in
theorem gL_book_X10_book : GoodIn wsL_book (wsV RL 90 RX10 yX10_book wsX10_book) := goodIn_app (goodIn_of _ (by decide +kernel)) ggL_book_X10_book
theorem dL_book_0 : decode cL_book 0 = .ok (.aload 6, 2) := by decide +kernel
theorem dL_book_2 : decode cL_book 2 = .ok (.iconst 0, 1) := by decide +kernel
theorem dL_book_3 : decode cL_book 3 = .ok (.aload_n 0, 1) := by decide +kernel
theorem dL_book_4 : decode cL_book 4 = .ok (.iload_n 1, 1) := by decide +kernel
theorem dL_book_5 : decode cL_book 5 = .ok (.iload_n 2, 1) := by decide +kernel
theorem dL_book_6 : decode cL_book 6 = .ok (.iload_n 3, 1) := by decide +kernel
theorem dL_book_7 : decode cL_book 7 = .ok (.iload 4, 2) := by decide +kernel
theorem dL_book_9 : decode cL_book 9 = .ok (.iload 5, 2) := by decide +kernel
theorem dL_book_11 : decode cL_book 11 = .ok (.invokevirtual 90, 3) := by decide +kernel
theorem dL_book_14 : decode cL_book 14 = .ok (.i2l, 1) := by decide +kernel
theorem dL_book_15 : decode cL_book 15 = .ok (.lastore, 1) := by decide +kernel
theorem dL_book_16 : decode cL_book 16 = .ok (.goto 15, 3) := by decide +kernel
theorem dL_book_19 : decode cL_book 19 = .ok (.astore 7, 2) := by decide +kernel
theorem dL_book_21 : decode cL_book 21 = .ok (.iconst 1, 1) := by decide +kernel
theorem dL_book_22 : decode cL_book 22 = .ok (.ireturn, 1) := by decide +kernel
theorem dL_book_23 : decode cL_book 23 = .ok (.astore 7, 2) := by decide +kernel
theorem dL_book_25 : decode cL_book 25 = .ok (.iconst 2, 1) := by decide +kernel
theorem dL_book_26 : decode cL_book 26 = .ok (.ireturn, 1) := by decide +kernel
theorem dL_book_27 : decode cL_book 27 = .ok (.astore 7, 2) := by decide +kernel
theorem dL_book_29 : decode cL_book 29 = .ok (.iconst 3, 1) := by decide +kernel
theorem dL_book_30 : decode cL_book 30 = .ok (.ireturn, 1) := by decide +kernel
theorem dL_book_31 : decode cL_book 31 = .ok (.iconst 0, 1) := by decide +kernel
theorem dL_book_32 : decode cL_book 32 = .ok (.ireturn, 1) := by decide +kernel
set_option maxRecDepth 20000 in
theorem ggL_cancel_X10_cancel : GoodIn wsL_cancel wsX10_cancel := goodIn_ca (goodIn_ca (goodIn_r _ [7, 8, 9, 10, 11, 12, 13, 14, 15, 16, 6, 17, 18, 19, 20, 21, 22, 23, 24, 25, 26, 27, 28, 29, 30, 31, 32, 33, 34, 35, 36, 37, 38, 39, 40, 41, 42, 43, 44, 45, 46, 47, 48, 49, 50, 51, 52, 53, 54, 55, 56, 57, 58, 59, 60, 61, 62, 63, 64, 65, 66, 67, 68, 69, 70, 71, 72, 73, 74, 75, 76, 77, 78, 79, 80, 81, 82, 83, 84, 85, 86, 87, 88, 89, 90, 91, 92, 93, 94, 95, 96, 97, 98, 99, 100, 101, 102, 103, 104, 105, 106, 107, 108, 109, 110, 111, 112, 113, 114, 115, 116, 117, 118, 119, 120, 121, 122] (by decide +kernel) (by decide +kernel)) (goodIn_sub (fun _ h => List.mem_cons_of_mem _ (List.mem_append_left _ (List.mem_append_right _ h))) (by decide +kernel))) (goodIn_sub (fun _ h => List.mem_cons_of_mem _ (List.mem_append_right _ h)) (by decide +kernel))
set_option maxRecDepth 20000 in
theorem gL_cancel_X10_cancel : GoodIn wsL_cancel (wsV RL 94 RX10 yX10_cancel wsX10_cancel) := goodIn_app (goodIn_of _ (by decide +kernel)) ggL_cancel_X10_cancel
theorem dL_cancel_0 : decode cL_cancel 0 = .ok (.aload_n 2, 1) := by decide +kernel
theorem dL_cancel_1 : decode cL_cancel 1 = .ok (.iconst 0, 1) := by decide +kernel
theorem dL_cancel_2 : decode cL_cancel 2 = .ok (.aload_n 0, 1) := by decide +kernel
theorem dL_cancel_3 : decode cL_cancel 3 = .ok (.iload_n 1, 1) := by decide +kernel
theorem dL_cancel_4 : decode cL_cancel 4 = .ok (.invokevirtual 94, 3) := by decide +kernel
theorem dL_cancel_7 : decode cL_cancel 7 = .ok (.lastore, 1) := by decide +kernel
theorem dL_cancel_8 : decode cL_cancel 8 = .ok (.goto 9, 3) := by decide +kernel
theorem dL_cancel_11 : decode cL_cancel 11 = .ok (.astore_n 3, 1) := by decide +kernel
theorem dL_cancel_12 : decode cL_cancel 12 = .ok (.iconst 1, 1) := by decide +kernel
theorem dL_cancel_13 : decode cL_cancel 13 = .ok (.ireturn, 1) := by decide +kernel
theorem dL_cancel_14 : decode cL_cancel 14 = .ok (.astore_n 3, 1) := by decide +kernel
theorem dL_cancel_15 : decode cL_cancel 15 = .ok (.iconst 2, 1) := by decide +kernel
theorem dL_cancel_16 : decode cL_cancel 16 = .ok (.ireturn, 1) := by decide +kernel
theorem dL_cancel_17 : decode cL_cancel 17 = .ok (.iconst 0, 1) := by decide +kernel
theorem dL_cancel_18 : decode cL_cancel 18 = .ok (.ireturn, 1) := by decide +kernel
set_option maxRecDepth 20000 in
theorem ggL_release_X10_release : GoodIn wsL_release wsX10_release := goodIn_ca (goodIn_ca (goodIn_r _ [7, 8, 9, 10, 11, 12, 13, 14, 15, 16, 17, 6, 18, 19, 20, 21, 22, 23, 24, 25, 26, 27, 28, 29, 30, 31, 32, 33, 34, 35, 36, 37, 38, 39, 40, 41, 42, 43, 44, 45, 46, 47, 48, 49, 50, 51, 52, 53, 54, 55, 56, 57, 58, 59, 60, 61, 62, 63, 64, 65, 66, 67, 68, 69, 70, 71, 72, 73, 74, 75, 76, 77, 78, 79, 80, 81, 82, 83, 84, 85, 86, 87] (by decide +kernel) (by decide +kernel)) (goodIn_sub (fun _ h => List.mem_cons_of_mem _ (List.mem_append_left _ (List.mem_append_right _ h))) (by decide +kernel))) (goodIn_sub (fun _ h => List.mem_cons_of_mem _ (List.mem_append_right _ h)) (by decide +kernel))
set_option maxRecDepth 20000 in
theorem gL_release_X10_release : GoodIn wsL_release (wsV RL 97 RX10 yX10_release wsX10_release) := goodIn_app (goodIn_of _ (by decide +kernel)) ggL_release_X10_release
theorem dL_release_0 : decode cL_release 0 = .ok (.aload_n 2, 1) := by decide +kernel
theorem dL_release_1 : decode cL_release 1 = .ok (.iconst 0, 1) := by decide +kernel
theorem dL_release_2 : decode cL_release 2 = .ok (.aload_n 0, 1) := by decide +kernel
theorem dL_release_3 : decode cL_release 3 = .ok (.iload_n 1, 1) := by decide +kernel
theorem dL_release_4 : decode cL_release 4 = .ok (.invokevirtual 97, 3) := by decide +kernel
theorem dL_release_7 : decode cL_release 7 = .ok (.i2l, 1) := by decide +kernel
theorem dL_release_8 : decode cL_release 8 = .ok (.lastore, 1) := by decide +kernel
theorem dL_release_9 : decode cL_release 9 = .ok (.goto 9, 3) := by decide +kernel
theorem dL_release_12 : decode cL_release 12 = .ok (.astore_n 3, 1) := by decide +kernel
theorem dL_release_13 : decode cL_release 13 = .ok (.iconst 1, 1) := by decide +kernel
theorem dL_release_14 : decode cL_release 14 = .ok (.ireturn, 1) := by decide +kernel
theorem dL_release_15 : decode cL_release 15 = .ok (.astore_n 3, 1) := by decide +kernel
theorem dL_release_16 : decode cL_release 16 = .ok (.iconst 2, 1) := by decide +kernel
theorem dL_release_17 : decode cL_release 17 = .ok (.ireturn, 1) := by decide +kernel
theorem dL_release_18 : decode cL_release 18 = .ok (.iconst 0, 1) := by decide +kernel
theorem dL_release_19 : decode cL_release 19 = .ok (.ireturn, 1) := by decide +kernel
set_option maxRecDepth 20000 in
theorem ggL_accept_X10_accept : GoodIn wsL_accept wsX10_accept := goodIn_ca (goodIn_ca (goodIn_r _ [7, 8, 9, 10, 11, 12, 13, 14, 15, 16, 17, 18, 19, 20, 6, 21, 22, 23, 24, 25, 26, 27, 28, 29, 30, 31, 32, 33, 34, 35, 36, 37, 38, 39, 40, 41, 42, 43, 44, 45, 46, 47, 48, 49, 50, 51, 52, 53, 54, 55, 56, 57, 58, 59, 60, 61, 62, 63, 64, 65, 66, 67, 68, 69, 70, 71, 72, 73, 74, 75, 76, 77, 78, 79, 80, 81, 82, 83, 84, 85, 86, 87, 88, 89, 90, 91, 92, 93, 94, 95, 96, 97, 98, 99, 100, 101, 102, 103, 104, 105, 106, 107, 108, 109, 110, 111, 112, 113, 114, 115, 116, 117, 118, 119, 120, 121, 122, 123, 124, 125, 126, 127, 128, 129, 130, 131, 132, 133, 134] (by decide +kernel) (by decide +kernel)) (goodIn_sub (fun _ h => List.mem_cons_of_mem _ (List.mem_append_left _ (List.mem_append_right _ h))) (by decide +kernel))) (goodIn_sub (fun _ h => List.mem_cons_of_mem _ (List.mem_append_right _ h)) (by decide +kernel))
set_option maxRecDepth 20000 in
theorem gL_accept_X10_accept : GoodIn wsL_accept (wsV RL 100 RX10 yX10_accept wsX10_accept) := goodIn_app (goodIn_of _ (by decide +kernel)) ggL_accept_X10_accept
theorem dL_accept_0 : decode cL_accept 0 = .ok (.aload_n 2, 1) := by decide +kernel
theorem dL_accept_1 : decode cL_accept 1 = .ok (.iconst 0, 1) := by decide +kernel
theorem dL_accept_2 : decode cL_accept 2 = .ok (.aload_n 0, 1) := by decide +kernel
theorem dL_accept_3 : decode cL_accept 3 = .ok (.iload_n 1, 1) := by decide +kernel
theorem dL_accept_4 : decode cL_accept 4 = .ok (.invokevirtual 100, 3) := by decide +kernel
theorem dL_accept_7 : decode cL_accept 7 = .ok (.lastore, 1) := by decide +kernel
theorem dL_accept_8 : decode cL_accept 8 = .ok (.goto 9, 3) := by decide +kernel
theorem dL_accept_11 : decode cL_accept 11 = .ok (.astore_n 3, 1) := by decide +kernel
theorem dL_accept_12 : decode cL_accept 12 = .ok (.iconst 1, 1) := by decide +kernel
theorem dL_accept_13 : decode cL_accept 13 = .ok (.ireturn, 1) := by decide +kernel
theorem dL_accept_14 : decode cL_accept 14 = .ok (.astore_n 3, 1) := by decide +kernel
theorem dL_accept_15 : decode cL_accept 15 = .ok (.iconst 2, 1) := by decide +kernel
theorem dL_accept_16 : decode cL_accept 16 = .ok (.ireturn, 1) := by decide +kernel
theorem dL_accept_17 : decode cL_accept 17 = .ok (.iconst 0, 1) := by decide +kernel
theorem dL_accept_18 : decode cL_accept 18 = .ok (.ireturn, 1) := by decide +kernel
set_option maxRecDepth 20000 in
theorem ggL_setRate_X10_setRate : GoodIn wsL_setRate wsX10_setRate := goodIn_ca (goodIn_ca (goodIn_r _ [7, 8, 9, 10, 11, 12, 13, 14, 6, 15, 16, 17, 18, 19, 20, 21, 22, 23, 24, 25, 26, 27, 28, 29, 30, 31, 32, 33, 34, 35, 36, 37, 38, 39, 40, 41, 42, 43, 44, 45, 46, 47, 48, 49, 50, 51, 52, 53, 54, 55, 56, 57, 58, 59, 60, 61, 62, 63, 64, 65, 66, 67, 68, 69, 70, 71, 72, 73, 74, 75, 76, 77, 78, 79, 80, 81, 82, 83, 84, 85, 86, 87, 88, 89, 90, 91, 92, 93, 94, 95, 96, 97, 98] (by decide +kernel) (by decide +kernel)) (goodIn_sub (fun _ h => List.mem_cons_of_mem _ (List.mem_append_left _ (List.mem_append_right _ h))) (by decide +kernel))) (goodIn_sub (fun _ h => List.mem_cons_of_mem _ (List.mem_append_right _ h)) (by decide +kernel))
set_option maxRecDepth 20000 in
theorem gL_setRate_X10_setRate : GoodIn wsL_setRate (wsV RL 103 RX10 yX10_setRate wsX10_setRate) := goodIn_app (goodIn_of _ (by decide +kernel)) ggL_setRate_X10_setRate
theorem dL_setRate_0 : decode cL_setRate 0 = .ok (.aload_n 3, 1) := by decide +kernel
theorem dL_setRate_1 : decode cL_setRate 1 = .ok (.iconst 0, 1) := by decide +kernel
theorem dL_setRate_2 : decode cL_setRate 2 = .ok (.aload_n 0, 1) := by decide +kernel
theorem dL_setRate_3 : decode cL_setRate 3 = .ok (.iload_n 1, 1) := by decide +kernel
theorem dL_setRate_4 : decode cL_setRate 4 = .ok (.iload_n 2, 1) := by decide +kernel
theorem dL_setRate_5 : decode cL_setRate 5 = .ok (.invokevirtual 103, 3) := by decide +kernel
theorem dL_setRate_8 : decode cL_setRate 8 = .ok (.i2l, 1) := by decide +kernel
theorem dL_setRate_9 : decode cL_setRate 9 = .ok (.lastore, 1) := by decide +kernel
theorem dL_setRate_10 : decode cL_setRate 10 = .ok (.goto 11, 3) := by decide +kernel
theorem dL_setRate_13 : decode cL_setRate 13 = .ok (.astore 4, 2) := by decide +kernel
theorem dL_setRate_15 : decode cL_setRate 15 = .ok (.iconst 1, 1) := by decide +kernel
theorem dL_setRate_16 : decode cL_setRate 16 = .ok (.ireturn, 1) := by decide +kernel
theorem dL_setRate_17 : decode cL_setRate 17 = .ok (.astore 4, 2) := by decide +kernel
theorem dL_setRate_19 : decode cL_setRate 19 = .ok (.iconst 2, 1) := by decide +kernel
theorem dL_setRate_20 : decode cL_setRate 20 = .ok (.ireturn, 1) := by decide +kernel
theorem dL_setRate_21 : decode cL_setRate 21 = .ok (.iconst 0, 1) := by decide +kernel
theorem dL_setRate_22 : decode cL_setRate 22 = .ok (.ireturn, 1) := by decide +kernel
set_option maxRecDepth 20000 in
theorem ggL_setTolerance_X10_setTolerance : GoodIn wsL_setTolerance wsX10_setTolerance := goodIn_ca (goodIn_r _ [6, 7, 8, 9, 10, 11, 12, 13, 5, 14, 15, 16, 17, 18, 19, 20, 21, 22, 23, 24, 25, 26, 27, 28, 29, 30, 31, 32, 33, 34, 35, 36, 37, 38, 39, 40, 41, 42, 43, 44, 45, 46, 47, 48, 49, 50, 51, 52, 53, 54, 55, 56, 57, 58, 59, 60, 61, 62, 63, 64, 65, 66, 67, 68, 69, 70, 71, 72, 73, 74, 75, 76, 77, 78] (by decide +kernel) (by decide +kernel)) (goodIn_sub (fun _ h => List.mem_cons_of_mem _ (List.mem_append_right _ h)) (by decide +kernel))
set_option maxRecDepth 20000 in
theorem gL_setTolerance_X10_setTolerance : GoodIn wsL_setTolerance (wsV RL 106 RX10 yX10_setTolerance wsX10_setTolerance) := goodIn_app (goodIn_of _ (by decide +kernel)) ggL_setTolerance_X10_setTolerance
theorem dL_setTolerance_0 : decode cL_setTolerance 0 = .ok (.aload_n 2, 1) := by decide +kernel
theorem dL_setTolerance_1 : decode cL_setTolerance 1 = .ok (.iconst 0, 1) := by decide +kernel
theorem dL_setTolerance_2 : decode cL_setTolerance 2 = .ok (.aload_n 0, 1) := by decide +kernel
theorem dL_setTolerance_3 : decode cL_setTolerance 3 = .ok (.iload_n 1, 1) := by decide +kernel
theorem dL_setTolerance_4 : decode cL_setTolerance 4 = .ok (.invokevirtual 106, 3) := by decide +kernel
theorem dL_setTolerance_7 : decode cL_setTolerance 7 = .ok (.i2l, 1) := by decide +kernel
theorem dL_setTolerance_8 : decode cL_setTolerance 8 = .ok (.lastore, 1) := by decide +kernel
theorem dL_setTolerance_9 : decode cL_setTolerance 9 = .ok (.goto 6, 3) := by decide +kernel
theorem dL_setTolerance_12 : decode cL_setTolerance 12 = .ok (.astore_n 3, 1) := by decide +kernel
theorem dL_setTolerance_13 : decode cL_setTolerance 13 = .ok (.iconst 1, 1) := by decide +kernel
theorem dL_setTolerance_14 : decode cL_setTolerance 14 = .ok (.ireturn, 1) := by decide +kernel
theorem dL_setTolerance_15 : decode cL_setTolerance 15 = .ok (.iconst 0, 1) := by decide +kernel
theorem dL_setTolerance_16 : decode cL_setTolerance 16 = .ok (.ireturn, 1) := by decide +kernel
set_option maxRecDepth 20000 in
theorem ggL_net_X10_net : GoodIn wsL_net wsX10_net := goodIn_ca (goodIn_r _ [6, 7, 8, 9, 10, 11, 12, 13, 14, 15, 16, 17, 18, 19, 20, 21, 22, 23, 24, 25, 26, 27, 28, 29, 30, 31, 32, 33, 34, 35, 36, 37, 38, 39, 40, 41, 42, 43, 44, 45, 46, 47, 48, 49, 50, 51, 52, 53, 54, 55, 56, 57, 58, 59, 60, 61, 62, 63, 64, 65, 66, 67, 68, 69, 70, 71, 72, 73, 74, 75, 76, 77, 78, 79, 80, 81, 82, 83, 84, 85, 86, 87, 88, 89, 90, 91, 92, 93, 94, 95, 96, 97, 98, 99, 100, 101, 102, 103, 104, 105, 106, 107, 108, 109, 110, 111, 112, 113, 114, 115, 116, 117, 118, 119, 120, 121, 122, 123, 124, 125, 126, 127, 128, 129, 130, 131, 132, 133, 134, 135, 136, 137, 138, 139, 140, 141, 142, 143, 144, 145, 146, 147, 148, 149, 150, 151, 152, 153, 154, 155, 156] (by decide +kernel) (by decide +kernel)) (goodIn_sub (fun _ h => List.mem_cons_of_mem _ (List.mem_append_right _ h)) (by decide +kernel))
set_option maxRecDepth 20000 in
theorem gL_net_X10_net : GoodIn wsL_net (wsV RL 109 RX10 yX10_net wsX10_net) := goodIn_app (goodIn_of _ (by decide +kernel)) ggL_net_X10_net
theorem dL_net_0 : decode cL_net 0 = .ok (.aload_n 1, 1) := by decide +kernel
theorem dL_net_1 : decode cL_net 1 = .ok (.iconst 0, 1) := by decide +kernel
theorem dL_net_2 : decode cL_net 2 = .ok (.aload_n 0, 1) := by decide +kernel
theorem dL_net_3 : decode cL_net 3 = .ok (.invokevirtual 109, 3) := by decide +kernel
theorem dL_net_6 : decode cL_net 6 = .ok (.i2l, 1) := by decide +kernel
theorem dL_net_7 : decode cL_net 7 = .ok (.lastore, 1) := by decide +kernel
theorem dL_net_8 : decode cL_net 8 = .ok (.goto 6, 3) := by decide +kernel
theorem dL_net_11 : decode cL_net 11 = .ok (.astore_n 2, 1) := by decide +kernel
theorem dL_net_12 : decode cL_net 12 = .ok (.iconst 1, 1) := by decide +kernel
theorem dL_net_13 : decode cL_net 13 = .ok (.ireturn, 1) := by decide +kernel
theorem dL_net_14 : decode cL_net 14 = .ok (.iconst 0, 1) := by decide +kernel
theorem dL_net_15 : decode cL_net 15 = .ok (.ireturn, 1) := by decide +kernel
set_option maxRecDepth 20000 in
theorem ggL_deliver_X10_deliver : GoodIn wsL_deliver wsX10_deliver := goodIn_ca (goodIn_ca (goodIn_ca (goodIn_r _ [8, 9, 10, 11, 12, 13, 14, 15, 16, 17, 18, 19, 20, 21, 22, 23, 24, 25, 7, 26, 27, 28, 29, 30, 31, 32, 33, 34, 35, 36, 37, 38, 39, 40, 41, 42, 43, 44, 45, 46, 47, 48, 49, 50, 51, 52, 53, 54, 55, 56, 57, 58, 59, 60, 61, 62, 63, 64, 65, 66, 67, 68, 69, 70, 71, 72, 73, 74, 75, 76, 77, 78, 79, 80, 81, 82, 83, 84, 85, 86, 87, 88, 89, 90, 91, 92, 93, 94, 95, 96, 97, 98, 99, 100, 101, 102, 103, 104, 105, 106, 107, 108, 109, 110, 111, 112, 113, 114, 115, 116, 117, 118, 119, 120, 121, 122, 123, 124, 125, 126, 127, 128, 129, 130, 131, 132, 133, 134, 135, 136, 137, 138, 139, 140, 141, 142, 143, 144, 145, 146, 147, 148, 149, 150, 151, 152, 153] (by decide +kernel) (by decide +kernel)) (goodIn_sub (fun _ h => List.mem_cons_of_mem _ (List.mem_append_left _ (List.mem_append_left _ (List.mem_append_right _ h)))) (by decide +kernel))) (goodIn_sub (fun _ h => List.mem_cons_of_mem _ (List.mem_append_left _ (List.mem_append_right _ h))) (by decide +kernel))) (goodIn_sub (fun _ h => List.mem_cons_of_mem _ (List.mem_append_right _ h)) (by decide +kernel))
set_option maxRecDepth 20000 in
theorem gL_deliver_X10_deliver : GoodIn wsL_deliver (wsV RL 113 RX10 yX10_deliver wsX10_deliver) := goodIn_app (goodIn_of _ (by decide +kernel)) ggL_deliver_X10_deliver
theorem dL_deliver_0 : decode cL_deliver 0 = .ok (.aload 6, 2) := by decide +kernel
theorem dL_deliver_2 : decode cL_deliver 2 = .ok (.iconst 0, 1) := by decide +kernel
theorem dL_deliver_3 : decode cL_deliver 3 = .ok (.aload_n 0, 1) := by decide +kernel
theorem dL_deliver_4 : decode cL_deliver 4 = .ok (.iload_n 1, 1) := by decide +kernel
theorem dL_deliver_5 : decode cL_deliver 5 = .ok (.iload_n 2, 1) := by decide +kernel
theorem dL_deliver_6 : decode cL_deliver 6 = .ok (.iload_n 3, 1) := by decide +kernel
theorem dL_deliver_7 : decode cL_deliver 7 = .ok (.iload 4, 2) := by decide +kernel
theorem dL_deliver_9 : decode cL_deliver 9 = .ok (.iload 5, 2) := by decide +kernel
theorem dL_deliver_11 : decode cL_deliver 11 = .ok (.invokevirtual 113, 3) := by decide +kernel
theorem dL_deliver_14 : decode cL_deliver 14 = .ok (.i2l, 1) := by decide +kernel
theorem dL_deliver_15 : decode cL_deliver 15 = .ok (.lastore, 1) := by decide +kernel
theorem dL_deliver_16 : decode cL_deliver 16 = .ok (.goto 15, 3) := by decide +kernel
theorem dL_deliver_19 : decode cL_deliver 19 = .ok (.astore 7, 2) := by decide +kernel
theorem dL_deliver_21 : decode cL_deliver 21 = .ok (.iconst 1, 1) := by decide +kernel
theorem dL_deliver_22 : decode cL_deliver 22 = .ok (.ireturn, 1) := by decide +kernel
theorem dL_deliver_23 : decode cL_deliver 23 = .ok (.astore 7, 2) := by decide +kernel
theorem dL_deliver_25 : decode cL_deliver 25 = .ok (.iconst 2, 1) := by decide +kernel
theorem dL_deliver_26 : decode cL_deliver 26 = .ok (.ireturn, 1) := by decide +kernel
theorem dL_deliver_27 : decode cL_deliver 27 = .ok (.astore 7, 2) := by decide +kernel
theorem dL_deliver_29 : decode cL_deliver 29 = .ok (.iconst 3, 1) := by decide +kernel
theorem dL_deliver_30 : decode cL_deliver 30 = .ok (.ireturn, 1) := by decide +kernel
theorem dL_deliver_31 : decode cL_deliver 31 = .ok (.iconst 0, 1) := by decide +kernel
theorem dL_deliver_32 : decode cL_deliver 32 = .ok (.ireturn, 1) := by decide +kernel
set_option maxRecDepth 20000 in
theorem ggL_sell_X10_sell : GoodIn wsL_sell wsX10_sell := goodIn_ca (goodIn_ca (goodIn_ca (goodIn_r _ [8, 9, 10, 11, 12, 13, 14, 15, 16, 17, 18, 19, 7, 20, 21, 22, 23, 24, 25, 26, 27, 28, 29, 30, 31, 32, 33, 34, 35, 36, 37, 38, 39, 40, 41, 42, 43, 44, 45, 46, 47, 48, 49, 50, 51, 52, 53, 54, 55, 56, 57, 58, 59, 60, 61, 62, 63, 64, 65, 66, 67, 68, 69, 70, 71, 72, 73, 74, 75, 76, 77, 78, 79, 80, 81, 82, 83, 84, 85, 86, 87, 88, 89, 90, 91, 92, 93, 94, 95, 96, 97, 98, 99, 100, 101, 102, 103, 104, 105, 106, 107, 108, 109, 110, 111, 112, 113, 114, 115, 116, 117, 118, 119, 120, 121, 122, 123, 124, 125, 126, 127, 128, 129, 130, 131, 132, 133, 134, 135, 136, 137, 138, 139, 140, 141, 142] (by decide +kernel) (by decide +kernel)) (goodIn_sub (fun _ h => List.mem_cons_of_mem _ (List.mem_append_left _ (List.mem_append_left _ (List.mem_append_right _ h)))) (by decide +kernel))) (goodIn_sub (fun _ h => List.mem_cons_of_mem _ (List.mem_append_left _ (List.mem_append_right _ h))) (by decide +kernel))) (goodIn_sub (fun _ h => List.mem_cons_of_mem _ (List.mem_append_right _ h)) (by decide +kernel))
set_option maxRecDepth 20000 in
theorem gL_sell_X10_sell : GoodIn wsL_sell (wsV RL 116 RX10 yX10_sell wsX10_sell) := goodIn_app (goodIn_of _ (by decide +kernel)) ggL_sell_X10_sell
theorem dL_sell_0 : decode cL_sell 0 = .ok (.aload 5, 2) := by decide +kernel
theorem dL_sell_2 : decode cL_sell 2 = .ok (.iconst 0, 1) := by decide +kernel
theorem dL_sell_3 : decode cL_sell 3 = .ok (.aload_n 0, 1) := by decide +kernel
theorem dL_sell_4 : decode cL_sell 4 = .ok (.iload_n 1, 1) := by decide +kernel
theorem dL_sell_5 : decode cL_sell 5 = .ok (.iload_n 2, 1) := by decide +kernel
theorem dL_sell_6 : decode cL_sell 6 = .ok (.iload_n 3, 1) := by decide +kernel
theorem dL_sell_7 : decode cL_sell 7 = .ok (.iload 4, 2) := by decide +kernel
theorem dL_sell_9 : decode cL_sell 9 = .ok (.invokevirtual 116, 3) := by decide +kernel
theorem dL_sell_12 : decode cL_sell 12 = .ok (.lastore, 1) := by decide +kernel
theorem dL_sell_13 : decode cL_sell 13 = .ok (.goto 15, 3) := by decide +kernel
theorem dL_sell_16 : decode cL_sell 16 = .ok (.astore 6, 2) := by decide +kernel
theorem dL_sell_18 : decode cL_sell 18 = .ok (.iconst 1, 1) := by decide +kernel
theorem dL_sell_19 : decode cL_sell 19 = .ok (.ireturn, 1) := by decide +kernel
theorem dL_sell_20 : decode cL_sell 20 = .ok (.astore 6, 2) := by decide +kernel
theorem dL_sell_22 : decode cL_sell 22 = .ok (.iconst 2, 1) := by decide +kernel
theorem dL_sell_23 : decode cL_sell 23 = .ok (.ireturn, 1) := by decide +kernel
theorem dL_sell_24 : decode cL_sell 24 = .ok (.astore 6, 2) := by decide +kernel
theorem dL_sell_26 : decode cL_sell 26 = .ok (.iconst 3, 1) := by decide +kernel
theorem dL_sell_27 : decode cL_sell 27 = .ok (.ireturn, 1) := by decide +kernel
theorem dL_sell_28 : decode cL_sell 28 = .ok (.iconst 0, 1) := by decide +kernel
theorem dL_sell_29 : decode cL_sell 29 = .ok (.ireturn, 1) := by decide +kernel
