set_option maxRecDepth 20000 in
theorem ggX3_put_X1_countUpTo : GoodIn wsX3_put wsX1_countUpTo := goodIn_r _ [30, 31, 32, 33, 34, 21, 35, 36, 37, 38, 39, 40, 41, 110, 111, 105, 106, 107, 108, 109] (by decide +kernel) (by decide +kernel)
set_option maxRecDepth 20000 in
theorem gX3_put_X1_countUpTo : GoodIn wsX3_put (wsV RX3 59 RX1 yX1_countUpTo wsX1_countUpTo) := goodIn_app (goodIn_of _ (by decide +kernel)) ggX3_put_X1_countUpTo
set_option maxRecDepth 20000 in
theorem ggX3_put_X3_pageToPutOn : GoodIn wsX3_put wsX3_pageToPutOn := goodIn_r _ [50, 6, 51, 52, 53, 54, 55, 56, 57, 58, 59, 60, 61, 62, 63, 64, 65, 66, 67, 68, 69, 98, 99, 100, 101, 102, 103, 104, 112, 113] (by decide +kernel) (by decide +kernel)
set_option maxRecDepth 20000 in
theorem gX3_put_X3_pageToPutOn : GoodIn wsX3_put (wsV RX3 63 RX3 yX3_pageToPutOn wsX3_pageToPutOn) := goodIn_app (goodIn_of _ (by decide +kernel)) ggX3_put_X3_pageToPutOn
set_option maxRecDepth 20000 in
theorem ggX3_put_X2_sizeOf : GoodIn wsX3_put wsX2_sizeOf := goodIn_r _ [64, 65, 66, 67, 68, 58, 69, 60, 112, 113] (by decide +kernel) (by decide +kernel)
set_option maxRecDepth 20000 in
theorem gX3_put_X2_sizeOf : GoodIn wsX3_put (wsV RX3 66 RX2 yX2_sizeOf wsX2_sizeOf) := goodIn_app (goodIn_of _ (by decide +kernel)) ggX3_put_X2_sizeOf
set_option maxRecDepth 20000 in
theorem ggX3_put_X2_split : GoodIn wsX3_put wsX2_split := goodIn_r _ [74, 60, 65, 66, 67, 68, 58, 69, 112, 113] (by decide +kernel) (by decide +kernel)
set_option maxRecDepth 20000 in
theorem gX3_put_X2_split : GoodIn wsX3_put (wsV RX3 69 RX2 yX2_split wsX2_split) := goodIn_app (goodIn_of _ (by decide +kernel)) ggX3_put_X2_split
set_option maxRecDepth 20000 in
theorem ggX3_put_X2_addTo : GoodIn wsX3_put wsX2_addTo := goodIn_r _ [78, 60, 65, 66, 67, 68, 58, 69, 112, 113] (by decide +kernel) (by decide +kernel)
set_option maxRecDepth 20000 in
theorem gX3_put_X2_addTo : GoodIn wsX3_put (wsV RX3 72 RX2 yX2_addTo wsX2_addTo) := goodIn_app (goodIn_of _ (by decide +kernel)) ggX3_put_X2_addTo
set_option maxRecDepth 20000 in
theorem ggX3_put_X0_init : GoodIn wsX3_put wsX0_init := goodIn_r _ [81, 82, 83, 84, 85, 86, 87, 88, 89, 105, 106, 107, 108, 109] (by decide +kernel) (by decide +kernel)
set_option maxRecDepth 20000 in
theorem gX3_put_X0_init : GoodIn wsX3_put (wsX0_init) := ggX3_put_X0_init
set_option maxRecDepth 20000 in
theorem ggX3_put_X1_insert : GoodIn wsX3_put wsX1_insert := goodIn_r _ [93, 31, 41, 110, 111] (by decide +kernel) (by decide +kernel)
set_option maxRecDepth 20000 in
theorem gX3_put_X1_insert : GoodIn wsX3_put (wsV RX3 83 RX1 yX1_insert wsX1_insert) := goodIn_app (goodIn_of _ (by decide +kernel)) ggX3_put_X1_insert
set_option maxRecDepth 20000 in
theorem ggX3_put_X2_count : GoodIn wsX3_put wsX2_count := goodIn_r _ [97, 60, 112, 113] (by decide +kernel) (by decide +kernel)
set_option maxRecDepth 20000 in
theorem gX3_put_X2_count : GoodIn wsX3_put (wsV RX3 87 RX2 yX2_count wsX2_count) := goodIn_app (goodIn_of _ (by decide +kernel)) ggX3_put_X2_count
theorem dX3_put_0 : decode cX3_put 0 = .ok (.iload_n 1, 1) := by decide +kernel
theorem dX3_put_1 : decode cX3_put 1 = .ok (.invokestatic 31, 3) := by decide +kernel
theorem dX3_put_4 : decode cX3_put 4 = .ok (.iload_n 2, 1) := by decide +kernel
theorem dX3_put_5 : decode cX3_put 5 = .ok (.iconst 1, 1) := by decide +kernel
theorem dX3_put_6 : decode cX3_put 6 = .ok (.sipush 10000, 3) := by decide +kernel
theorem dX3_put_9 : decode cX3_put 9 = .ok (.invokestatic 35, 3) := by decide +kernel
theorem dX3_put_12 : decode cX3_put 12 = .ok (.ifCond .eq 13, 3) := by decide +kernel
theorem dX3_put_15 : decode cX3_put 15 = .ok (.iload_n 3, 1) := by decide +kernel
theorem dX3_put_16 : decode cX3_put 16 = .ok (.iconst 0, 1) := by decide +kernel
theorem dX3_put_17 : decode cX3_put 17 = .ok (.bipush 9, 2) := by decide +kernel
theorem dX3_put_19 : decode cX3_put 19 = .ok (.invokestatic 35, 3) := by decide +kernel
theorem dX3_put_22 : decode cX3_put 22 = .ok (.ifCond .ne 13, 3) := by decide +kernel
theorem dX3_put_25 : decode cX3_put 25 = .ok (.new 39, 3) := by decide +kernel
theorem dX3_put_28 : decode cX3_put 28 = .ok (.dup, 1) := by decide +kernel
theorem dX3_put_29 : decode cX3_put 29 = .ok (.ldc 41, 2) := by decide +kernel
theorem dX3_put_31 : decode cX3_put 31 = .ok (.invokespecial 43, 3) := by decide +kernel
theorem dX3_put_34 : decode cX3_put 34 = .ok (.athrow, 1) := by decide +kernel
theorem dX3_put_35 : decode cX3_put 35 = .ok (.aload_n 0, 1) := by decide +kernel
theorem dX3_put_36 : decode cX3_put 36 = .ok (.getfield 10, 3) := by decide +kernel
theorem dX3_put_39 : decode cX3_put 39 = .ok (.iload_n 1, 1) := by decide +kernel
theorem dX3_put_40 : decode cX3_put 40 = .ok (.invokevirtual 46, 3) := by decide +kernel
theorem dX3_put_43 : decode cX3_put 43 = .ok (.ifnonnull 15, 3) := by decide +kernel
theorem dX3_put_46 : decode cX3_put 46 = .ok (.aload_n 0, 1) := by decide +kernel
theorem dX3_put_47 : decode cX3_put 47 = .ok (.getfield 10, 3) := by decide +kernel
theorem dX3_put_50 : decode cX3_put 50 = .ok (.invokevirtual 50, 3) := by decide +kernel
theorem dX3_put_53 : decode cX3_put 53 = .ok (.bipush 80, 2) := by decide +kernel
theorem dX3_put_55 : decode cX3_put 55 = .ok (.if_icmp .lt 13, 3) := by decide +kernel
theorem dX3_put_58 : decode cX3_put 58 = .ok (.new 54, 3) := by decide +kernel
theorem dX3_put_61 : decode cX3_put 61 = .ok (.dup, 1) := by decide +kernel
theorem dX3_put_62 : decode cX3_put 62 = .ok (.ldc 56, 2) := by decide +kernel
theorem dX3_put_64 : decode cX3_put 64 = .ok (.invokespecial 58, 3) := by decide +kernel
theorem dX3_put_67 : decode cX3_put 67 = .ok (.athrow, 1) := by decide +kernel
theorem dX3_put_68 : decode cX3_put 68 = .ok (.aload_n 0, 1) := by decide +kernel
theorem dX3_put_69 : decode cX3_put 69 = .ok (.getfield 10, 3) := by decide +kernel
theorem dX3_put_72 : decode cX3_put 72 = .ok (.iload_n 1, 1) := by decide +kernel
theorem dX3_put_73 : decode cX3_put 73 = .ok (.invokevirtual 59, 3) := by decide +kernel
theorem dX3_put_76 : decode cX3_put 76 = .ok (.istore 4, 2) := by decide +kernel
theorem dX3_put_78 : decode cX3_put 78 = .ok (.aload_n 0, 1) := by decide +kernel
theorem dX3_put_79 : decode cX3_put 79 = .ok (.getfield 19, 3) := by decide +kernel
theorem dX3_put_82 : decode cX3_put 82 = .ok (.aload_n 0, 1) := by decide +kernel
theorem dX3_put_83 : decode cX3_put 83 = .ok (.iload 4, 2) := by decide +kernel
theorem dX3_put_85 : decode cX3_put 85 = .ok (.invokevirtual 63, 3) := by decide +kernel
theorem dX3_put_88 : decode cX3_put 88 = .ok (.invokevirtual 66, 3) := by decide +kernel
theorem dX3_put_91 : decode cX3_put 91 = .ok (.iconst 4, 1) := by decide +kernel
theorem dX3_put_92 : decode cX3_put 92 = .ok (.if_icmp .lt 16, 3) := by decide +kernel
theorem dX3_put_95 : decode cX3_put 95 = .ok (.aload_n 0, 1) := by decide +kernel
theorem dX3_put_96 : decode cX3_put 96 = .ok (.getfield 19, 3) := by decide +kernel
theorem dX3_put_99 : decode cX3_put 99 = .ok (.aload_n 0, 1) := by decide +kernel
theorem dX3_put_100 : decode cX3_put 100 = .ok (.iload 4, 2) := by decide +kernel
theorem dX3_put_102 : decode cX3_put 102 = .ok (.invokevirtual 63, 3) := by decide +kernel
theorem dX3_put_105 : decode cX3_put 105 = .ok (.invokevirtual 69, 3) := by decide +kernel
theorem dX3_put_108 : decode cX3_put 108 = .ok (.aload_n 0, 1) := by decide +kernel
theorem dX3_put_109 : decode cX3_put 109 = .ok (.getfield 19, 3) := by decide +kernel
theorem dX3_put_112 : decode cX3_put 112 = .ok (.aload_n 0, 1) := by decide +kernel
theorem dX3_put_113 : decode cX3_put 113 = .ok (.iload 4, 2) := by decide +kernel
theorem dX3_put_115 : decode cX3_put 115 = .ok (.invokevirtual 63, 3) := by decide +kernel
theorem dX3_put_118 : decode cX3_put 118 = .ok (.invokevirtual 72, 3) := by decide +kernel
theorem dX3_put_121 : decode cX3_put 121 = .ok (.aload_n 0, 1) := by decide +kernel
theorem dX3_put_122 : decode cX3_put 122 = .ok (.getfield 10, 3) := by decide +kernel
theorem dX3_put_125 : decode cX3_put 125 = .ok (.iload 4, 2) := by decide +kernel
theorem dX3_put_127 : decode cX3_put 127 = .ok (.new 75, 3) := by decide +kernel
theorem dX3_put_130 : decode cX3_put 130 = .ok (.dup, 1) := by decide +kernel
theorem dX3_put_131 : decode cX3_put 131 = .ok (.iload_n 1, 1) := by decide +kernel
theorem dX3_put_132 : decode cX3_put 132 = .ok (.iload_n 2, 1) := by decide +kernel
theorem dX3_put_133 : decode cX3_put 133 = .ok (.iload_n 3, 1) := by decide +kernel
theorem dX3_put_134 : decode cX3_put 134 = .ok (.aload_n 0, 1) := by decide +kernel
theorem dX3_put_135 : decode cX3_put 135 = .ok (.getfield 77, 3) := by decide +kernel
theorem dX3_put_138 : decode cX3_put 138 = .ok (.invokespecial 80, 3) := by decide +kernel
theorem dX3_put_141 : decode cX3_put 141 = .ok (.invokevirtual 83, 3) := by decide +kernel
theorem dX3_put_144 : decode cX3_put 144 = .ok (.aload_n 0, 1) := by decide +kernel
theorem dX3_put_145 : decode cX3_put 145 = .ok (.getfield 19, 3) := by decide +kernel
theorem dX3_put_148 : decode cX3_put 148 = .ok (.invokevirtual 87, 3) := by decide +kernel
theorem dX3_put_151 : decode cX3_put 151 = .ok (.ireturn, 1) := by decide +kernel
set_option maxRecDepth 20000 in
theorem ggX3_payBack_X3_requireCase : GoodIn wsX3_payBack wsX3_requireCase := goodIn_ca (goodIn_r _ [9, 10, 11, 12, 13, 8, 14] (by decide +kernel) (by decide +kernel)) (goodIn_sub (fun _ h => List.mem_cons_of_mem _ (List.mem_append_right _ h)) (by decide +kernel))
set_option maxRecDepth 20000 in
theorem gX3_payBack_X3_requireCase : GoodIn wsX3_payBack (va_wsS RX3 31 yX3_requireCase wsX3_requireCase) := goodIn_app (goodIn_of _ (by decide +kernel)) ggX3_payBack_X3_requireCase
set_option maxRecDepth 20000 in
theorem ggX3_payBack_X1_find : GoodIn wsX3_payBack wsX1_find := goodIn_r _ [19, 20, 21, 22, 18, 23, 24, 25, 26, 27, 28, 29, 30, 31, 32, 33, 34, 35, 36, 37, 38, 103, 104, 98, 99, 100, 101, 102] (by decide +kernel) (by decide +kernel)
set_option maxRecDepth 20000 in
theorem gX3_payBack_X1_find : GoodIn wsX3_payBack (wsV RX3 46 RX1 yX1_find wsX1_find) := goodIn_app (goodIn_of _ (by decide +kernel)) ggX3_payBack_X1_find
set_option maxRecDepth 20000 in
theorem ggX3_payBack_X0_hasForfeitDay : GoodIn wsX3_payBack wsX0_hasForfeitDay := goodIn_r _ [43, 44, 98, 99, 100, 101, 102] (by decide +kernel) (by decide +kernel)
set_option maxRecDepth 20000 in
theorem gX3_payBack_X0_hasForfeitDay : GoodIn wsX3_payBack (wsV RX3 88 RX0 yX0_hasForfeitDay wsX0_hasForfeitDay) := goodIn_app (goodIn_of _ (by decide +kernel)) ggX3_payBack_X0_hasForfeitDay
set_option maxRecDepth 20000 in
theorem ggX3_payBack_X1_placeOf : GoodIn wsX3_payBack wsX1_placeOf := goodIn_r _ [23, 24, 25, 26, 18, 27, 28, 29, 30, 31, 32, 33, 34, 35, 36, 37, 38, 103, 104, 98, 99, 100, 101, 102] (by decide +kernel) (by decide +kernel)
set_option maxRecDepth 20000 in
theorem gX3_payBack_X1_placeOf : GoodIn wsX3_payBack (wsV RX3 100 RX1 yX1_placeOf wsX1_placeOf) := goodIn_app (goodIn_of _ (by decide +kernel)) ggX3_payBack_X1_placeOf
set_option maxRecDepth 20000 in
theorem ggX3_payBack_X3_takeOut : GoodIn wsX3_payBack wsX3_takeOut := goodIn_r _ [49, 50, 3, 51, 52, 53, 54, 55, 56, 57, 58, 59, 60, 61, 62, 63, 64, 65, 66, 67, 68, 69, 70, 71, 72, 73, 74, 75, 76, 77, 78, 79, 80, 81, 82, 83, 84, 85, 18, 86, 28, 38, 34, 35, 36, 37, 87, 88, 89, 90, 91, 92, 93, 94, 95, 96, 97, 105, 106, 103, 104] (by decide +kernel) (by decide +kernel)
set_option maxRecDepth 20000 in
theorem gX3_payBack_X3_takeOut : GoodIn wsX3_payBack (wsV RX3 103 RX3 yX3_takeOut wsX3_takeOut) := goodIn_app (goodIn_of _ (by decide +kernel)) ggX3_payBack_X3_takeOut
theorem dX3_payBack_0 : decode cX3_payBack 0 = .ok (.iload_n 1, 1) := by decide +kernel
theorem dX3_payBack_1 : decode cX3_payBack 1 = .ok (.invokestatic 31, 3) := by decide +kernel
theorem dX3_payBack_4 : decode cX3_payBack 4 = .ok (.aload_n 0, 1) := by decide +kernel
theorem dX3_payBack_5 : decode cX3_payBack 5 = .ok (.getfield 10, 3) := by decide +kernel
theorem dX3_payBack_8 : decode cX3_payBack 8 = .ok (.iload_n 1, 1) := by decide +kernel
theorem dX3_payBack_9 : decode cX3_payBack 9 = .ok (.invokevirtual 46, 3) := by decide +kernel
theorem dX3_payBack_12 : decode cX3_payBack 12 = .ok (.astore_n 2, 1) := by decide +kernel
theorem dX3_payBack_13 : decode cX3_payBack 13 = .ok (.aload_n 2, 1) := by decide +kernel
theorem dX3_payBack_14 : decode cX3_payBack 14 = .ok (.ifnull 10, 3) := by decide +kernel
theorem dX3_payBack_17 : decode cX3_payBack 17 = .ok (.aload_n 2, 1) := by decide +kernel
theorem dX3_payBack_18 : decode cX3_payBack 18 = .ok (.invokevirtual 88, 3) := by decide +kernel
theorem dX3_payBack_21 : decode cX3_payBack 21 = .ok (.ifCond .eq 13, 3) := by decide +kernel
theorem dX3_payBack_24 : decode cX3_payBack 24 = .ok (.new 54, 3) := by decide +kernel
theorem dX3_payBack_27 : decode cX3_payBack 27 = .ok (.dup, 1) := by decide +kernel
theorem dX3_payBack_28 : decode cX3_payBack 28 = .ok (.ldc 92, 2) := by decide +kernel
theorem dX3_payBack_30 : decode cX3_payBack 30 = .ok (.invokespecial 58, 3) := by decide +kernel
theorem dX3_payBack_33 : decode cX3_payBack 33 = .ok (.athrow, 1) := by decide +kernel
theorem dX3_payBack_34 : decode cX3_payBack 34 = .ok (.aload_n 0, 1) := by decide +kernel
theorem dX3_payBack_35 : decode cX3_payBack 35 = .ok (.dup, 1) := by decide +kernel
theorem dX3_payBack_36 : decode cX3_payBack 36 = .ok (.getfield 94, 3) := by decide +kernel
theorem dX3_payBack_39 : decode cX3_payBack 39 = .ok (.aload_n 2, 1) := by decide +kernel
theorem dX3_payBack_40 : decode cX3_payBack 40 = .ok (.getfield 97, 3) := by decide +kernel
theorem dX3_payBack_43 : decode cX3_payBack 43 = .ok (.iadd, 1) := by decide +kernel
theorem dX3_payBack_44 : decode cX3_payBack 44 = .ok (.putfield 94, 3) := by decide +kernel
theorem dX3_payBack_47 : decode cX3_payBack 47 = .ok (.aload_n 0, 1) := by decide +kernel
theorem dX3_payBack_48 : decode cX3_payBack 48 = .ok (.aload_n 0, 1) := by decide +kernel
theorem dX3_payBack_49 : decode cX3_payBack 49 = .ok (.getfield 10, 3) := by decide +kernel
theorem dX3_payBack_52 : decode cX3_payBack 52 = .ok (.iload_n 1, 1) := by decide +kernel
theorem dX3_payBack_53 : decode cX3_payBack 53 = .ok (.invokevirtual 100, 3) := by decide +kernel
theorem dX3_payBack_56 : decode cX3_payBack 56 = .ok (.invokevirtual 103, 3) := by decide +kernel
theorem dX3_payBack_59 : decode cX3_payBack 59 = .ok (.aload_n 2, 1) := by decide +kernel
theorem dX3_payBack_60 : decode cX3_payBack 60 = .ok (.getfield 97, 3) := by decide +kernel
theorem dX3_payBack_63 : decode cX3_payBack 63 = .ok (.ireturn, 1) := by decide +kernel
set_option maxRecDepth 20000 in
theorem ggX3_forfeit_X3_requireCase : GoodIn wsX3_forfeit wsX3_requireCase := goodIn_ca (goodIn_r _ [9, 10, 11, 12, 13, 8, 14] (by decide +kernel) (by decide +kernel)) (goodIn_sub (fun _ h => List.mem_cons_of_mem _ (List.mem_append_right _ h)) (by decide +kernel))
set_option maxRecDepth 20000 in
theorem gX3_forfeit_X3_requireCase : GoodIn wsX3_forfeit (va_wsS RX3 31 yX3_requireCase wsX3_requireCase) := goodIn_app (goodIn_of _ (by decide +kernel)) ggX3_forfeit_X3_requireCase
set_option maxRecDepth 20000 in
theorem ggX3_forfeit_X1_find : GoodIn wsX3_forfeit wsX1_find := goodIn_r _ [19, 20, 21, 22, 18, 23, 24, 25, 26, 27, 28, 29, 30, 31, 32, 33, 34, 35, 36, 37, 38, 57, 58, 52, 53, 54, 55, 56] (by decide +kernel) (by decide +kernel)
set_option maxRecDepth 20000 in
theorem gX3_forfeit_X1_find : GoodIn wsX3_forfeit (wsV RX3 46 RX1 yX1_find wsX1_find) := goodIn_app (goodIn_of _ (by decide +kernel)) ggX3_forfeit_X1_find
set_option maxRecDepth 20000 in
theorem ggX3_forfeit_X0_hasForfeitDay : GoodIn wsX3_forfeit wsX0_hasForfeitDay := goodIn_r _ [43, 44, 52, 53, 54, 55, 56] (by decide +kernel) (by decide +kernel)
set_option maxRecDepth 20000 in
theorem gX3_forfeit_X0_hasForfeitDay : GoodIn wsX3_forfeit (wsV RX3 88 RX0 yX0_hasForfeitDay wsX0_hasForfeitDay) := goodIn_app (goodIn_of _ (by decide +kernel)) ggX3_forfeit_X0_hasForfeitDay
theorem dX3_forfeit_0 : decode cX3_forfeit 0 = .ok (.iload_n 1, 1) := by decide +kernel
theorem dX3_forfeit_1 : decode cX3_forfeit 1 = .ok (.invokestatic 31, 3) := by decide +kernel
theorem dX3_forfeit_4 : decode cX3_forfeit 4 = .ok (.aload_n 0, 1) := by decide +kernel
theorem dX3_forfeit_5 : decode cX3_forfeit 5 = .ok (.getfield 10, 3) := by decide +kernel
theorem dX3_forfeit_8 : decode cX3_forfeit 8 = .ok (.iload_n 1, 1) := by decide +kernel
theorem dX3_forfeit_9 : decode cX3_forfeit 9 = .ok (.invokevirtual 46, 3) := by decide +kernel
theorem dX3_forfeit_12 : decode cX3_forfeit 12 = .ok (.astore_n 2, 1) := by decide +kernel
theorem dX3_forfeit_13 : decode cX3_forfeit 13 = .ok (.aload_n 2, 1) := by decide +kernel
theorem dX3_forfeit_14 : decode cX3_forfeit 14 = .ok (.ifnull 10, 3) := by decide +kernel
theorem dX3_forfeit_17 : decode cX3_forfeit 17 = .ok (.aload_n 2, 1) := by decide +kernel
theorem dX3_forfeit_18 : decode cX3_forfeit 18 = .ok (.invokevirtual 88, 3) := by decide +kernel
theorem dX3_forfeit_21 : decode cX3_forfeit 21 = .ok (.ifCond .eq 13, 3) := by decide +kernel
theorem dX3_forfeit_24 : decode cX3_forfeit 24 = .ok (.new 54, 3) := by decide +kernel
theorem dX3_forfeit_27 : decode cX3_forfeit 27 = .ok (.dup, 1) := by decide +kernel
theorem dX3_forfeit_28 : decode cX3_forfeit 28 = .ok (.ldc 92, 2) := by decide +kernel
theorem dX3_forfeit_30 : decode cX3_forfeit 30 = .ok (.invokespecial 58, 3) := by decide +kernel
theorem dX3_forfeit_33 : decode cX3_forfeit 33 = .ok (.athrow, 1) := by decide +kernel
theorem dX3_forfeit_34 : decode cX3_forfeit 34 = .ok (.aload_n 2, 1) := by decide +kernel
theorem dX3_forfeit_35 : decode cX3_forfeit 35 = .ok (.aload_n 0, 1) := by decide +kernel
theorem dX3_forfeit_36 : decode cX3_forfeit 36 = .ok (.getfield 77, 3) := by decide +kernel
theorem dX3_forfeit_39 : decode cX3_forfeit 39 = .ok (.putfield 106, 3) := by decide +kernel
theorem dX3_forfeit_42 : decode cX3_forfeit 42 = .ok (.return_, 1) := by decide +kernel
set_option maxRecDepth 20000 in
theorem ggX3_undo_X3_requireCase : GoodIn wsX3_undo wsX3_requireCase := goodIn_ca (goodIn_r _ [9, 10, 11, 12, 13, 8, 14] (by decide +kernel) (by decide +kernel)) (goodIn_sub (fun _ h => List.mem_cons_of_mem _ (List.mem_append_right _ h)) (by decide +kernel))
set_option maxRecDepth 20000 in
theorem gX3_undo_X3_requireCase : GoodIn wsX3_undo (va_wsS RX3 31 yX3_requireCase wsX3_requireCase) := goodIn_app (goodIn_of _ (by decide +kernel)) ggX3_undo_X3_requireCase
set_option maxRecDepth 20000 in
theorem ggX3_undo_X1_find : GoodIn wsX3_undo wsX1_find := goodIn_r _ [19, 20, 21, 22, 18, 23, 24, 25, 26, 27, 28, 29, 30, 31, 32, 33, 34, 35, 36, 37, 38, 57, 58, 52, 53, 54, 55, 56] (by decide +kernel) (by decide +kernel)
set_option maxRecDepth 20000 in
theorem gX3_undo_X1_find : GoodIn wsX3_undo (wsV RX3 46 RX1 yX1_find wsX1_find) := goodIn_app (goodIn_of _ (by decide +kernel)) ggX3_undo_X1_find
set_option maxRecDepth 20000 in
theorem ggX3_undo_X0_hasForfeitDay : GoodIn wsX3_undo wsX0_hasForfeitDay := goodIn_r _ [43, 44, 52, 53, 54, 55, 56] (by decide +kernel) (by decide +kernel)
set_option maxRecDepth 20000 in
theorem gX3_undo_X0_hasForfeitDay : GoodIn wsX3_undo (wsV RX3 88 RX0 yX0_hasForfeitDay wsX0_hasForfeitDay) := goodIn_app (goodIn_of _ (by decide +kernel)) ggX3_undo_X0_hasForfeitDay
theorem dX3_undo_0 : decode cX3_undo 0 = .ok (.iload_n 1, 1) := by decide +kernel
theorem dX3_undo_1 : decode cX3_undo 1 = .ok (.invokestatic 31, 3) := by decide +kernel
theorem dX3_undo_4 : decode cX3_undo 4 = .ok (.aload_n 0, 1) := by decide +kernel
theorem dX3_undo_5 : decode cX3_undo 5 = .ok (.getfield 10, 3) := by decide +kernel
theorem dX3_undo_8 : decode cX3_undo 8 = .ok (.iload_n 1, 1) := by decide +kernel
theorem dX3_undo_9 : decode cX3_undo 9 = .ok (.invokevirtual 46, 3) := by decide +kernel
theorem dX3_undo_12 : decode cX3_undo 12 = .ok (.astore_n 2, 1) := by decide +kernel
theorem dX3_undo_13 : decode cX3_undo 13 = .ok (.aload_n 2, 1) := by decide +kernel
theorem dX3_undo_14 : decode cX3_undo 14 = .ok (.ifnull 10, 3) := by decide +kernel
theorem dX3_undo_17 : decode cX3_undo 17 = .ok (.aload_n 2, 1) := by decide +kernel
theorem dX3_undo_18 : decode cX3_undo 18 = .ok (.invokevirtual 88, 3) := by decide +kernel
theorem dX3_undo_21 : decode cX3_undo 21 = .ok (.ifCond .ne 13, 3) := by decide +kernel
theorem dX3_undo_24 : decode cX3_undo 24 = .ok (.new 54, 3) := by decide +kernel
theorem dX3_undo_27 : decode cX3_undo 27 = .ok (.dup, 1) := by decide +kernel
theorem dX3_undo_28 : decode cX3_undo 28 = .ok (.ldc 109, 2) := by decide +kernel
theorem dX3_undo_30 : decode cX3_undo 30 = .ok (.invokespecial 58, 3) := by decide +kernel
theorem dX3_undo_33 : decode cX3_undo 33 = .ok (.athrow, 1) := by decide +kernel
theorem dX3_undo_34 : decode cX3_undo 34 = .ok (.aload_n 0, 1) := by decide +kernel
theorem dX3_undo_35 : decode cX3_undo 35 = .ok (.getfield 77, 3) := by decide +kernel
theorem dX3_undo_38 : decode cX3_undo 38 = .ok (.aload_n 2, 1) := by decide +kernel
theorem dX3_undo_39 : decode cX3_undo 39 = .ok (.getfield 106, 3) := by decide +kernel
theorem dX3_undo_42 : decode cX3_undo 42 = .ok (.isub, 1) := by decide +kernel
theorem dX3_undo_43 : decode cX3_undo 43 = .ok (.istore_n 3, 1) := by decide +kernel
theorem dX3_undo_44 : decode cX3_undo 44 = .ok (.aload_n 2, 1) := by decide +kernel
theorem dX3_undo_45 : decode cX3_undo 45 = .ok (.iconst (-1), 1) := by decide +kernel
theorem dX3_undo_46 : decode cX3_undo 46 = .ok (.putfield 106, 3) := by decide +kernel
theorem dX3_undo_49 : decode cX3_undo 49 = .ok (.iload_n 3, 1) := by decide +kernel
theorem dX3_undo_50 : decode cX3_undo 50 = .ok (.ireturn, 1) := by decide +kernel
set_option maxRecDepth 20000 in
theorem ggX3_amnesty_X3_isIn : GoodIn wsX3_amnesty wsX3_isIn := goodIn_r _ [10] (by decide +kernel) (by decide +kernel)
set_option maxRecDepth 20000 in
theorem gX3_amnesty_X3_isIn : GoodIn wsX3_amnesty (va_wsS RX3 35 yX3_isIn wsX3_isIn) := goodIn_app (goodIn_of _ (by decide +kernel)) ggX3_amnesty_X3_isIn
set_option maxRecDepth 20000 in
theorem ggX3_amnesty_X1_count : GoodIn wsX3_amnesty wsX1_count := goodIn_r _ [15, 16, 92, 93] (by decide +kernel) (by decide +kernel)
set_option maxRecDepth 20000 in
theorem gX3_amnesty_X1_count : GoodIn wsX3_amnesty (wsV RX3 50 RX1 yX1_count wsX1_count) := goodIn_app (goodIn_of _ (by decide +kernel)) ggX3_amnesty_X1_count
set_option maxRecDepth 20000 in
theorem ggX3_amnesty_X1_bailAt : GoodIn wsX3_amnesty wsX1_bailAt := goodIn_r _ [20, 16, 21, 92, 93] (by decide +kernel) (by decide +kernel)
set_option maxRecDepth 20000 in
theorem gX3_amnesty_X1_bailAt : GoodIn wsX3_amnesty (wsV RX3 113 RX1 yX1_bailAt wsX1_bailAt) := goodIn_app (goodIn_of _ (by decide +kernel)) ggX3_amnesty_X1_bailAt
set_option maxRecDepth 20000 in
theorem ggX3_amnesty_X0_isUnder : GoodIn wsX3_amnesty wsX0_isUnder := goodIn_r _ [26, 27, 28, 29, 30, 31, 25, 32, 33, 87, 88, 89, 90, 91] (by decide +kernel) (by decide +kernel)
set_option maxRecDepth 20000 in
theorem gX3_amnesty_X0_isUnder : GoodIn wsX3_amnesty (wsV RX3 116 RX0 yX0_isUnder wsX0_isUnder) := goodIn_app (goodIn_of _ (by decide +kernel)) ggX3_amnesty_X0_isUnder
set_option maxRecDepth 20000 in
theorem ggX3_amnesty_X3_takeOut : GoodIn wsX3_amnesty wsX3_takeOut := goodIn_r _ [37, 38, 4, 39, 40, 41, 42, 43, 44, 45, 46, 47, 48, 49, 50, 51, 52, 53, 54, 55, 56, 57, 58, 59, 60, 61, 62, 63, 64, 65, 66, 67, 68, 69, 70, 71, 72, 73, 14, 74, 16, 21, 75, 18, 19, 20, 76, 77, 78, 79, 80, 81, 82, 83, 84, 85, 86, 94, 95, 92, 93] (by decide +kernel) (by decide +kernel)
set_option maxRecDepth 20000 in
theorem gX3_amnesty_X3_takeOut : GoodIn wsX3_amnesty (wsV RX3 103 RX3 yX3_takeOut wsX3_takeOut) := goodIn_app (goodIn_of _ (by decide +kernel)) ggX3_amnesty_X3_takeOut
theorem dX3_amnesty_0 : decode cX3_amnesty 0 = .ok (.iload_n 1, 1) := by decide +kernel
theorem dX3_amnesty_1 : decode cX3_amnesty 1 = .ok (.iconst 1, 1) := by decide +kernel
theorem dX3_amnesty_2 : decode cX3_amnesty 2 = .ok (.sipush 10000, 3) := by decide +kernel
theorem dX3_amnesty_5 : decode cX3_amnesty 5 = .ok (.invokestatic 35, 3) := by decide +kernel
theorem dX3_amnesty_8 : decode cX3_amnesty 8 = .ok (.ifCond .eq 15, 3) := by decide +kernel
theorem dX3_amnesty_11 : decode cX3_amnesty 11 = .ok (.iload_n 2, 1) := by decide +kernel
theorem dX3_amnesty_12 : decode cX3_amnesty 12 = .ok (.iconst 0, 1) := by decide +kernel
theorem dX3_amnesty_13 : decode cX3_amnesty 13 = .ok (.aload_n 0, 1) := by decide +kernel
theorem dX3_amnesty_14 : decode cX3_amnesty 14 = .ok (.getfield 77, 3) := by decide +kernel
theorem dX3_amnesty_17 : decode cX3_amnesty 17 = .ok (.invokestatic 35, 3) := by decide +kernel
theorem dX3_amnesty_20 : decode cX3_amnesty 20 = .ok (.ifCond .ne 13, 3) := by decide +kernel
theorem dX3_amnesty_23 : decode cX3_amnesty 23 = .ok (.new 39, 3) := by decide +kernel
theorem dX3_amnesty_26 : decode cX3_amnesty 26 = .ok (.dup, 1) := by decide +kernel
theorem dX3_amnesty_27 : decode cX3_amnesty 27 = .ok (.ldc 111, 2) := by decide +kernel
theorem dX3_amnesty_29 : decode cX3_amnesty 29 = .ok (.invokespecial 43, 3) := by decide +kernel
theorem dX3_amnesty_32 : decode cX3_amnesty 32 = .ok (.athrow, 1) := by decide +kernel
theorem dX3_amnesty_33 : decode cX3_amnesty 33 = .ok (.iconst 0, 1) := by decide +kernel
theorem dX3_amnesty_34 : decode cX3_amnesty 34 = .ok (.istore_n 3, 1) := by decide +kernel
theorem dX3_amnesty_35 : decode cX3_amnesty 35 = .ok (.iconst 0, 1) := by decide +kernel
theorem dX3_amnesty_36 : decode cX3_amnesty 36 = .ok (.istore 4, 2) := by decide +kernel
theorem dX3_amnesty_38 : decode cX3_amnesty 38 = .ok (.aload_n 0, 1) := by decide +kernel
theorem dX3_amnesty_39 : decode cX3_amnesty 39 = .ok (.getfield 10, 3) := by decide +kernel
theorem dX3_amnesty_42 : decode cX3_amnesty 42 = .ok (.invokevirtual 50, 3) := by decide +kernel
theorem dX3_amnesty_45 : decode cX3_amnesty 45 = .ok (.istore 5, 2) := by decide +kernel
theorem dX3_amnesty_47 : decode cX3_amnesty 47 = .ok (.iload 5, 2) := by decide +kernel
theorem dX3_amnesty_49 : decode cX3_amnesty 49 = .ok (.ifCond .le 64, 3) := by decide +kernel
theorem dX3_amnesty_52 : decode cX3_amnesty 52 = .ok (.aload_n 0, 1) := by decide +kernel
theorem dX3_amnesty_53 : decode cX3_amnesty 53 = .ok (.getfield 10, 3) := by decide +kernel
theorem dX3_amnesty_56 : decode cX3_amnesty 56 = .ok (.iload 4, 2) := by decide +kernel
theorem dX3_amnesty_58 : decode cX3_amnesty 58 = .ok (.invokevirtual 113, 3) := by decide +kernel
theorem dX3_amnesty_61 : decode cX3_amnesty 61 = .ok (.astore 6, 2) := by decide +kernel
theorem dX3_amnesty_63 : decode cX3_amnesty 63 = .ok (.aload 6, 2) := by decide +kernel
theorem dX3_amnesty_65 : decode cX3_amnesty 65 = .ok (.ifnull 39, 3) := by decide +kernel
theorem dX3_amnesty_68 : decode cX3_amnesty 68 = .ok (.aload 6, 2) := by decide +kernel
theorem dX3_amnesty_70 : decode cX3_amnesty 70 = .ok (.iload_n 1, 1) := by decide +kernel
theorem dX3_amnesty_71 : decode cX3_amnesty 71 = .ok (.iload_n 2, 1) := by decide +kernel
theorem dX3_amnesty_72 : decode cX3_amnesty 72 = .ok (.invokevirtual 116, 3) := by decide +kernel
theorem dX3_amnesty_75 : decode cX3_amnesty 75 = .ok (.ifCond .eq 29, 3) := by decide +kernel
theorem dX3_amnesty_78 : decode cX3_amnesty 78 = .ok (.aload_n 0, 1) := by decide +kernel
theorem dX3_amnesty_79 : decode cX3_amnesty 79 = .ok (.dup, 1) := by decide +kernel
theorem dX3_amnesty_80 : decode cX3_amnesty 80 = .ok (.getfield 94, 3) := by decide +kernel
theorem dX3_amnesty_83 : decode cX3_amnesty 83 = .ok (.aload 6, 2) := by decide +kernel
theorem dX3_amnesty_85 : decode cX3_amnesty 85 = .ok (.getfield 97, 3) := by decide +kernel
theorem dX3_amnesty_88 : decode cX3_amnesty 88 = .ok (.iadd, 1) := by decide +kernel
theorem dX3_amnesty_89 : decode cX3_amnesty 89 = .ok (.putfield 94, 3) := by decide +kernel
theorem dX3_amnesty_92 : decode cX3_amnesty 92 = .ok (.aload_n 0, 1) := by decide +kernel
theorem dX3_amnesty_93 : decode cX3_amnesty 93 = .ok (.iload 4, 2) := by decide +kernel
theorem dX3_amnesty_95 : decode cX3_amnesty 95 = .ok (.invokevirtual 103, 3) := by decide +kernel
theorem dX3_amnesty_98 : decode cX3_amnesty 98 = .ok (.iinc 3 1, 3) := by decide +kernel
theorem dX3_amnesty_101 : decode cX3_amnesty 101 = .ok (.goto 6, 3) := by decide +kernel
theorem dX3_amnesty_104 : decode cX3_amnesty 104 = .ok (.iinc 4 1, 3) := by decide +kernel
theorem dX3_amnesty_107 : decode cX3_amnesty 107 = .ok (.iinc 5 (-1), 3) := by decide +kernel
theorem dX3_amnesty_110 : decode cX3_amnesty 110 = .ok (.goto (-63), 3) := by decide +kernel
theorem dX3_amnesty_113 : decode cX3_amnesty 113 = .ok (.iload_n 3, 1) := by decide +kernel
theorem dX3_amnesty_114 : decode cX3_amnesty 114 = .ok (.ireturn, 1) := by decide +kernel
set_option maxRecDepth 20000 in
theorem ggX3_records_X1_count : GoodIn wsX3_records wsX1_count := goodIn_r _ [6, 7, 15, 16] (by decide +kernel) (by decide +kernel)
set_option maxRecDepth 20000 in
theorem gX3_records_X1_count : GoodIn wsX3_records (wsV RX3 50 RX1 yX1_count wsX1_count) := goodIn_app (goodIn_of _ (by decide +kernel)) ggX3_records_X1_count
theorem dX3_records_0 : decode cX3_records 0 = .ok (.aload_n 0, 1) := by decide +kernel
theorem dX3_records_1 : decode cX3_records 1 = .ok (.getfield 10, 3) := by decide +kernel
theorem dX3_records_4 : decode cX3_records 4 = .ok (.invokevirtual 50, 3) := by decide +kernel
theorem dX3_records_7 : decode cX3_records 7 = .ok (.ireturn, 1) := by decide +kernel
set_option maxRecDepth 20000 in
theorem ggX3_sum_X3_requireCase : GoodIn wsX3_sum wsX3_requireCase := goodIn_ca (goodIn_r _ [6, 7, 8, 9, 10, 5, 11] (by decide +kernel) (by decide +kernel)) (goodIn_sub (fun _ h => List.mem_cons_of_mem _ (List.mem_append_right _ h)) (by decide +kernel))
set_option maxRecDepth 20000 in
theorem gX3_sum_X3_requireCase : GoodIn wsX3_sum (va_wsS RX3 31 yX3_requireCase wsX3_requireCase) := goodIn_app (goodIn_of _ (by decide +kernel)) ggX3_sum_X3_requireCase
set_option maxRecDepth 20000 in
theorem ggX3_sum_X1_find : GoodIn wsX3_sum wsX1_find := goodIn_r _ [16, 17, 18, 19, 15, 20, 21, 22, 23, 24, 25, 26, 27, 28, 29, 30, 31, 32, 33, 34, 35, 48, 49, 43, 44, 45, 46, 47] (by decide +kernel) (by decide +kernel)
set_option maxRecDepth 20000 in
theorem gX3_sum_X1_find : GoodIn wsX3_sum (wsV RX3 46 RX1 yX1_find wsX1_find) := goodIn_app (goodIn_of _ (by decide +kernel)) ggX3_sum_X1_find
theorem dX3_sum_0 : decode cX3_sum 0 = .ok (.iload_n 1, 1) := by decide +kernel
theorem dX3_sum_1 : decode cX3_sum 1 = .ok (.invokestatic 31, 3) := by decide +kernel
theorem dX3_sum_4 : decode cX3_sum 4 = .ok (.aload_n 0, 1) := by decide +kernel
theorem dX3_sum_5 : decode cX3_sum 5 = .ok (.getfield 10, 3) := by decide +kernel
theorem dX3_sum_8 : decode cX3_sum 8 = .ok (.iload_n 1, 1) := by decide +kernel
theorem dX3_sum_9 : decode cX3_sum 9 = .ok (.invokevirtual 46, 3) := by decide +kernel
theorem dX3_sum_12 : decode cX3_sum 12 = .ok (.astore_n 2, 1) := by decide +kernel
theorem dX3_sum_13 : decode cX3_sum 13 = .ok (.aload_n 2, 1) := by decide +kernel
theorem dX3_sum_14 : decode cX3_sum 14 = .ok (.ifnonnull 7, 3) := by decide +kernel
theorem dX3_sum_17 : decode cX3_sum 17 = .ok (.iconst 0, 1) := by decide +kernel
theorem dX3_sum_18 : decode cX3_sum 18 = .ok (.goto 7, 3) := by decide +kernel
theorem dX3_sum_21 : decode cX3_sum 21 = .ok (.aload_n 2, 1) := by decide +kernel
theorem dX3_sum_22 : decode cX3_sum 22 = .ok (.getfield 97, 3) := by decide +kernel
theorem dX3_sum_25 : decode cX3_sum 25 = .ok (.ireturn, 1) := by decide +kernel
set_option maxRecDepth 20000 in
theorem ggX3_heldBy_X3_isIn : GoodIn wsX3_heldBy wsX3_isIn := goodIn_r _ [7] (by decide +kernel) (by decide +kernel)
set_option maxRecDepth 20000 in
theorem gX3_heldBy_X3_isIn : GoodIn wsX3_heldBy (va_wsS RX3 35 yX3_isIn wsX3_isIn) := goodIn_app (goodIn_of _ (by decide +kernel)) ggX3_heldBy_X3_isIn
set_option maxRecDepth 20000 in
theorem ggX3_heldBy_X1_sumOfSurety : GoodIn wsX3_heldBy wsX1_sumOfSurety := goodIn_r _ [12, 13, 14, 15, 16, 17, 18, 11, 19, 20, 28, 29, 30, 31, 32, 33, 34] (by decide +kernel) (by decide +kernel)
set_option maxRecDepth 20000 in
theorem gX3_heldBy_X1_sumOfSurety : GoodIn wsX3_heldBy (wsV RX3 122 RX1 yX1_sumOfSurety wsX1_sumOfSurety) := goodIn_app (goodIn_of _ (by decide +kernel)) ggX3_heldBy_X1_sumOfSurety
theorem dX3_heldBy_0 : decode cX3_heldBy 0 = .ok (.iload_n 1, 1) := by decide +kernel
theorem dX3_heldBy_1 : decode cX3_heldBy 1 = .ok (.iconst 0, 1) := by decide +kernel
theorem dX3_heldBy_2 : decode cX3_heldBy 2 = .ok (.bipush 9, 2) := by decide +kernel
theorem dX3_heldBy_4 : decode cX3_heldBy 4 = .ok (.invokestatic 35, 3) := by decide +kernel
theorem dX3_heldBy_7 : decode cX3_heldBy 7 = .ok (.ifCond .ne 13, 3) := by decide +kernel
theorem dX3_heldBy_10 : decode cX3_heldBy 10 = .ok (.new 39, 3) := by decide +kernel
theorem dX3_heldBy_13 : decode cX3_heldBy 13 = .ok (.dup, 1) := by decide +kernel
theorem dX3_heldBy_14 : decode cX3_heldBy 14 = .ok (.ldc 120, 2) := by decide +kernel
theorem dX3_heldBy_16 : decode cX3_heldBy 16 = .ok (.invokespecial 43, 3) := by decide +kernel
theorem dX3_heldBy_19 : decode cX3_heldBy 19 = .ok (.athrow, 1) := by decide +kernel
theorem dX3_heldBy_20 : decode cX3_heldBy 20 = .ok (.aload_n 0, 1) := by decide +kernel
theorem dX3_heldBy_21 : decode cX3_heldBy 21 = .ok (.getfield 10, 3) := by decide +kernel
theorem dX3_heldBy_24 : decode cX3_heldBy 24 = .ok (.iload_n 1, 1) := by decide +kernel
theorem dX3_heldBy_25 : decode cX3_heldBy 25 = .ok (.invokevirtual 122, 3) := by decide +kernel
theorem dX3_heldBy_28 : decode cX3_heldBy 28 = .ok (.ireturn, 1) := by decide +kernel
theorem dX3_kept_0 : decode cX3_kept 0 = .ok (.aload_n 0, 1) := by decide +kernel
theorem dX3_kept_1 : decode cX3_kept 1 = .ok (.getfield 125, 3) := by decide +kernel
theorem dX3_kept_4 : decode cX3_kept 4 = .ok (.ireturn, 1) := by decide +kernel
theorem dX3_paidBack_0 : decode cX3_paidBack 0 = .ok (.aload_n 0, 1) := by decide +kernel
theorem dX3_paidBack_1 : decode cX3_paidBack 1 = .ok (.getfield 94, 3) := by decide +kernel
theorem dX3_paidBack_4 : decode cX3_paidBack 4 = .ok (.ireturn, 1) := by decide +kernel
set_option maxRecDepth 20000 in
theorem ggX3_pass_X3_isIn : GoodIn wsX3_pass wsX3_isIn := goodIn_r _ [9] (by decide +kernel) (by decide +kernel)
set_option maxRecDepth 20000 in
theorem gX3_pass_X3_isIn : GoodIn wsX3_pass (va_wsS RX3 35 yX3_isIn wsX3_isIn) := goodIn_app (goodIn_of _ (by decide +kernel)) ggX3_pass_X3_isIn
set_option maxRecDepth 20000 in
theorem ggX3_pass_X3_keepOverdue : GoodIn wsX3_pass wsX3_keepOverdue := goodIn_r _ [13, 14, 5, 15, 16, 17, 18, 19, 20, 21, 22, 23, 24, 25, 26, 27, 28, 29, 30, 31, 32, 33, 34, 35, 36, 37, 38, 39, 40, 8, 41, 42, 43, 44, 45, 46, 47, 48, 49, 50, 51, 52, 53, 54, 55, 56, 57, 58, 59, 60, 61, 62, 63, 64, 65, 66, 67, 68, 69, 70, 71, 72, 73, 74, 75, 76, 77, 78, 79, 80, 81, 82, 83, 84, 85, 86, 87, 88, 89, 90, 91, 92, 93, 94, 95, 96, 97, 98, 99] (by decide +kernel) (by decide +kernel)
set_option maxRecDepth 20000 in
theorem gX3_pass_X3_keepOverdue : GoodIn wsX3_pass (wsV RX3 132 RX3 yX3_keepOverdue wsX3_keepOverdue) := goodIn_app (goodIn_of _ (by decide +kernel)) ggX3_pass_X3_keepOverdue
theorem dX3_pass_0 : decode cX3_pass 0 = .ok (.iload_n 1, 1) := by decide +kernel
theorem dX3_pass_1 : decode cX3_pass 1 = .ok (.iconst 1, 1) := by decide +kernel
theorem dX3_pass_2 : decode cX3_pass 2 = .ok (.bipush 100, 2) := by decide +kernel
theorem dX3_pass_4 : decode cX3_pass 4 = .ok (.invokestatic 35, 3) := by decide +kernel
theorem dX3_pass_7 : decode cX3_pass 7 = .ok (.ifCond .ne 13, 3) := by decide +kernel
theorem dX3_pass_10 : decode cX3_pass 10 = .ok (.new 39, 3) := by decide +kernel
theorem dX3_pass_13 : decode cX3_pass 13 = .ok (.dup, 1) := by decide +kernel
theorem dX3_pass_14 : decode cX3_pass 14 = .ok (.ldc 128, 2) := by decide +kernel
theorem dX3_pass_16 : decode cX3_pass 16 = .ok (.invokespecial 43, 3) := by decide +kernel
theorem dX3_pass_19 : decode cX3_pass 19 = .ok (.athrow, 1) := by decide +kernel
theorem dX3_pass_20 : decode cX3_pass 20 = .ok (.aload_n 0, 1) := by decide +kernel
theorem dX3_pass_21 : decode cX3_pass 21 = .ok (.getfield 77, 3) := by decide +kernel
theorem dX3_pass_24 : decode cX3_pass 24 = .ok (.iload_n 1, 1) := by decide +kernel
theorem dX3_pass_25 : decode cX3_pass 25 = .ok (.iadd, 1) := by decide +kernel
theorem dX3_pass_26 : decode cX3_pass 26 = .ok (.sipush 5000, 3) := by decide +kernel
theorem dX3_pass_29 : decode cX3_pass 29 = .ok (.if_icmp .le 13, 3) := by decide +kernel
theorem dX3_pass_32 : decode cX3_pass 32 = .ok (.new 54, 3) := by decide +kernel
theorem dX3_pass_35 : decode cX3_pass 35 = .ok (.dup, 1) := by decide +kernel
theorem dX3_pass_36 : decode cX3_pass 36 = .ok (.ldc 130, 2) := by decide +kernel
theorem dX3_pass_38 : decode cX3_pass 38 = .ok (.invokespecial 58, 3) := by decide +kernel
theorem dX3_pass_41 : decode cX3_pass 41 = .ok (.athrow, 1) := by decide +kernel
theorem dX3_pass_42 : decode cX3_pass 42 = .ok (.iconst 0, 1) := by decide +kernel
theorem dX3_pass_43 : decode cX3_pass 43 = .ok (.istore_n 2, 1) := by decide +kernel
theorem dX3_pass_44 : decode cX3_pass 44 = .ok (.iconst 0, 1) := by decide +kernel
theorem dX3_pass_45 : decode cX3_pass 45 = .ok (.istore_n 3, 1) := by decide +kernel
theorem dX3_pass_46 : decode cX3_pass 46 = .ok (.iload_n 3, 1) := by decide +kernel
theorem dX3_pass_47 : decode cX3_pass 47 = .ok (.iload_n 1, 1) := by decide +kernel
theorem dX3_pass_48 : decode cX3_pass 48 = .ok (.if_icmp .ge 26, 3) := by decide +kernel
theorem dX3_pass_51 : decode cX3_pass 51 = .ok (.aload_n 0, 1) := by decide +kernel
theorem dX3_pass_52 : decode cX3_pass 52 = .ok (.dup, 1) := by decide +kernel
theorem dX3_pass_53 : decode cX3_pass 53 = .ok (.getfield 77, 3) := by decide +kernel
theorem dX3_pass_56 : decode cX3_pass 56 = .ok (.iconst 1, 1) := by decide +kernel
theorem dX3_pass_57 : decode cX3_pass 57 = .ok (.iadd, 1) := by decide +kernel
theorem dX3_pass_58 : decode cX3_pass 58 = .ok (.putfield 77, 3) := by decide +kernel
theorem dX3_pass_61 : decode cX3_pass 61 = .ok (.iload_n 2, 1) := by decide +kernel
theorem dX3_pass_62 : decode cX3_pass 62 = .ok (.aload_n 0, 1) := by decide +kernel
theorem dX3_pass_63 : decode cX3_pass 63 = .ok (.invokevirtual 132, 3) := by decide +kernel
theorem dX3_pass_66 : decode cX3_pass 66 = .ok (.iadd, 1) := by decide +kernel
theorem dX3_pass_67 : decode cX3_pass 67 = .ok (.istore_n 2, 1) := by decide +kernel
theorem dX3_pass_68 : decode cX3_pass 68 = .ok (.iinc 3 1, 3) := by decide +kernel
theorem dX3_pass_71 : decode cX3_pass 71 = .ok (.goto (-25), 3) := by decide +kernel
theorem dX3_pass_74 : decode cX3_pass 74 = .ok (.iload_n 2, 1) := by decide +kernel
theorem dX3_pass_75 : decode cX3_pass 75 = .ok (.ireturn, 1) := by decide +kernel
theorem dX3_today_0 : decode cX3_today 0 = .ok (.aload_n 0, 1) := by decide +kernel
theorem dX3_today_1 : decode cX3_today 1 = .ok (.getfield 77, 3) := by decide +kernel
theorem dX3_today_4 : decode cX3_today 4 = .ok (.ireturn, 1) := by decide +kernel
set_option maxRecDepth 20000 in
theorem ggX3_pages_X2_count : GoodIn wsX3_pages wsX2_count := goodIn_r _ [6, 7, 15, 16] (by decide +kernel) (by decide +kernel)
set_option maxRecDepth 20000 in
theorem gX3_pages_X2_count : GoodIn wsX3_pages (wsV RX3 87 RX2 yX2_count wsX2_count) := goodIn_app (goodIn_of _ (by decide +kernel)) ggX3_pages_X2_count
theorem dX3_pages_0 : decode cX3_pages 0 = .ok (.aload_n 0, 1) := by decide +kernel
theorem dX3_pages_1 : decode cX3_pages 1 = .ok (.getfield 19, 3) := by decide +kernel
theorem dX3_pages_4 : decode cX3_pages 4 = .ok (.invokevirtual 87, 3) := by decide +kernel
theorem dX3_pages_7 : decode cX3_pages 7 = .ok (.ireturn, 1) := by decide +kernel
set_option maxRecDepth 20000 in
theorem ggX3_size_X2_has : GoodIn wsX3_size wsX2_has := goodIn_r _ [8, 9, 10, 23, 24] (by decide +kernel) (by decide +kernel)
set_option maxRecDepth 20000 in
theorem gX3_size_X2_has : GoodIn wsX3_size (wsV RX3 135 RX2 yX2_has wsX2_has) := goodIn_app (goodIn_of _ (by decide +kernel)) ggX3_size_X2_has
set_option maxRecDepth 20000 in
theorem ggX3_size_X2_sizeOf : GoodIn wsX3_size wsX2_sizeOf := goodIn_r _ [14, 10, 15, 5, 6, 7, 8, 9, 23, 24] (by decide +kernel) (by decide +kernel)
set_option maxRecDepth 20000 in
theorem gX3_size_X2_sizeOf : GoodIn wsX3_size (wsV RX3 66 RX2 yX2_sizeOf wsX2_sizeOf) := goodIn_app (goodIn_of _ (by decide +kernel)) ggX3_size_X2_sizeOf
theorem dX3_size_0 : decode cX3_size 0 = .ok (.aload_n 0, 1) := by decide +kernel
theorem dX3_size_1 : decode cX3_size 1 = .ok (.getfield 19, 3) := by decide +kernel
theorem dX3_size_4 : decode cX3_size 4 = .ok (.iload_n 1, 1) := by decide +kernel
theorem dX3_size_5 : decode cX3_size 5 = .ok (.invokevirtual 135, 3) := by decide +kernel
theorem dX3_size_8 : decode cX3_size 8 = .ok (.ifCond .ne 13, 3) := by decide +kernel
theorem dX3_size_11 : decode cX3_size 11 = .ok (.new 139, 3) := by decide +kernel
theorem dX3_size_14 : decode cX3_size 14 = .ok (.dup, 1) := by decide +kernel
theorem dX3_size_15 : decode cX3_size 15 = .ok (.ldc 141, 2) := by decide +kernel
theorem dX3_size_17 : decode cX3_size 17 = .ok (.invokespecial 143, 3) := by decide +kernel
theorem dX3_size_20 : decode cX3_size 20 = .ok (.athrow, 1) := by decide +kernel
theorem dX3_size_21 : decode cX3_size 21 = .ok (.aload_n 0, 1) := by decide +kernel
theorem dX3_size_22 : decode cX3_size 22 = .ok (.getfield 19, 3) := by decide +kernel
theorem dX3_size_25 : decode cX3_size 25 = .ok (.iload_n 1, 1) := by decide +kernel
theorem dX3_size_26 : decode cX3_size 26 = .ok (.invokevirtual 66, 3) := by decide +kernel
theorem dX3_size_29 : decode cX3_size 29 = .ok (.ireturn, 1) := by decide +kernel
set_option maxRecDepth 20000 in
theorem ggX3_at_X2_has : GoodIn wsX3_at wsX2_has := goodIn_r _ [9, 10, 11, 45, 46] (by decide +kernel) (by decide +kernel)
set_option maxRecDepth 20000 in
theorem gX3_at_X2_has : GoodIn wsX3_at (wsV RX3 135 RX2 yX2_has wsX2_has) := goodIn_app (goodIn_of _ (by decide +kernel)) ggX3_at_X2_has
set_option maxRecDepth 20000 in
theorem ggX3_at_X2_sizeOf : GoodIn wsX3_at wsX2_sizeOf := goodIn_r _ [15, 11, 16, 6, 7, 8, 9, 10, 45, 46] (by decide +kernel) (by decide +kernel)
set_option maxRecDepth 20000 in
theorem gX3_at_X2_sizeOf : GoodIn wsX3_at (wsV RX3 66 RX2 yX2_sizeOf wsX2_sizeOf) := goodIn_app (goodIn_of _ (by decide +kernel)) ggX3_at_X2_sizeOf
set_option maxRecDepth 20000 in
theorem ggX3_at_X3_isIn : GoodIn wsX3_at wsX3_isIn := goodIn_r _ [20] (by decide +kernel) (by decide +kernel)
set_option maxRecDepth 20000 in
theorem gX3_at_X3_isIn : GoodIn wsX3_at (va_wsS RX3 35 yX3_isIn wsX3_isIn) := goodIn_app (goodIn_of _ (by decide +kernel)) ggX3_at_X3_isIn
set_option maxRecDepth 20000 in
theorem ggX3_at_X2_beginOf : GoodIn wsX3_at wsX2_beginOf := goodIn_r _ [24, 10, 25, 13, 14, 8, 15, 11, 16, 6, 7, 9, 45, 46] (by decide +kernel) (by decide +kernel)
set_option maxRecDepth 20000 in
theorem gX3_at_X2_beginOf : GoodIn wsX3_at (wsV RX3 146 RX2 yX2_beginOf wsX2_beginOf) := goodIn_app (goodIn_of _ (by decide +kernel)) ggX3_at_X2_beginOf
set_option maxRecDepth 20000 in
theorem ggX3_at_X1_numberAt : GoodIn wsX3_at wsX1_numberAt := goodIn_r _ [30, 31, 32, 33, 34, 29, 35, 36, 37, 47, 48, 49, 50, 51, 52, 53] (by decide +kernel) (by decide +kernel)
set_option maxRecDepth 20000 in
theorem gX3_at_X1_numberAt : GoodIn wsX3_at (wsV RX3 149 RX1 yX1_numberAt wsX1_numberAt) := goodIn_app (goodIn_of _ (by decide +kernel)) ggX3_at_X1_numberAt
theorem dX3_at_0 : decode cX3_at 0 = .ok (.aload_n 0, 1) := by decide +kernel
theorem dX3_at_1 : decode cX3_at 1 = .ok (.getfield 19, 3) := by decide +kernel
theorem dX3_at_4 : decode cX3_at 4 = .ok (.iload_n 1, 1) := by decide +kernel
theorem dX3_at_5 : decode cX3_at 5 = .ok (.invokevirtual 135, 3) := by decide +kernel
theorem dX3_at_8 : decode cX3_at 8 = .ok (.ifCond .eq 21, 3) := by decide +kernel
theorem dX3_at_11 : decode cX3_at 11 = .ok (.iload_n 2, 1) := by decide +kernel
theorem dX3_at_12 : decode cX3_at 12 = .ok (.iconst 0, 1) := by decide +kernel
theorem dX3_at_13 : decode cX3_at 13 = .ok (.aload_n 0, 1) := by decide +kernel
theorem dX3_at_14 : decode cX3_at 14 = .ok (.getfield 19, 3) := by decide +kernel
theorem dX3_at_17 : decode cX3_at 17 = .ok (.iload_n 1, 1) := by decide +kernel
theorem dX3_at_18 : decode cX3_at 18 = .ok (.invokevirtual 66, 3) := by decide +kernel
theorem dX3_at_21 : decode cX3_at 21 = .ok (.iconst 1, 1) := by decide +kernel
theorem dX3_at_22 : decode cX3_at 22 = .ok (.isub, 1) := by decide +kernel
theorem dX3_at_23 : decode cX3_at 23 = .ok (.invokestatic 35, 3) := by decide +kernel
theorem dX3_at_26 : decode cX3_at 26 = .ok (.ifCond .ne 13, 3) := by decide +kernel
theorem dX3_at_29 : decode cX3_at 29 = .ok (.new 139, 3) := by decide +kernel
theorem dX3_at_32 : decode cX3_at 32 = .ok (.dup, 1) := by decide +kernel
theorem dX3_at_33 : decode cX3_at 33 = .ok (.ldc 144, 2) := by decide +kernel
theorem dX3_at_35 : decode cX3_at 35 = .ok (.invokespecial 143, 3) := by decide +kernel
theorem dX3_at_38 : decode cX3_at 38 = .ok (.athrow, 1) := by decide +kernel
theorem dX3_at_39 : decode cX3_at 39 = .ok (.aload_n 0, 1) := by decide +kernel
theorem dX3_at_40 : decode cX3_at 40 = .ok (.getfield 10, 3) := by decide +kernel
theorem dX3_at_43 : decode cX3_at 43 = .ok (.aload_n 0, 1) := by decide +kernel
theorem dX3_at_44 : decode cX3_at 44 = .ok (.getfield 19, 3) := by decide +kernel
theorem dX3_at_47 : decode cX3_at 47 = .ok (.iload_n 1, 1) := by decide +kernel
theorem dX3_at_48 : decode cX3_at 48 = .ok (.invokevirtual 146, 3) := by decide +kernel
theorem dX3_at_51 : decode cX3_at 51 = .ok (.iload_n 2, 1) := by decide +kernel
theorem dX3_at_52 : decode cX3_at 52 = .ok (.iadd, 1) := by decide +kernel
theorem dX3_at_53 : decode cX3_at 53 = .ok (.invokevirtual 149, 3) := by decide +kernel
theorem dX3_at_56 : decode cX3_at 56 = .ok (.ireturn, 1) := by decide +kernel
set_option maxRecDepth 20000 in
theorem ggX3_pageOf_X3_requireCase : GoodIn wsX3_pageOf wsX3_requireCase := goodIn_ca (goodIn_r _ [6, 7, 8, 9, 10, 5, 11] (by decide +kernel) (by decide +kernel)) (goodIn_sub (fun _ h => List.mem_cons_of_mem _ (List.mem_append_right _ h)) (by decide +kernel))
set_option maxRecDepth 20000 in
theorem gX3_pageOf_X3_requireCase : GoodIn wsX3_pageOf (va_wsS RX3 31 yX3_requireCase wsX3_requireCase) := goodIn_app (goodIn_of _ (by decide +kernel)) ggX3_pageOf_X3_requireCase
set_option maxRecDepth 20000 in
theorem ggX3_pageOf_X1_placeOf : GoodIn wsX3_pageOf wsX1_placeOf := goodIn_r _ [16, 17, 18, 19, 15, 20, 21, 22, 23, 24, 25, 26, 27, 28, 29, 30, 31, 54, 55, 56, 57, 58, 59, 60] (by decide +kernel) (by decide +kernel)
set_option maxRecDepth 20000 in
theorem gX3_pageOf_X1_placeOf : GoodIn wsX3_pageOf (wsV RX3 100 RX1 yX1_placeOf wsX1_placeOf) := goodIn_app (goodIn_of _ (by decide +kernel)) ggX3_pageOf_X1_placeOf
set_option maxRecDepth 20000 in
theorem ggX3_pageOf_X2_pageWith : GoodIn wsX3_pageOf wsX2_pageWith := goodIn_r _ [36, 37, 38, 39, 40, 35, 41, 42, 43, 44, 45, 46, 61, 62] (by decide +kernel) (by decide +kernel)
set_option maxRecDepth 20000 in
theorem gX3_pageOf_X2_pageWith : GoodIn wsX3_pageOf (wsV RX3 152 RX2 yX2_pageWith wsX2_pageWith) := goodIn_app (goodIn_of _ (by decide +kernel)) ggX3_pageOf_X2_pageWith
theorem dX3_pageOf_0 : decode cX3_pageOf 0 = .ok (.iload_n 1, 1) := by decide +kernel
theorem dX3_pageOf_1 : decode cX3_pageOf 1 = .ok (.invokestatic 31, 3) := by decide +kernel
theorem dX3_pageOf_4 : decode cX3_pageOf 4 = .ok (.aload_n 0, 1) := by decide +kernel
theorem dX3_pageOf_5 : decode cX3_pageOf 5 = .ok (.getfield 19, 3) := by decide +kernel
theorem dX3_pageOf_8 : decode cX3_pageOf 8 = .ok (.aload_n 0, 1) := by decide +kernel
theorem dX3_pageOf_9 : decode cX3_pageOf 9 = .ok (.getfield 10, 3) := by decide +kernel
theorem dX3_pageOf_12 : decode cX3_pageOf 12 = .ok (.iload_n 1, 1) := by decide +kernel
theorem dX3_pageOf_13 : decode cX3_pageOf 13 = .ok (.invokevirtual 100, 3) := by decide +kernel
theorem dX3_pageOf_16 : decode cX3_pageOf 16 = .ok (.invokevirtual 152, 3) := by decide +kernel
theorem dX3_pageOf_19 : decode cX3_pageOf 19 = .ok (.ireturn, 1) := by decide +kernel
theorem dX3_sweep_0 : decode cX3_sweep 0 = .ok (.aload_n 0, 1) := by decide +kernel
theorem dX3_sweep_1 : decode cX3_sweep 1 = .ok (.getfield 27, 3) := by decide +kernel
theorem dX3_sweep_4 : decode cX3_sweep 4 = .ok (.iconst (-1), 1) := by decide +kernel
theorem dX3_sweep_5 : decode cX3_sweep 5 = .ok (.if_icmp .eq 13, 3) := by decide +kernel
theorem dX3_sweep_8 : decode cX3_sweep 8 = .ok (.new 54, 3) := by decide +kernel
theorem dX3_sweep_11 : decode cX3_sweep 11 = .ok (.dup, 1) := by decide +kernel
theorem dX3_sweep_12 : decode cX3_sweep 12 = .ok (.ldc 155, 2) := by decide +kernel
theorem dX3_sweep_14 : decode cX3_sweep 14 = .ok (.invokespecial 58, 3) := by decide +kernel
theorem dX3_sweep_17 : decode cX3_sweep 17 = .ok (.athrow, 1) := by decide +kernel
theorem dX3_sweep_18 : decode cX3_sweep 18 = .ok (.aload_n 0, 1) := by decide +kernel
theorem dX3_sweep_19 : decode cX3_sweep 19 = .ok (.iconst 0, 1) := by decide +kernel
theorem dX3_sweep_20 : decode cX3_sweep 20 = .ok (.putfield 27, 3) := by decide +kernel
theorem dX3_sweep_23 : decode cX3_sweep 23 = .ok (.return_, 1) := by decide +kernel
set_option maxRecDepth 20000 in
theorem ggX3_step_X3_isIn : GoodIn wsX3_step wsX3_isIn := goodIn_r _ [9] (by decide +kernel) (by decide +kernel)
set_option maxRecDepth 20000 in
theorem gX3_step_X3_isIn : GoodIn wsX3_step (va_wsS RX3 35 yX3_isIn wsX3_isIn) := goodIn_app (goodIn_of _ (by decide +kernel)) ggX3_step_X3_isIn
set_option maxRecDepth 20000 in
theorem ggX3_step_X3_sweepOn : GoodIn wsX3_step wsX3_sweepOn := goodIn_r _ [13, 14, 5, 15, 16, 17, 18, 19, 20, 21, 22, 23, 24, 25, 26, 27, 28, 29, 30, 31, 32, 33, 34, 35, 36, 37, 38, 39, 40, 41, 42, 43] (by decide +kernel) (by decide +kernel)
set_option maxRecDepth 20000 in
theorem gX3_step_X3_sweepOn : GoodIn wsX3_step (wsV RX3 161 RX3 yX3_sweepOn wsX3_sweepOn) := goodIn_app (goodIn_of _ (by decide +kernel)) ggX3_step_X3_sweepOn
theorem dX3_step_0 : decode cX3_step 0 = .ok (.iload_n 1, 1) := by decide +kernel
theorem dX3_step_1 : decode cX3_step 1 = .ok (.iconst 1, 1) := by decide +kernel
theorem dX3_step_2 : decode cX3_step 2 = .ok (.bipush 100, 2) := by decide +kernel
theorem dX3_step_4 : decode cX3_step 4 = .ok (.invokestatic 35, 3) := by decide +kernel
theorem dX3_step_7 : decode cX3_step 7 = .ok (.ifCond .ne 13, 3) := by decide +kernel
theorem dX3_step_10 : decode cX3_step 10 = .ok (.new 39, 3) := by decide +kernel
theorem dX3_step_13 : decode cX3_step 13 = .ok (.dup, 1) := by decide +kernel
theorem dX3_step_14 : decode cX3_step 14 = .ok (.ldc 157, 2) := by decide +kernel
theorem dX3_step_16 : decode cX3_step 16 = .ok (.invokespecial 43, 3) := by decide +kernel
theorem dX3_step_19 : decode cX3_step 19 = .ok (.athrow, 1) := by decide +kernel
theorem dX3_step_20 : decode cX3_step 20 = .ok (.aload_n 0, 1) := by decide +kernel
theorem dX3_step_21 : decode cX3_step 21 = .ok (.getfield 27, 3) := by decide +kernel
theorem dX3_step_24 : decode cX3_step 24 = .ok (.iconst (-1), 1) := by decide +kernel
theorem dX3_step_25 : decode cX3_step 25 = .ok (.if_icmp .ne 13, 3) := by decide +kernel
theorem dX3_step_28 : decode cX3_step 28 = .ok (.new 54, 3) := by decide +kernel
theorem dX3_step_31 : decode cX3_step 31 = .ok (.dup, 1) := by decide +kernel
theorem dX3_step_32 : decode cX3_step 32 = .ok (.ldc 159, 2) := by decide +kernel
theorem dX3_step_34 : decode cX3_step 34 = .ok (.invokespecial 58, 3) := by decide +kernel
theorem dX3_step_37 : decode cX3_step 37 = .ok (.athrow, 1) := by decide +kernel
theorem dX3_step_38 : decode cX3_step 38 = .ok (.iconst 0, 1) := by decide +kernel
theorem dX3_step_39 : decode cX3_step 39 = .ok (.istore_n 2, 1) := by decide +kernel
theorem dX3_step_40 : decode cX3_step 40 = .ok (.iconst 0, 1) := by decide +kernel
theorem dX3_step_41 : decode cX3_step 41 = .ok (.istore_n 3, 1) := by decide +kernel
theorem dX3_step_42 : decode cX3_step 42 = .ok (.iload_n 3, 1) := by decide +kernel
theorem dX3_step_43 : decode cX3_step 43 = .ok (.iload_n 1, 1) := by decide +kernel
theorem dX3_step_44 : decode cX3_step 44 = .ok (.if_icmp .ge 24, 3) := by decide +kernel
theorem dX3_step_47 : decode cX3_step 47 = .ok (.aload_n 0, 1) := by decide +kernel
theorem dX3_step_48 : decode cX3_step 48 = .ok (.getfield 27, 3) := by decide +kernel
theorem dX3_step_51 : decode cX3_step 51 = .ok (.iconst (-1), 1) := by decide +kernel
theorem dX3_step_52 : decode cX3_step 52 = .ok (.if_icmp .eq 16, 3) := by decide +kernel
theorem dX3_step_55 : decode cX3_step 55 = .ok (.iload_n 2, 1) := by decide +kernel
theorem dX3_step_56 : decode cX3_step 56 = .ok (.aload_n 0, 1) := by decide +kernel
theorem dX3_step_57 : decode cX3_step 57 = .ok (.invokevirtual 161, 3) := by decide +kernel
theorem dX3_step_60 : decode cX3_step 60 = .ok (.iadd, 1) := by decide +kernel
theorem dX3_step_61 : decode cX3_step 61 = .ok (.istore_n 2, 1) := by decide +kernel
theorem dX3_step_62 : decode cX3_step 62 = .ok (.iinc 3 1, 3) := by decide +kernel
theorem dX3_step_65 : decode cX3_step 65 = .ok (.goto (-23), 3) := by decide +kernel
theorem dX3_step_68 : decode cX3_step 68 = .ok (.iload_n 2, 1) := by decide +kernel
theorem dX3_step_69 : decode cX3_step 69 = .ok (.ireturn, 1) := by decide +kernel
theorem dX3_sweeping_0 : decode cX3_sweeping 0 = .ok (.aload_n 0, 1) := by decide +kernel
theorem dX3_sweeping_1 : decode cX3_sweeping 1 = .ok (.getfield 27, 3) := by decide +kernel
theorem dX3_sweeping_4 : decode cX3_sweeping 4 = .ok (.ireturn, 1) := by decide +kernel
set_option maxRecDepth 20000 in
theorem ggX3_walk_X3_isIn : GoodIn wsX3_walk wsX3_isIn := goodIn_r _ [8] (by decide +kernel) (by decide +kernel)
set_option maxRecDepth 20000 in
theorem gX3_walk_X3_isIn : GoodIn wsX3_walk (va_wsS RX3 35 yX3_isIn wsX3_isIn) := goodIn_app (goodIn_of _ (by decide +kernel)) ggX3_walk_X3_isIn
set_option maxRecDepth 20000 in
theorem ggX3_walk_X1_countUpTo : GoodIn wsX3_walk wsX1_countUpTo := goodIn_r _ [13, 14, 15, 16, 17, 12, 18, 19, 20, 21, 22, 23, 24, 33, 34, 35, 36, 37, 38, 39] (by decide +kernel) (by decide +kernel)
set_option maxRecDepth 20000 in
theorem gX3_walk_X1_countUpTo : GoodIn wsX3_walk (wsV RX3 59 RX1 yX1_countUpTo wsX1_countUpTo) := goodIn_app (goodIn_of _ (by decide +kernel)) ggX3_walk_X1_countUpTo
set_option maxRecDepth 20000 in
theorem ggX3_walk_X1_numberAt : GoodIn wsX3_walk wsX1_numberAt := goodIn_r _ [18, 19, 20, 21, 22, 12, 23, 14, 24, 35, 36, 37, 38, 39, 33, 34] (by decide +kernel) (by decide +kernel)
set_option maxRecDepth 20000 in
theorem gX3_walk_X1_numberAt : GoodIn wsX3_walk (wsV RX3 149 RX1 yX1_numberAt wsX1_numberAt) := goodIn_app (goodIn_of _ (by decide +kernel)) ggX3_walk_X1_numberAt
theorem dX3_walk_0 : decode cX3_walk 0 = .ok (.iload_n 1, 1) := by decide +kernel
theorem dX3_walk_1 : decode cX3_walk 1 = .ok (.iconst 0, 1) := by decide +kernel
theorem dX3_walk_2 : decode cX3_walk 2 = .ok (.iconst 3, 1) := by decide +kernel
theorem dX3_walk_3 : decode cX3_walk 3 = .ok (.invokestatic 35, 3) := by decide +kernel
theorem dX3_walk_6 : decode cX3_walk 6 = .ok (.ifCond .ne 13, 3) := by decide +kernel
theorem dX3_walk_9 : decode cX3_walk 9 = .ok (.new 39, 3) := by decide +kernel
theorem dX3_walk_12 : decode cX3_walk 12 = .ok (.dup, 1) := by decide +kernel
theorem dX3_walk_13 : decode cX3_walk 13 = .ok (.ldc 164, 2) := by decide +kernel
theorem dX3_walk_15 : decode cX3_walk 15 = .ok (.invokespecial 43, 3) := by decide +kernel
theorem dX3_walk_18 : decode cX3_walk 18 = .ok (.athrow, 1) := by decide +kernel
theorem dX3_walk_19 : decode cX3_walk 19 = .ok (.aload_n 0, 1) := by decide +kernel
theorem dX3_walk_20 : decode cX3_walk 20 = .ok (.getfield 23, 3) := by decide +kernel
theorem dX3_walk_23 : decode cX3_walk 23 = .ok (.iload_n 1, 1) := by decide +kernel
theorem dX3_walk_24 : decode cX3_walk 24 = .ok (.aload_n 0, 1) := by decide +kernel
theorem dX3_walk_25 : decode cX3_walk 25 = .ok (.getfield 10, 3) := by decide +kernel
theorem dX3_walk_28 : decode cX3_walk 28 = .ok (.aload_n 0, 1) := by decide +kernel
theorem dX3_walk_29 : decode cX3_walk 29 = .ok (.getfield 10, 3) := by decide +kernel
theorem dX3_walk_32 : decode cX3_walk 32 = .ok (.aload_n 0, 1) := by decide +kernel
theorem dX3_walk_33 : decode cX3_walk 33 = .ok (.getfield 23, 3) := by decide +kernel
theorem dX3_walk_36 : decode cX3_walk 36 = .ok (.iload_n 1, 1) := by decide +kernel
theorem dX3_walk_37 : decode cX3_walk 37 = .ok (.iaload, 1) := by decide +kernel
theorem dX3_walk_38 : decode cX3_walk 38 = .ok (.invokevirtual 59, 3) := by decide +kernel
theorem dX3_walk_41 : decode cX3_walk 41 = .ok (.invokevirtual 149, 3) := by decide +kernel
theorem dX3_walk_44 : decode cX3_walk 44 = .ok (.iastore, 1) := by decide +kernel
theorem dX3_walk_45 : decode cX3_walk 45 = .ok (.aload_n 0, 1) := by decide +kernel
theorem dX3_walk_46 : decode cX3_walk 46 = .ok (.getfield 23, 3) := by decide +kernel
theorem dX3_walk_49 : decode cX3_walk 49 = .ok (.iload_n 1, 1) := by decide +kernel
theorem dX3_walk_50 : decode cX3_walk 50 = .ok (.iaload, 1) := by decide +kernel
theorem dX3_walk_51 : decode cX3_walk 51 = .ok (.ireturn, 1) := by decide +kernel
theorem dX3_isIn_0 : decode cX3_isIn 0 = .ok (.iload_n 0, 1) := by decide +kernel
theorem dX3_isIn_1 : decode cX3_isIn 1 = .ok (.iload_n 1, 1) := by decide +kernel
theorem dX3_isIn_2 : decode cX3_isIn 2 = .ok (.if_icmp .lt 12, 3) := by decide +kernel
theorem dX3_isIn_5 : decode cX3_isIn 5 = .ok (.iload_n 0, 1) := by decide +kernel
theorem dX3_isIn_6 : decode cX3_isIn 6 = .ok (.iload_n 2, 1) := by decide +kernel
theorem dX3_isIn_7 : decode cX3_isIn 7 = .ok (.if_icmp .gt 7, 3) := by decide +kernel
theorem dX3_isIn_10 : decode cX3_isIn 10 = .ok (.iconst 1, 1) := by decide +kernel
theorem dX3_isIn_11 : decode cX3_isIn 11 = .ok (.goto 4, 3) := by decide +kernel
theorem dX3_isIn_14 : decode cX3_isIn 14 = .ok (.iconst 0, 1) := by decide +kernel
theorem dX3_isIn_15 : decode cX3_isIn 15 = .ok (.ireturn, 1) := by decide +kernel
set_option maxRecDepth 20000 in
theorem ggX3_requireCase_X3_isIn : GoodIn wsX3_requireCase wsX3_isIn := goodIn_r _ [6] (by decide +kernel) (by decide +kernel)
set_option maxRecDepth 20000 in
theorem gX3_requireCase_X3_isIn : GoodIn wsX3_requireCase (va_wsS RX3 35 yX3_isIn wsX3_isIn) := goodIn_app (goodIn_of _ (by decide +kernel)) ggX3_requireCase_X3_isIn
theorem dX3_requireCase_0 : decode cX3_requireCase 0 = .ok (.iload_n 0, 1) := by decide +kernel
theorem dX3_requireCase_1 : decode cX3_requireCase 1 = .ok (.iconst 0, 1) := by decide +kernel
theorem dX3_requireCase_2 : decode cX3_requireCase 2 = .ok (.sipush 999, 3) := by decide +kernel
theorem dX3_requireCase_5 : decode cX3_requireCase 5 = .ok (.invokestatic 35, 3) := by decide +kernel
theorem dX3_requireCase_8 : decode cX3_requireCase 8 = .ok (.ifCond .ne 13, 3) := by decide +kernel
theorem dX3_requireCase_11 : decode cX3_requireCase 11 = .ok (.new 39, 3) := by decide +kernel
theorem dX3_requireCase_14 : decode cX3_requireCase 14 = .ok (.dup, 1) := by decide +kernel
theorem dX3_requireCase_15 : decode cX3_requireCase 15 = .ok (.ldc 166, 2) := by decide +kernel
theorem dX3_requireCase_17 : decode cX3_requireCase 17 = .ok (.invokespecial 43, 3) := by decide +kernel
theorem dX3_requireCase_20 : decode cX3_requireCase 20 = .ok (.athrow, 1) := by decide +kernel
theorem dX3_requireCase_21 : decode cX3_requireCase 21 = .ok (.return_, 1) := by decide +kernel
set_option maxRecDepth 20000 in
theorem ggX3_pageToPutOn_X2_pageWith : GoodIn wsX3_pageToPutOn wsX2_pageWith := goodIn_r _ [10, 11, 12, 13, 14, 9, 15, 16, 17, 18, 19, 20, 28, 29] (by decide +kernel) (by decide +kernel)
set_option maxRecDepth 20000 in
theorem gX3_pageToPutOn_X2_pageWith : GoodIn wsX3_pageToPutOn (wsV RX3 152 RX2 yX2_pageWith wsX2_pageWith) := goodIn_app (goodIn_of _ (by decide +kernel)) ggX3_pageToPutOn_X2_pageWith
theorem dX3_pageToPutOn_0 : decode cX3_pageToPutOn 0 = .ok (.aload_n 0, 1) := by decide +kernel
theorem dX3_pageToPutOn_1 : decode cX3_pageToPutOn 1 = .ok (.getfield 19, 3) := by decide +kernel
theorem dX3_pageToPutOn_4 : decode cX3_pageToPutOn 4 = .ok (.iload_n 1, 1) := by decide +kernel
theorem dX3_pageToPutOn_5 : decode cX3_pageToPutOn 5 = .ok (.iconst 1, 1) := by decide +kernel
theorem dX3_pageToPutOn_6 : decode cX3_pageToPutOn 6 = .ok (.isub, 1) := by decide +kernel
theorem dX3_pageToPutOn_7 : decode cX3_pageToPutOn 7 = .ok (.iconst 0, 1) := by decide +kernel
theorem dX3_pageToPutOn_8 : decode cX3_pageToPutOn 8 = .ok (.invokestatic 168, 3) := by decide +kernel
theorem dX3_pageToPutOn_11 : decode cX3_pageToPutOn 11 = .ok (.invokevirtual 152, 3) := by decide +kernel
theorem dX3_pageToPutOn_14 : decode cX3_pageToPutOn 14 = .ok (.ireturn, 1) := by decide +kernel
set_option maxRecDepth 20000 in
theorem ggX3_takeOut_X2_pageWith : GoodIn wsX3_takeOut wsX2_pageWith := goodIn_r _ [8, 9, 10, 11, 12, 7, 13, 14, 15, 16, 17, 18, 57, 58] (by decide +kernel) (by decide +kernel)
set_option maxRecDepth 20000 in
theorem gX3_takeOut_X2_pageWith : GoodIn wsX3_takeOut (wsV RX3 152 RX2 yX2_pageWith wsX2_pageWith) := goodIn_app (goodIn_of _ (by decide +kernel)) ggX3_takeOut_X2_pageWith
set_option maxRecDepth 20000 in
theorem ggX3_takeOut_X2_takeFrom : GoodIn wsX3_takeOut wsX2_takeFrom := goodIn_r _ [22, 14, 9, 15, 16, 17, 7, 18, 23, 24, 25, 26, 27, 28, 29, 30, 10, 11, 12, 13, 31, 32, 33, 34, 57, 58] (by decide +kernel) (by decide +kernel)
set_option maxRecDepth 20000 in
theorem gX3_takeOut_X2_takeFrom : GoodIn wsX3_takeOut (wsV RX3 174 RX2 yX2_takeFrom wsX2_takeFrom) := goodIn_app (goodIn_of _ (by decide +kernel)) ggX3_takeOut_X2_takeFrom
set_option maxRecDepth 20000 in
theorem ggX3_takeOut_X1_remove : GoodIn wsX3_takeOut wsX1_remove := goodIn_r _ [39, 40, 41, 42, 43, 44, 38, 45, 59, 60] (by decide +kernel) (by decide +kernel)
set_option maxRecDepth 20000 in
theorem gX3_takeOut_X1_remove : GoodIn wsX3_takeOut (wsV RX3 177 RX1 yX1_remove wsX1_remove) := goodIn_app (goodIn_of _ (by decide +kernel)) ggX3_takeOut_X1_remove
set_option maxRecDepth 20000 in
theorem ggX3_takeOut_X2_count : GoodIn wsX3_takeOut wsX2_count := goodIn_r _ [49, 9, 57, 58] (by decide +kernel) (by decide +kernel)
set_option maxRecDepth 20000 in
theorem gX3_takeOut_X2_count : GoodIn wsX3_takeOut (wsV RX3 87 RX2 yX2_count wsX2_count) := goodIn_app (goodIn_of _ (by decide +kernel)) ggX3_takeOut_X2_count
theorem dX3_takeOut_0 : decode cX3_takeOut 0 = .ok (.aload_n 0, 1) := by decide +kernel
theorem dX3_takeOut_1 : decode cX3_takeOut 1 = .ok (.getfield 19, 3) := by decide +kernel
theorem dX3_takeOut_4 : decode cX3_takeOut 4 = .ok (.aload_n 0, 1) := by decide +kernel
theorem dX3_takeOut_5 : decode cX3_takeOut 5 = .ok (.getfield 19, 3) := by decide +kernel
theorem dX3_takeOut_8 : decode cX3_takeOut 8 = .ok (.iload_n 1, 1) := by decide +kernel
theorem dX3_takeOut_9 : decode cX3_takeOut 9 = .ok (.invokevirtual 152, 3) := by decide +kernel
theorem dX3_takeOut_12 : decode cX3_takeOut 12 = .ok (.invokevirtual 174, 3) := by decide +kernel
theorem dX3_takeOut_15 : decode cX3_takeOut 15 = .ok (.aload_n 0, 1) := by decide +kernel
theorem dX3_takeOut_16 : decode cX3_takeOut 16 = .ok (.getfield 10, 3) := by decide +kernel
theorem dX3_takeOut_19 : decode cX3_takeOut 19 = .ok (.iload_n 1, 1) := by decide +kernel
theorem dX3_takeOut_20 : decode cX3_takeOut 20 = .ok (.invokevirtual 177, 3) := by decide +kernel
theorem dX3_takeOut_23 : decode cX3_takeOut 23 = .ok (.aload_n 0, 1) := by decide +kernel
theorem dX3_takeOut_24 : decode cX3_takeOut 24 = .ok (.getfield 27, 3) := by decide +kernel
theorem dX3_takeOut_27 : decode cX3_takeOut 27 = .ok (.aload_n 0, 1) := by decide +kernel
theorem dX3_takeOut_28 : decode cX3_takeOut 28 = .ok (.getfield 19, 3) := by decide +kernel
theorem dX3_takeOut_31 : decode cX3_takeOut 31 = .ok (.invokevirtual 87, 3) := by decide +kernel
theorem dX3_takeOut_34 : decode cX3_takeOut 34 = .ok (.if_icmp .lt 8, 3) := by decide +kernel
theorem dX3_takeOut_37 : decode cX3_takeOut 37 = .ok (.aload_n 0, 1) := by decide +kernel
theorem dX3_takeOut_38 : decode cX3_takeOut 38 = .ok (.iconst (-1), 1) := by decide +kernel
