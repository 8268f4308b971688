theorem dX3_takeOut_39 : decode cX3_takeOut 39 = .ok (.putfield 27, 3) := by decide +kernel
theorem dX3_takeOut_42 : decode cX3_takeOut 42 = .ok (.return_, 1) := by decide +kernel
set_option maxRecDepth 20000 in
theorem ggX3_keepOverdue_X1_count : GoodIn wsX3_keepOverdue wsX1_count := goodIn_r _ [9, 10, 85, 86] (by decide +kernel) (by decide +kernel)
set_option maxRecDepth 20000 in
theorem gX3_keepOverdue_X1_count : GoodIn wsX3_keepOverdue (wsV RX3 50 RX1 yX1_count wsX1_count) := goodIn_app (goodIn_of _ (by decide +kernel)) ggX3_keepOverdue_X1_count
set_option maxRecDepth 20000 in
theorem ggX3_keepOverdue_X1_bailAt : GoodIn wsX3_keepOverdue wsX1_bailAt := goodIn_r _ [14, 10, 15, 85, 86] (by decide +kernel) (by decide +kernel)
set_option maxRecDepth 20000 in
theorem gX3_keepOverdue_X1_bailAt : GoodIn wsX3_keepOverdue (wsV RX3 113 RX1 yX1_bailAt wsX1_bailAt) := goodIn_app (goodIn_of _ (by decide +kernel)) ggX3_keepOverdue_X1_bailAt
set_option maxRecDepth 20000 in
theorem ggX3_keepOverdue_X0_isOverdue : GoodIn wsX3_keepOverdue wsX0_isOverdue := goodIn_r _ [20, 21, 22, 23, 24, 19, 25, 80, 81, 82, 83, 84] (by decide +kernel) (by decide +kernel)
set_option maxRecDepth 20000 in
theorem gX3_keepOverdue_X0_isOverdue : GoodIn wsX3_keepOverdue (wsV RX3 180 RX0 yX0_isOverdue wsX0_isOverdue) := goodIn_app (goodIn_of _ (by decide +kernel)) ggX3_keepOverdue_X0_isOverdue
set_option maxRecDepth 20000 in
theorem ggX3_keepOverdue_X3_takeOut : GoodIn wsX3_keepOverdue wsX3_takeOut := goodIn_r _ [30, 31, 1, 32, 33, 34, 35, 36, 37, 38, 39, 40, 41, 42, 43, 44, 45, 46, 47, 48, 49, 50, 51, 52, 53, 54, 55, 56, 57, 58, 59, 60, 61, 62, 63, 64, 65, 66, 8, 67, 10, 15, 68, 12, 13, 14, 69, 70, 71, 72, 73, 74, 75, 76, 77, 78, 79, 87, 88, 85, 86] (by decide +kernel) (by decide +kernel)
set_option maxRecDepth 20000 in
theorem gX3_keepOverdue_X3_takeOut : GoodIn wsX3_keepOverdue (wsV RX3 103 RX3 yX3_takeOut wsX3_takeOut) := goodIn_app (goodIn_of _ (by decide +kernel)) ggX3_keepOverdue_X3_takeOut
theorem dX3_keepOverdue_0 : decode cX3_keepOverdue 0 = .ok (.iconst 0, 1) := by decide +kernel
theorem dX3_keepOverdue_1 : decode cX3_keepOverdue 1 = .ok (.istore_n 1, 1) := by decide +kernel
theorem dX3_keepOverdue_2 : decode cX3_keepOverdue 2 = .ok (.iconst 0, 1) := by decide +kernel
theorem dX3_keepOverdue_3 : decode cX3_keepOverdue 3 = .ok (.istore_n 2, 1) := by decide +kernel
theorem dX3_keepOverdue_4 : decode cX3_keepOverdue 4 = .ok (.aload_n 0, 1) := by decide +kernel
theorem dX3_keepOverdue_5 : decode cX3_keepOverdue 5 = .ok (.getfield 10, 3) := by decide +kernel
theorem dX3_keepOverdue_8 : decode cX3_keepOverdue 8 = .ok (.invokevirtual 50, 3) := by decide +kernel
theorem dX3_keepOverdue_11 : decode cX3_keepOverdue 11 = .ok (.istore_n 3, 1) := by decide +kernel
theorem dX3_keepOverdue_12 : decode cX3_keepOverdue 12 = .ok (.iload_n 3, 1) := by decide +kernel
theorem dX3_keepOverdue_13 : decode cX3_keepOverdue 13 = .ok (.ifCond .le 64, 3) := by decide +kernel
theorem dX3_keepOverdue_16 : decode cX3_keepOverdue 16 = .ok (.aload_n 0, 1) := by decide +kernel
theorem dX3_keepOverdue_17 : decode cX3_keepOverdue 17 = .ok (.getfield 10, 3) := by decide +kernel
theorem dX3_keepOverdue_20 : decode cX3_keepOverdue 20 = .ok (.iload_n 2, 1) := by decide +kernel
theorem dX3_keepOverdue_21 : decode cX3_keepOverdue 21 = .ok (.invokevirtual 113, 3) := by decide +kernel
theorem dX3_keepOverdue_24 : decode cX3_keepOverdue 24 = .ok (.astore 4, 2) := by decide +kernel
theorem dX3_keepOverdue_26 : decode cX3_keepOverdue 26 = .ok (.aload 4, 2) := by decide +kernel
theorem dX3_keepOverdue_28 : decode cX3_keepOverdue 28 = .ok (.ifnull 40, 3) := by decide +kernel
theorem dX3_keepOverdue_31 : decode cX3_keepOverdue 31 = .ok (.aload 4, 2) := by decide +kernel
theorem dX3_keepOverdue_33 : decode cX3_keepOverdue 33 = .ok (.aload_n 0, 1) := by decide +kernel
theorem dX3_keepOverdue_34 : decode cX3_keepOverdue 34 = .ok (.getfield 77, 3) := by decide +kernel
theorem dX3_keepOverdue_37 : decode cX3_keepOverdue 37 = .ok (.invokevirtual 180, 3) := by decide +kernel
theorem dX3_keepOverdue_40 : decode cX3_keepOverdue 40 = .ok (.ifCond .eq 28, 3) := by decide +kernel
theorem dX3_keepOverdue_43 : decode cX3_keepOverdue 43 = .ok (.aload_n 0, 1) := by decide +kernel
theorem dX3_keepOverdue_44 : decode cX3_keepOverdue 44 = .ok (.dup, 1) := by decide +kernel
theorem dX3_keepOverdue_45 : decode cX3_keepOverdue 45 = .ok (.getfield 125, 3) := by decide +kernel
theorem dX3_keepOverdue_48 : decode cX3_keepOverdue 48 = .ok (.aload 4, 2) := by decide +kernel
theorem dX3_keepOverdue_50 : decode cX3_keepOverdue 50 = .ok (.getfield 97, 3) := by decide +kernel
theorem dX3_keepOverdue_53 : decode cX3_keepOverdue 53 = .ok (.iadd, 1) := by decide +kernel
theorem dX3_keepOverdue_54 : decode cX3_keepOverdue 54 = .ok (.putfield 125, 3) := by decide +kernel
theorem dX3_keepOverdue_57 : decode cX3_keepOverdue 57 = .ok (.aload_n 0, 1) := by decide +kernel
theorem dX3_keepOverdue_58 : decode cX3_keepOverdue 58 = .ok (.iload_n 2, 1) := by decide +kernel
theorem dX3_keepOverdue_59 : decode cX3_keepOverdue 59 = .ok (.invokevirtual 103, 3) := by decide +kernel
theorem dX3_keepOverdue_62 : decode cX3_keepOverdue 62 = .ok (.iinc 1 1, 3) := by decide +kernel
theorem dX3_keepOverdue_65 : decode cX3_keepOverdue 65 = .ok (.goto 6, 3) := by decide +kernel
theorem dX3_keepOverdue_68 : decode cX3_keepOverdue 68 = .ok (.iinc 2 1, 3) := by decide +kernel
theorem dX3_keepOverdue_71 : decode cX3_keepOverdue 71 = .ok (.iinc 3 (-1), 3) := by decide +kernel
theorem dX3_keepOverdue_74 : decode cX3_keepOverdue 74 = .ok (.goto (-62), 3) := by decide +kernel
theorem dX3_keepOverdue_77 : decode cX3_keepOverdue 77 = .ok (.iload_n 1, 1) := by decide +kernel
theorem dX3_keepOverdue_78 : decode cX3_keepOverdue 78 = .ok (.ireturn, 1) := by decide +kernel
set_option maxRecDepth 20000 in
theorem ggX3_sweepOn_X2_has : GoodIn wsX3_sweepOn wsX2_has := goodIn_r _ [7, 8, 9, 30, 31] (by decide +kernel) (by decide +kernel)
set_option maxRecDepth 20000 in
theorem gX3_sweepOn_X2_has : GoodIn wsX3_sweepOn (wsV RX3 135 RX2 yX2_has wsX2_has) := goodIn_app (goodIn_of _ (by decide +kernel)) ggX3_sweepOn_X2_has
set_option maxRecDepth 20000 in
theorem ggX3_sweepOn_X2_sizeOf : GoodIn wsX3_sweepOn wsX2_sizeOf := goodIn_r _ [13, 9, 14, 4, 5, 6, 7, 8, 30, 31] (by decide +kernel) (by decide +kernel)
set_option maxRecDepth 20000 in
theorem gX3_sweepOn_X2_sizeOf : GoodIn wsX3_sweepOn (wsV RX3 66 RX2 yX2_sizeOf wsX2_sizeOf) := goodIn_app (goodIn_of _ (by decide +kernel)) ggX3_sweepOn_X2_sizeOf
set_option maxRecDepth 20000 in
theorem ggX3_sweepOn_X2_move : GoodIn wsX3_sweepOn wsX2_move := goodIn_r _ [18, 9, 14, 4, 5, 6, 7, 8, 19, 20, 21, 22, 30, 31] (by decide +kernel) (by decide +kernel)
set_option maxRecDepth 20000 in
theorem gX3_sweepOn_X2_move : GoodIn wsX3_sweepOn (wsV RX3 183 RX2 yX2_move wsX2_move) := goodIn_app (goodIn_of _ (by decide +kernel)) ggX3_sweepOn_X2_move
theorem dX3_sweepOn_0 : decode cX3_sweepOn 0 = .ok (.aload_n 0, 1) := by decide +kernel
theorem dX3_sweepOn_1 : decode cX3_sweepOn 1 = .ok (.getfield 19, 3) := by decide +kernel
theorem dX3_sweepOn_4 : decode cX3_sweepOn 4 = .ok (.aload_n 0, 1) := by decide +kernel
theorem dX3_sweepOn_5 : decode cX3_sweepOn 5 = .ok (.getfield 27, 3) := by decide +kernel
theorem dX3_sweepOn_8 : decode cX3_sweepOn 8 = .ok (.iconst 1, 1) := by decide +kernel
theorem dX3_sweepOn_9 : decode cX3_sweepOn 9 = .ok (.iadd, 1) := by decide +kernel
theorem dX3_sweepOn_10 : decode cX3_sweepOn 10 = .ok (.invokevirtual 135, 3) := by decide +kernel
theorem dX3_sweepOn_13 : decode cX3_sweepOn 13 = .ok (.ifCond .ne 10, 3) := by decide +kernel
theorem dX3_sweepOn_16 : decode cX3_sweepOn 16 = .ok (.aload_n 0, 1) := by decide +kernel
theorem dX3_sweepOn_17 : decode cX3_sweepOn 17 = .ok (.iconst (-1), 1) := by decide +kernel
theorem dX3_sweepOn_18 : decode cX3_sweepOn 18 = .ok (.putfield 27, 3) := by decide +kernel
theorem dX3_sweepOn_21 : decode cX3_sweepOn 21 = .ok (.iconst 0, 1) := by decide +kernel
theorem dX3_sweepOn_22 : decode cX3_sweepOn 22 = .ok (.ireturn, 1) := by decide +kernel
theorem dX3_sweepOn_23 : decode cX3_sweepOn 23 = .ok (.aload_n 0, 1) := by decide +kernel
theorem dX3_sweepOn_24 : decode cX3_sweepOn 24 = .ok (.getfield 19, 3) := by decide +kernel
theorem dX3_sweepOn_27 : decode cX3_sweepOn 27 = .ok (.aload_n 0, 1) := by decide +kernel
theorem dX3_sweepOn_28 : decode cX3_sweepOn 28 = .ok (.getfield 27, 3) := by decide +kernel
theorem dX3_sweepOn_31 : decode cX3_sweepOn 31 = .ok (.invokevirtual 66, 3) := by decide +kernel
theorem dX3_sweepOn_34 : decode cX3_sweepOn 34 = .ok (.iconst 4, 1) := by decide +kernel
theorem dX3_sweepOn_35 : decode cX3_sweepOn 35 = .ok (.if_icmp .lt 15, 3) := by decide +kernel
theorem dX3_sweepOn_38 : decode cX3_sweepOn 38 = .ok (.aload_n 0, 1) := by decide +kernel
theorem dX3_sweepOn_39 : decode cX3_sweepOn 39 = .ok (.dup, 1) := by decide +kernel
theorem dX3_sweepOn_40 : decode cX3_sweepOn 40 = .ok (.getfield 27, 3) := by decide +kernel
theorem dX3_sweepOn_43 : decode cX3_sweepOn 43 = .ok (.iconst 1, 1) := by decide +kernel
theorem dX3_sweepOn_44 : decode cX3_sweepOn 44 = .ok (.iadd, 1) := by decide +kernel
theorem dX3_sweepOn_45 : decode cX3_sweepOn 45 = .ok (.putfield 27, 3) := by decide +kernel
theorem dX3_sweepOn_48 : decode cX3_sweepOn 48 = .ok (.iconst 0, 1) := by decide +kernel
theorem dX3_sweepOn_49 : decode cX3_sweepOn 49 = .ok (.ireturn, 1) := by decide +kernel
theorem dX3_sweepOn_50 : decode cX3_sweepOn 50 = .ok (.aload_n 0, 1) := by decide +kernel
theorem dX3_sweepOn_51 : decode cX3_sweepOn 51 = .ok (.getfield 19, 3) := by decide +kernel
theorem dX3_sweepOn_54 : decode cX3_sweepOn 54 = .ok (.aload_n 0, 1) := by decide +kernel
theorem dX3_sweepOn_55 : decode cX3_sweepOn 55 = .ok (.getfield 27, 3) := by decide +kernel
theorem dX3_sweepOn_58 : decode cX3_sweepOn 58 = .ok (.iconst 1, 1) := by decide +kernel
theorem dX3_sweepOn_59 : decode cX3_sweepOn 59 = .ok (.iadd, 1) := by decide +kernel
theorem dX3_sweepOn_60 : decode cX3_sweepOn 60 = .ok (.aload_n 0, 1) := by decide +kernel
theorem dX3_sweepOn_61 : decode cX3_sweepOn 61 = .ok (.getfield 27, 3) := by decide +kernel
theorem dX3_sweepOn_64 : decode cX3_sweepOn 64 = .ok (.invokevirtual 183, 3) := by decide +kernel
theorem dX3_sweepOn_67 : decode cX3_sweepOn 67 = .ok (.iconst 1, 1) := by decide +kernel
theorem dX3_sweepOn_68 : decode cX3_sweepOn 68 = .ok (.ireturn, 1) := by decide +kernel
theorem dJ9_max_7cf53_0 : decode cJ9_max_7cf53 0 = .ok (.iload_n 0, 1) := by decide +kernel
theorem dJ9_max_7cf53_1 : decode cJ9_max_7cf53 1 = .ok (.iload_n 1, 1) := by decide +kernel
theorem dJ9_max_7cf53_2 : decode cJ9_max_7cf53 2 = .ok (.if_icmp .lt 7, 3) := by decide +kernel
theorem dJ9_max_7cf53_5 : decode cJ9_max_7cf53 5 = .ok (.iload_n 0, 1) := by decide +kernel
theorem dJ9_max_7cf53_6 : decode cJ9_max_7cf53 6 = .ok (.goto 4, 3) := by decide +kernel
theorem dJ9_max_7cf53_9 : decode cJ9_max_7cf53 9 = .ok (.iload_n 1, 1) := by decide +kernel
theorem dJ9_max_7cf53_10 : decode cJ9_max_7cf53 10 = .ok (.ireturn, 1) := by decide +kernel
theorem dL_cell_0 : decode cL_cell 0 = .ok (.iload_n 1, 1) := by decide +kernel
theorem dL_cell_1 : decode cL_cell 1 = .ok (.aload_n 0, 1) := by decide +kernel
theorem dL_cell_2 : decode cL_cell 2 = .ok (.arraylength, 1) := by decide +kernel
theorem dL_cell_3 : decode cL_cell 3 = .ok (.if_icmp .ge 9, 3) := by decide +kernel
theorem dL_cell_6 : decode cL_cell 6 = .ok (.aload_n 0, 1) := by decide +kernel
theorem dL_cell_7 : decode cL_cell 7 = .ok (.iload_n 1, 1) := by decide +kernel
theorem dL_cell_8 : decode cL_cell 8 = .ok (.iaload, 1) := by decide +kernel
theorem dL_cell_9 : decode cL_cell 9 = .ok (.goto 18, 3) := by decide +kernel
theorem dL_cell_12 : decode cL_cell 12 = .ok (.sipush 7919, 3) := by decide +kernel
theorem dL_cell_15 : decode cL_cell 15 = .ok (.iload_n 1, 1) := by decide +kernel
theorem dL_cell_16 : decode cL_cell 16 = .ok (.sipush 1061, 3) := by decide +kernel
theorem dL_cell_19 : decode cL_cell 19 = .ok (.iadd, 1) := by decide +kernel
theorem dL_cell_20 : decode cL_cell 20 = .ok (.imul, 1) := by decide +kernel
theorem dL_cell_21 : decode cL_cell 21 = .ok (.iload_n 1, 1) := by decide +kernel
theorem dL_cell_22 : decode cL_cell 22 = .ok (.sipush 809, 3) := by decide +kernel
theorem dL_cell_25 : decode cL_cell 25 = .ok (.iadd, 1) := by decide +kernel
theorem dL_cell_26 : decode cL_cell 26 = .ok (.imul, 1) := by decide +kernel
theorem dL_cell_27 : decode cL_cell 27 = .ok (.ireturn, 1) := by decide +kernel
theorem dL_low_0 : decode cL_low 0 = .ok (.iload_n 0, 1) := by decide +kernel
theorem dL_low_1 : decode cL_low 1 = .ok (.ldc 7, 2) := by decide +kernel
theorem dL_low_3 : decode cL_low 3 = .ok (.iand, 1) := by decide +kernel
theorem dL_low_4 : decode cL_low 4 = .ok (.iload_n 1, 1) := by decide +kernel
theorem dL_low_5 : decode cL_low 5 = .ok (.irem, 1) := by decide +kernel
theorem dL_low_6 : decode cL_low 6 = .ok (.ireturn, 1) := by decide +kernel
set_option maxRecDepth 20000 in
theorem ggL_put_X3_put : GoodIn wsL_put wsX3_put := goodIn_ca (goodIn_ca (goodIn_r _ [8, 9, 10, 11, 12, 13, 14, 15, 16, 17, 18, 19, 20, 7, 21, 22, 23, 24, 25, 26, 27, 28, 29, 30, 31, 32, 33, 34, 35, 36, 37, 38, 39, 40, 41, 42, 43, 44, 45, 46, 47, 48, 49, 50, 51, 52, 53, 54, 55, 56, 57, 58, 59, 60, 61, 62, 63, 64, 65, 66, 67, 68, 69, 70, 71, 72, 73, 74, 75, 76, 77, 78, 79, 80, 81, 82, 83, 84, 85, 86, 87, 88, 89, 90, 91, 92, 93, 94, 95, 96, 97, 98, 99, 100, 101, 102, 103, 104, 105, 106, 107, 108, 109, 110, 111, 112, 113, 114, 115, 116, 117, 118, 119, 120] (by decide +kernel) (by decide +kernel)) (goodIn_sub (fun _ h => List.mem_cons_of_mem _ (List.mem_append_left _ (List.mem_append_right _ h))) (by decide +kernel))) (goodIn_sub (fun _ h => List.mem_cons_of_mem _ (List.mem_append_right _ h)) (by decide +kernel))
set_option maxRecDepth 20000 in
theorem gL_put_X3_put : GoodIn wsL_put (wsV RL 8 RX3 yX3_put wsX3_put) := goodIn_app (goodIn_of _ (by decide +kernel)) ggL_put_X3_put
theorem dL_put_0 : decode cL_put 0 = .ok (.aload_n 0, 1) := by decide +kernel
theorem dL_put_1 : decode cL_put 1 = .ok (.iload_n 1, 1) := by decide +kernel
theorem dL_put_2 : decode cL_put 2 = .ok (.iload_n 2, 1) := by decide +kernel
theorem dL_put_3 : decode cL_put 3 = .ok (.iload_n 3, 1) := by decide +kernel
theorem dL_put_4 : decode cL_put 4 = .ok (.invokevirtual 8, 3) := by decide +kernel
theorem dL_put_7 : decode cL_put 7 = .ok (.ireturn, 1) := by decide +kernel
theorem dL_put_8 : decode cL_put 8 = .ok (.astore 4, 2) := by decide +kernel
theorem dL_put_10 : decode cL_put 10 = .ok (.ldc 16, 2) := by decide +kernel
theorem dL_put_12 : decode cL_put 12 = .ok (.ireturn, 1) := by decide +kernel
theorem dL_put_13 : decode cL_put 13 = .ok (.astore 4, 2) := by decide +kernel
theorem dL_put_15 : decode cL_put 15 = .ok (.ldc 16, 2) := by decide +kernel
theorem dL_put_17 : decode cL_put 17 = .ok (.ireturn, 1) := by decide +kernel
set_option maxRecDepth 20000 in
theorem ggL_payBack_X3_payBack : GoodIn wsL_payBack wsX3_payBack := goodIn_ca (goodIn_ca (goodIn_r _ [8, 9, 10, 11, 12, 13, 14, 15, 7, 16, 17, 18, 19, 20, 21, 22, 23, 24, 25, 26, 27, 28, 29, 30, 31, 32, 33, 34, 35, 36, 37, 38, 39, 40, 41, 42, 43, 44, 45, 46, 47, 48, 49, 50, 51, 52, 53, 54, 55, 56, 57, 58, 59, 60, 61, 62, 63, 64, 65, 66, 67, 68, 69, 70, 71, 72, 73, 74, 75, 76, 77, 78, 79, 80, 81, 82, 83, 84, 85, 86, 87, 88, 89, 90, 91, 92, 93, 94, 95, 96, 97, 98, 99, 100, 101, 102, 103, 104, 105, 106, 107, 108, 109, 110, 111, 112, 113] (by decide +kernel) (by decide +kernel)) (goodIn_sub (fun _ h => List.mem_cons_of_mem _ (List.mem_append_left _ (List.mem_append_right _ h))) (by decide +kernel))) (goodIn_sub (fun _ h => List.mem_cons_of_mem _ (List.mem_append_right _ h)) (by decide +kernel))
set_option maxRecDepth 20000 in
theorem gL_payBack_X3_payBack : GoodIn wsL_payBack (wsV RL 19 RX3 yX3_payBack wsX3_payBack) := goodIn_app (goodIn_of _ (by decide +kernel)) ggL_payBack_X3_payBack
theorem dL_payBack_0 : decode cL_payBack 0 = .ok (.aload_n 0, 1) := by decide +kernel
theorem dL_payBack_1 : decode cL_payBack 1 = .ok (.iload_n 1, 1) := by decide +kernel
theorem dL_payBack_2 : decode cL_payBack 2 = .ok (.invokevirtual 19, 3) := by decide +kernel
theorem dL_payBack_5 : decode cL_payBack 5 = .ok (.ireturn, 1) := by decide +kernel
theorem dL_payBack_6 : decode cL_payBack 6 = .ok (.astore_n 2, 1) := by decide +kernel
theorem dL_payBack_7 : decode cL_payBack 7 = .ok (.ldc 16, 2) := by decide +kernel
theorem dL_payBack_9 : decode cL_payBack 9 = .ok (.ireturn, 1) := by decide +kernel
theorem dL_payBack_10 : decode cL_payBack 10 = .ok (.astore_n 2, 1) := by decide +kernel
theorem dL_payBack_11 : decode cL_payBack 11 = .ok (.ldc 16, 2) := by decide +kernel
theorem dL_payBack_13 : decode cL_payBack 13 = .ok (.ireturn, 1) := by decide +kernel
set_option maxRecDepth 20000 in
theorem ggL_forfeit_X3_forfeit : GoodIn wsL_forfeit wsX3_forfeit := goodIn_ca (goodIn_ca (goodIn_r _ [8, 9, 10, 11, 12, 13, 14, 15, 7, 16, 17, 18, 19, 20, 21, 22, 23, 24, 25, 26, 27, 28, 29, 30, 31, 32, 33, 34, 35, 36, 37, 38, 39, 40, 41, 42, 43, 44, 45, 46, 47, 48, 49, 50, 51, 52, 53, 54, 55, 56, 57, 58, 59, 60, 61, 62, 63, 64, 65] (by decide +kernel) (by decide +kernel)) (goodIn_sub (fun _ h => List.mem_cons_of_mem _ (List.mem_append_left _ (List.mem_append_right _ h))) (by decide +kernel))) (goodIn_sub (fun _ h => List.mem_cons_of_mem _ (List.mem_append_right _ h)) (by decide +kernel))
set_option maxRecDepth 20000 in
theorem gL_forfeit_X3_forfeit : GoodIn wsL_forfeit (wsV RL 23 RX3 yX3_forfeit wsX3_forfeit) := goodIn_app (goodIn_of _ (by decide +kernel)) ggL_forfeit_X3_forfeit
theorem dL_forfeit_0 : decode cL_forfeit 0 = .ok (.aload_n 0, 1) := by decide +kernel
theorem dL_forfeit_1 : decode cL_forfeit 1 = .ok (.iload_n 1, 1) := by decide +kernel
theorem dL_forfeit_2 : decode cL_forfeit 2 = .ok (.invokevirtual 23, 3) := by decide +kernel
theorem dL_forfeit_5 : decode cL_forfeit 5 = .ok (.iconst 0, 1) := by decide +kernel
theorem dL_forfeit_6 : decode cL_forfeit 6 = .ok (.ireturn, 1) := by decide +kernel
theorem dL_forfeit_7 : decode cL_forfeit 7 = .ok (.astore_n 2, 1) := by decide +kernel
theorem dL_forfeit_8 : decode cL_forfeit 8 = .ok (.ldc 16, 2) := by decide +kernel
theorem dL_forfeit_10 : decode cL_forfeit 10 = .ok (.ireturn, 1) := by decide +kernel
theorem dL_forfeit_11 : decode cL_forfeit 11 = .ok (.astore_n 2, 1) := by decide +kernel
theorem dL_forfeit_12 : decode cL_forfeit 12 = .ok (.ldc 16, 2) := by decide +kernel
theorem dL_forfeit_14 : decode cL_forfeit 14 = .ok (.ireturn, 1) := by decide +kernel
set_option maxRecDepth 20000 in
theorem ggL_undo_X3_undo : GoodIn wsL_undo wsX3_undo := goodIn_ca (goodIn_ca (goodIn_r _ [8, 9, 10, 11, 12, 13, 14, 15, 7, 16, 17, 18, 19, 20, 21, 22, 23, 24, 25, 26, 27, 28, 29, 30, 31, 32, 33, 34, 35, 36, 37, 38, 39, 40, 41, 42, 43, 44, 45, 46, 47, 48, 49, 50, 51, 52, 53, 54, 55, 56, 57, 58, 59, 60, 61, 62, 63, 64, 65] (by decide +kernel) (by decide +kernel)) (goodIn_sub (fun _ h => List.mem_cons_of_mem _ (List.mem_append_left _ (List.mem_append_right _ h))) (by decide +kernel))) (goodIn_sub (fun _ h => List.mem_cons_of_mem _ (List.mem_append_right _ h)) (by decide +kernel))
set_option maxRecDepth 20000 in
theorem gL_undo_X3_undo : GoodIn wsL_undo (wsV RL 27 RX3 yX3_undo wsX3_undo) := goodIn_app (goodIn_of _ (by decide +kernel)) ggL_undo_X3_undo
theorem dL_undo_0 : decode cL_undo 0 = .ok (.aload_n 0, 1) := by decide +kernel
theorem dL_undo_1 : decode cL_undo 1 = .ok (.iload_n 1, 1) := by decide +kernel
theorem dL_undo_2 : decode cL_undo 2 = .ok (.invokevirtual 27, 3) := by decide +kernel
theorem dL_undo_5 : decode cL_undo 5 = .ok (.ireturn, 1) := by decide +kernel
theorem dL_undo_6 : decode cL_undo 6 = .ok (.astore_n 2, 1) := by decide +kernel
theorem dL_undo_7 : decode cL_undo 7 = .ok (.ldc 16, 2) := by decide +kernel
theorem dL_undo_9 : decode cL_undo 9 = .ok (.ireturn, 1) := by decide +kernel
theorem dL_undo_10 : decode cL_undo 10 = .ok (.astore_n 2, 1) := by decide +kernel
theorem dL_undo_11 : decode cL_undo 11 = .ok (.ldc 16, 2) := by decide +kernel
theorem dL_undo_13 : decode cL_undo 13 = .ok (.ireturn, 1) := by decide +kernel
set_option maxRecDepth 20000 in
theorem ggL_amnesty_X3_amnesty : GoodIn wsL_amnesty wsX3_amnesty := goodIn_ca (goodIn_r _ [7, 8, 9, 10, 11, 12, 13, 14, 15, 6, 16, 17, 18, 19, 20, 21, 22, 23, 24, 25, 26, 27, 28, 29, 30, 31, 32, 33, 34, 35, 36, 37, 38, 39, 40, 41, 42, 43, 44, 45, 46, 47, 48, 49, 50, 51, 52, 53, 54, 55, 56, 57, 58, 59, 60, 61, 62, 63, 64, 65, 66, 67, 68, 69, 70, 71, 72, 73, 74, 75, 76, 77, 78, 79, 80, 81, 82, 83, 84, 85, 86, 87, 88, 89, 90, 91, 92, 93, 94, 95, 96, 97, 98, 99, 100, 101] (by decide +kernel) (by decide +kernel)) (goodIn_sub (fun _ h => List.mem_cons_of_mem _ (List.mem_append_right _ h)) (by decide +kernel))
set_option maxRecDepth 20000 in
theorem gL_amnesty_X3_amnesty : GoodIn wsL_amnesty (wsV RL 30 RX3 yX3_amnesty wsX3_amnesty) := goodIn_app (goodIn_of _ (by decide +kernel)) ggL_amnesty_X3_amnesty
theorem dL_amnesty_0 : decode cL_amnesty 0 = .ok (.aload_n 0, 1) := by decide +kernel
theorem dL_amnesty_1 : decode cL_amnesty 1 = .ok (.iload_n 1, 1) := by decide +kernel
theorem dL_amnesty_2 : decode cL_amnesty 2 = .ok (.iload_n 2, 1) := by decide +kernel
theorem dL_amnesty_3 : decode cL_amnesty 3 = .ok (.invokevirtual 30, 3) := by decide +kernel
theorem dL_amnesty_6 : decode cL_amnesty 6 = .ok (.ireturn, 1) := by decide +kernel
theorem dL_amnesty_7 : decode cL_amnesty 7 = .ok (.astore_n 3, 1) := by decide +kernel
theorem dL_amnesty_8 : decode cL_amnesty 8 = .ok (.ldc 16, 2) := by decide +kernel
theorem dL_amnesty_10 : decode cL_amnesty 10 = .ok (.ireturn, 1) := by decide +kernel
set_option maxRecDepth 20000 in
theorem ggL_pass_X3_pass : GoodIn wsL_pass wsX3_pass := goodIn_ca (goodIn_ca (goodIn_r _ [8, 9, 10, 11, 12, 13, 14, 15, 7, 16, 17, 18, 19, 20, 21, 22, 23, 24, 25, 26, 27, 28, 29, 30, 31, 32, 33, 34, 35, 36, 37, 38, 39, 40, 41, 42, 43, 44, 45, 46, 47, 48, 49, 50, 51, 52, 53, 54, 55, 56, 57, 58, 59, 60, 61, 62, 63, 64, 65, 66, 67, 68, 69, 70, 71, 72, 73, 74, 75, 76, 77, 78, 79, 80, 81, 82, 83, 84, 85, 86, 87, 88, 89, 90, 91, 92, 93, 94, 95, 96, 97, 98, 99, 100, 101, 102, 103, 104, 105, 106] (by decide +kernel) (by decide +kernel)) (goodIn_sub (fun _ h => List.mem_cons_of_mem _ (List.mem_append_left _ (List.mem_append_right _ h))) (by decide +kernel))) (goodIn_sub (fun _ h => List.mem_cons_of_mem _ (List.mem_append_right _ h)) (by decide +kernel))
set_option maxRecDepth 20000 in
theorem gL_pass_X3_pass : GoodIn wsL_pass (wsV RL 34 RX3 yX3_pass wsX3_pass) := goodIn_app (goodIn_of _ (by decide +kernel)) ggL_pass_X3_pass
theorem dL_pass_0 : decode cL_pass 0 = .ok (.aload_n 0, 1) := by decide +kernel
theorem dL_pass_1 : decode cL_pass 1 = .ok (.iload_n 1, 1) := by decide +kernel
theorem dL_pass_2 : decode cL_pass 2 = .ok (.invokevirtual 34, 3) := by decide +kernel
theorem dL_pass_5 : decode cL_pass 5 = .ok (.ireturn, 1) := by decide +kernel
theorem dL_pass_6 : decode cL_pass 6 = .ok (.astore_n 2, 1) := by decide +kernel
theorem dL_pass_7 : decode cL_pass 7 = .ok (.ldc 16, 2) := by decide +kernel
theorem dL_pass_9 : decode cL_pass 9 = .ok (.ireturn, 1) := by decide +kernel
theorem dL_pass_10 : decode cL_pass 10 = .ok (.astore_n 2, 1) := by decide +kernel
theorem dL_pass_11 : decode cL_pass 11 = .ok (.ldc 16, 2) := by decide +kernel
theorem dL_pass_13 : decode cL_pass 13 = .ok (.ireturn, 1) := by decide +kernel
set_option maxRecDepth 20000 in
theorem ggL_sweep_X3_sweep : GoodIn wsL_sweep wsX3_sweep := goodIn_ca (goodIn_r _ [7, 8, 9, 10, 11, 12, 13, 14, 15, 16, 17] (by decide +kernel) (by decide +kernel)) (goodIn_sub (fun _ h => List.mem_cons_of_mem _ (List.mem_append_right _ h)) (by decide +kernel))
set_option maxRecDepth 20000 in
theorem gL_sweep_X3_sweep : GoodIn wsL_sweep (wsV RL 37 RX3 yX3_sweep wsX3_sweep) := goodIn_app (goodIn_of _ (by decide +kernel)) ggL_sweep_X3_sweep
theorem dL_sweep_0 : decode cL_sweep 0 = .ok (.aload_n 0, 1) := by decide +kernel
theorem dL_sweep_1 : decode cL_sweep 1 = .ok (.invokevirtual 37, 3) := by decide +kernel
theorem dL_sweep_4 : decode cL_sweep 4 = .ok (.iconst 0, 1) := by decide +kernel
theorem dL_sweep_5 : decode cL_sweep 5 = .ok (.ireturn, 1) := by decide +kernel
theorem dL_sweep_6 : decode cL_sweep 6 = .ok (.astore_n 1, 1) := by decide +kernel
theorem dL_sweep_7 : decode cL_sweep 7 = .ok (.ldc 16, 2) := by decide +kernel
theorem dL_sweep_9 : decode cL_sweep 9 = .ok (.ireturn, 1) := by decide +kernel
set_option maxRecDepth 20000 in
theorem ggL_step_X3_step : GoodIn wsL_step wsX3_step := goodIn_ca (goodIn_ca (goodIn_r _ [8, 9, 10, 11, 12, 13, 14, 15, 7, 16, 17, 18, 19, 20, 21, 22, 23, 24, 25, 26, 27, 28, 29, 30, 31, 32, 33, 34, 35, 36, 37, 38, 39, 40, 41, 42, 43, 44, 45, 46, 47, 48, 49, 50] (by decide +kernel) (by decide +kernel)) (goodIn_sub (fun _ h => List.mem_cons_of_mem _ (List.mem_append_left _ (List.mem_append_right _ h))) (by decide +kernel))) (goodIn_sub (fun _ h => List.mem_cons_of_mem _ (List.mem_append_right _ h)) (by decide +kernel))
set_option maxRecDepth 20000 in
theorem gL_step_X3_step : GoodIn wsL_step (wsV RL 40 RX3 yX3_step wsX3_step) := goodIn_app (goodIn_of _ (by decide +kernel)) ggL_step_X3_step
theorem dL_step_0 : decode cL_step 0 = .ok (.aload_n 0, 1) := by decide +kernel
theorem dL_step_1 : decode cL_step 1 = .ok (.iload_n 1, 1) := by decide +kernel
theorem dL_step_2 : decode cL_step 2 = .ok (.invokevirtual 40, 3) := by decide +kernel
theorem dL_step_5 : decode cL_step 5 = .ok (.ireturn, 1) := by decide +kernel
theorem dL_step_6 : decode cL_step 6 = .ok (.astore_n 2, 1) := by decide +kernel
theorem dL_step_7 : decode cL_step 7 = .ok (.ldc 16, 2) := by decide +kernel
theorem dL_step_9 : decode cL_step 9 = .ok (.ireturn, 1) := by decide +kernel
theorem dL_step_10 : decode cL_step 10 = .ok (.astore_n 2, 1) := by decide +kernel
theorem dL_step_11 : decode cL_step 11 = .ok (.ldc 16, 2) := by decide +kernel
theorem dL_step_13 : decode cL_step 13 = .ok (.ireturn, 1) := by decide +kernel
set_option maxRecDepth 20000 in
theorem ggL_walk_X3_walk : GoodIn wsL_walk wsX3_walk := goodIn_ca (goodIn_r _ [7, 8, 9, 10, 11, 12, 13, 6, 14, 15, 16, 17, 18, 19, 20, 21, 22, 23, 24, 25, 26, 27, 28, 29, 30, 31, 32, 33, 34, 35, 36, 37, 38, 39, 40, 41, 42, 43, 44, 45] (by decide +kernel) (by decide +kernel)) (goodIn_sub (fun _ h => List.mem_cons_of_mem _ (List.mem_append_right _ h)) (by decide +kernel))
set_option maxRecDepth 20000 in
theorem gL_walk_X3_walk : GoodIn wsL_walk (wsV RL 43 RX3 yX3_walk wsX3_walk) := goodIn_app (goodIn_of _ (by decide +kernel)) ggL_walk_X3_walk
theorem dL_walk_0 : decode cL_walk 0 = .ok (.aload_n 0, 1) := by decide +kernel
theorem dL_walk_1 : decode cL_walk 1 = .ok (.iload_n 1, 1) := by decide +kernel
theorem dL_walk_2 : decode cL_walk 2 = .ok (.invokevirtual 43, 3) := by decide +kernel
theorem dL_walk_5 : decode cL_walk 5 = .ok (.ireturn, 1) := by decide +kernel
theorem dL_walk_6 : decode cL_walk 6 = .ok (.astore_n 2, 1) := by decide +kernel
theorem dL_walk_7 : decode cL_walk 7 = .ok (.ldc 16, 2) := by decide +kernel
theorem dL_walk_9 : decode cL_walk 9 = .ok (.ireturn, 1) := by decide +kernel
set_option maxRecDepth 20000 in
theorem ggL_number_X3_pages : GoodIn wsL_number wsX3_pages := goodIn_r _ [5, 6, 7, 8, 9, 10, 11, 12, 59, 60, 61, 62, 63, 64, 65, 66, 67] (by decide +kernel) (by decide +kernel)
set_option maxRecDepth 20000 in
theorem gL_number_X3_pages : GoodIn wsL_number (wsV RL 46 RX3 yX3_pages wsX3_pages) := goodIn_app (goodIn_of _ (by decide +kernel)) ggL_number_X3_pages
set_option maxRecDepth 20000 in
theorem ggL_number_L_low : GoodIn wsL_number wsL_low := goodIn_r _ [16, 17] (by decide +kernel) (by decide +kernel)
set_option maxRecDepth 20000 in
theorem gL_number_L_low : GoodIn wsL_number (va_wsS RL 50 yL_low wsL_low) := goodIn_app (goodIn_of _ (by decide +kernel)) ggL_number_L_low
set_option maxRecDepth 20000 in
theorem ggL_number_X3_size : GoodIn wsL_number wsX3_size := goodIn_ca (goodIn_r _ [21, 22, 23, 6, 24, 25, 26, 10, 27, 12, 28, 29, 30, 31, 32, 33, 59, 60, 61, 62, 63, 64, 65, 66, 67] (by decide +kernel) (by decide +kernel)) (goodIn_sub (fun _ h => List.mem_cons_of_mem _ (List.mem_append_right _ h)) (by decide +kernel))
set_option maxRecDepth 20000 in
theorem gL_number_X3_size : GoodIn wsL_number (wsV RL 55 RX3 yX3_size wsX3_size) := goodIn_app (goodIn_of _ (by decide +kernel)) ggL_number_X3_size
set_option maxRecDepth 20000 in
theorem ggL_number_X3_at : GoodIn wsL_number wsX3_at := goodIn_ca (goodIn_r _ [37, 22, 23, 6, 38, 24, 25, 26, 10, 27, 12, 28, 29, 30, 31, 32, 33, 39, 40, 4, 41, 42, 43, 44, 45, 46, 47, 48, 49, 50, 51, 52, 53, 54, 55, 56, 57, 58, 59, 60, 61, 62, 63, 64, 65, 66, 67, 68, 69, 70, 71, 72, 73, 74] (by decide +kernel) (by decide +kernel)) (goodIn_sub (fun _ h => List.mem_cons_of_mem _ (List.mem_append_right _ h)) (by decide +kernel))
set_option maxRecDepth 20000 in
theorem gL_number_X3_at : GoodIn wsL_number (wsV RL 58 RX3 yX3_at wsX3_at) := goodIn_app (goodIn_of _ (by decide +kernel)) ggL_number_X3_at
theorem dL_number_0 : decode cL_number 0 = .ok (.iload_n 2, 1) := by decide +kernel
theorem dL_number_1 : decode cL_number 1 = .ok (.ifCond .ne 10, 3) := by decide +kernel
theorem dL_number_4 : decode cL_number 4 = .ok (.aload_n 0, 1) := by decide +kernel
theorem dL_number_5 : decode cL_number 5 = .ok (.invokevirtual 46, 3) := by decide +kernel
theorem dL_number_8 : decode cL_number 8 = .ok (.ifCond .ne 30, 3) := by decide +kernel
theorem dL_number_11 : decode cL_number 11 = .ok (.iload_n 1, 1) := by decide +kernel
theorem dL_number_12 : decode cL_number 12 = .ok (.iload_n 2, 1) := by decide +kernel
theorem dL_number_13 : decode cL_number 13 = .ok (.ifCond .eq 9, 3) := by decide +kernel
theorem dL_number_16 : decode cL_number 16 = .ok (.sipush 1004, 3) := by decide +kernel
theorem dL_number_19 : decode cL_number 19 = .ok (.goto 5, 3) := by decide +kernel
theorem dL_number_22 : decode cL_number 22 = .ok (.bipush 60, 2) := by decide +kernel
theorem dL_number_24 : decode cL_number 24 = .ok (.invokestatic 50, 3) := by decide +kernel
theorem dL_number_27 : decode cL_number 27 = .ok (.iload_n 2, 1) := by decide +kernel
theorem dL_number_28 : decode cL_number 28 = .ok (.ifCond .eq 7, 3) := by decide +kernel
theorem dL_number_31 : decode cL_number 31 = .ok (.iconst 2, 1) := by decide +kernel
theorem dL_number_32 : decode cL_number 32 = .ok (.goto 4, 3) := by decide +kernel
theorem dL_number_35 : decode cL_number 35 = .ok (.iconst 0, 1) := by decide +kernel
theorem dL_number_36 : decode cL_number 36 = .ok (.isub, 1) := by decide +kernel
theorem dL_number_37 : decode cL_number 37 = .ok (.ireturn, 1) := by decide +kernel
theorem dL_number_38 : decode cL_number 38 = .ok (.iload_n 1, 1) := by decide +kernel
theorem dL_number_39 : decode cL_number 39 = .ok (.aload_n 0, 1) := by decide +kernel
theorem dL_number_40 : decode cL_number 40 = .ok (.invokevirtual 46, 3) := by decide +kernel
theorem dL_number_43 : decode cL_number 43 = .ok (.invokestatic 50, 3) := by decide +kernel
theorem dL_number_46 : decode cL_number 46 = .ok (.istore_n 3, 1) := by decide +kernel
theorem dL_number_47 : decode cL_number 47 = .ok (.aload_n 0, 1) := by decide +kernel
theorem dL_number_48 : decode cL_number 48 = .ok (.iload_n 3, 1) := by decide +kernel
theorem dL_number_49 : decode cL_number 49 = .ok (.iload_n 1, 1) := by decide +kernel
theorem dL_number_50 : decode cL_number 50 = .ok (.bipush 6, 2) := by decide +kernel
theorem dL_number_52 : decode cL_number 52 = .ok (.ishr, 1) := by decide +kernel
theorem dL_number_53 : decode cL_number 53 = .ok (.aload_n 0, 1) := by decide +kernel
theorem dL_number_54 : decode cL_number 54 = .ok (.iload_n 3, 1) := by decide +kernel
theorem dL_number_55 : decode cL_number 55 = .ok (.invokevirtual 55, 3) := by decide +kernel
theorem dL_number_58 : decode cL_number 58 = .ok (.invokestatic 50, 3) := by decide +kernel
theorem dL_number_61 : decode cL_number 61 = .ok (.invokevirtual 58, 3) := by decide +kernel
theorem dL_number_64 : decode cL_number 64 = .ok (.ireturn, 1) := by decide +kernel
set_option maxRecDepth 20000 in
theorem ggL_act_L_low : GoodIn wsL_act wsL_low := goodIn_r _ [4, 5] (by decide +kernel) (by decide +kernel)
set_option maxRecDepth 20000 in
theorem gL_act_L_low : GoodIn wsL_act (va_wsS RL 50 yL_low wsL_low) := goodIn_app (goodIn_of _ (by decide +kernel)) ggL_act_L_low
set_option maxRecDepth 20000 in
theorem ggL_act_L_number : GoodIn wsL_act wsL_number := goodIn_ca (goodIn_r _ [8, 9, 10, 11, 12, 13, 14, 15, 16, 17, 18, 19, 20, 1, 2, 3, 4, 5, 21, 22, 23, 24, 25, 26, 27, 28, 29, 30, 31, 32, 33, 34, 35, 36, 37, 38, 39, 40, 41, 42, 43, 44, 45, 46, 47, 48, 49, 50, 51, 52, 53, 54, 55, 56, 57, 58, 59, 60, 61, 250, 251, 252, 253, 254, 255, 256, 257, 258, 259, 260, 261, 262, 263, 264, 265] (by decide +kernel) (by decide +kernel)) (goodIn_sub (fun _ h => List.mem_cons_of_mem _ (List.mem_append_left _ (List.mem_append_left _ (List.mem_append_right _ h)))) (by decide +kernel))
set_option maxRecDepth 20000 in
theorem gL_act_L_number : GoodIn wsL_act (va_wsS RL 61 yL_number wsL_number) := goodIn_app (goodIn_of _ (by decide +kernel)) ggL_act_L_number
set_option maxRecDepth 20000 in
theorem ggL_act_L_payBack : GoodIn wsL_act wsL_payBack := goodIn_ca (goodIn_ca (goodIn_r _ [64, 65, 66, 67, 68, 69, 70, 12, 71, 72, 73, 41, 74, 75, 76, 77, 78, 79, 80, 42, 43, 44, 81, 82, 83, 53, 84, 85, 86, 87, 88, 89, 90, 91, 92, 60, 93, 51, 52, 54, 55, 56, 57, 58, 59, 61, 94, 95, 96, 97, 98, 99, 100, 101, 102, 103, 104, 14, 105, 106, 107, 108, 18, 109, 20, 49, 33, 34, 35, 31, 36, 28, 29, 30, 110, 111, 112, 113, 114, 115, 116, 117, 118, 119, 120, 121, 122, 123, 124, 125, 126, 127, 128, 129, 15, 16, 17, 19, 250, 251, 252, 253, 254, 255, 256, 259, 260, 261, 262, 263, 264, 265, 257, 258] (by decide +kernel) (by decide +kernel)) (goodIn_sub (fun _ h => List.mem_cons_of_mem _ (List.mem_append_left _ (List.mem_append_right _ h))) (by decide +kernel))) (goodIn_sub (fun _ h => List.mem_cons_of_mem _ (List.mem_append_right _ h)) (by decide +kernel))
set_option maxRecDepth 20000 in
theorem gL_act_L_payBack : GoodIn wsL_act (va_wsS RL 65 yL_payBack wsL_payBack) := goodIn_app (goodIn_of _ (by decide +kernel)) ggL_act_L_payBack
set_option maxRecDepth 20000 in
theorem ggL_act_L_forfeit : GoodIn wsL_act wsL_forfeit := goodIn_ca (goodIn_ca (goodIn_r _ [132, 65, 66, 67, 133, 134, 135, 12, 136, 72, 73, 41, 137, 138, 76, 77, 78, 79, 80, 42, 43, 44, 81, 82, 83, 53, 84, 85, 86, 87, 88, 89, 90, 91, 92, 60, 93, 51, 52, 54, 55, 56, 57, 58, 59, 61, 94, 95, 96, 97, 98, 99, 250, 251, 252, 253, 254, 255, 256, 259, 260, 261, 262, 263, 264, 265] (by decide +kernel) (by decide +kernel)) (goodIn_sub (fun _ h => List.mem_cons_of_mem _ (List.mem_append_left _ (List.mem_append_right _ h))) (by decide +kernel))) (goodIn_sub (fun _ h => List.mem_cons_of_mem _ (List.mem_append_right _ h)) (by decide +kernel))
set_option maxRecDepth 20000 in
theorem gL_act_L_forfeit : GoodIn wsL_act (va_wsS RL 68 yL_forfeit wsL_forfeit) := goodIn_app (goodIn_of _ (by decide +kernel)) ggL_act_L_forfeit
set_option maxRecDepth 20000 in
theorem ggL_act_L_undo : GoodIn wsL_act wsL_undo := goodIn_ca (goodIn_ca (goodIn_r _ [141, 65, 66, 67, 142, 143, 144, 12, 145, 72, 73, 41, 137, 138, 76, 77, 78, 79, 80, 42, 43, 44, 81, 82, 83, 53, 84, 85, 86, 87, 88, 89, 90, 91, 92, 60, 93, 51, 52, 54, 55, 56, 57, 58, 59, 61, 94, 95, 96, 97, 98, 99, 250, 251, 252, 253, 254, 255, 256, 259, 260, 261, 262, 263, 264, 265] (by decide +kernel) (by decide +kernel)) (goodIn_sub (fun _ h => List.mem_cons_of_mem _ (List.mem_append_left _ (List.mem_append_right _ h))) (by decide +kernel))) (goodIn_sub (fun _ h => List.mem_cons_of_mem _ (List.mem_append_right _ h)) (by decide +kernel))
set_option maxRecDepth 20000 in
theorem gL_act_L_undo : GoodIn wsL_act (va_wsS RL 70 yL_undo wsL_undo) := goodIn_app (goodIn_of _ (by decide +kernel)) ggL_act_L_undo
set_option maxRecDepth 20000 in
theorem ggL_act_X3_today : GoodIn wsL_act wsX3_today := goodIn_r _ [149, 137, 250, 251, 252, 253, 254, 255, 256] (by decide +kernel) (by decide +kernel)
set_option maxRecDepth 20000 in
theorem gL_act_X3_today : GoodIn wsL_act (wsV RL 72 RX3 yX3_today wsX3_today) := goodIn_app (goodIn_of _ (by decide +kernel)) ggL_act_X3_today
set_option maxRecDepth 20000 in
theorem ggL_act_L_amnesty : GoodIn wsL_act wsL_amnesty := goodIn_ca (goodIn_r _ [152, 65, 67, 153, 154, 155, 12, 156, 79, 80, 137, 41, 74, 75, 42, 43, 44, 157, 158, 159, 53, 160, 60, 161, 57, 58, 59, 61, 162, 163, 164, 97, 165, 166, 167, 168, 95, 96, 98, 99, 101, 102, 103, 104, 14, 105, 106, 107, 108, 18, 109, 20, 49, 33, 34, 35, 31, 36, 28, 29, 30, 110, 111, 112, 113, 114, 115, 116, 117, 118, 119, 120, 121, 122, 123, 124, 125, 126, 127, 128, 129, 56, 15, 16, 17, 19, 250, 251, 252, 253, 254, 255, 256, 259, 260, 261, 262, 263, 264, 265, 257, 258] (by decide +kernel) (by decide +kernel)) (goodIn_sub (fun _ h => List.mem_cons_of_mem _ (List.mem_append_right _ h)) (by decide +kernel))
set_option maxRecDepth 20000 in
theorem gL_act_L_amnesty : GoodIn wsL_act (va_wsS RL 75 yL_amnesty wsL_amnesty) := goodIn_app (goodIn_of _ (by decide +kernel)) ggL_act_L_amnesty
set_option maxRecDepth 20000 in
theorem ggL_act_L_pass : GoodIn wsL_act wsL_pass := goodIn_ca (goodIn_ca (goodIn_r _ [171, 65, 66, 67, 172, 173, 174, 12, 175, 79, 80, 72, 73, 137, 42, 43, 44, 176, 177, 178, 179, 41, 180, 75, 157, 158, 159, 53, 160, 60, 161, 57, 58, 59, 61, 181, 182, 183, 97, 184, 99, 168, 95, 96, 98, 101, 102, 103, 104, 14, 105, 106, 107, 108, 18, 109, 20, 49, 33, 34, 35, 31, 36, 28, 29, 30, 110, 111, 112, 113, 114, 115, 116, 117, 118, 119, 120, 121, 122, 123, 124, 125, 126, 127, 128, 129, 56, 15, 16, 17, 19, 250, 251, 252, 253, 254, 255, 256, 259, 260, 261, 262, 263, 264, 265, 257, 258] (by decide +kernel) (by decide +kernel)) (goodIn_sub (fun _ h => List.mem_cons_of_mem _ (List.mem_append_right _ h)) (by decide +kernel))) (goodIn_sub (fun _ h => List.mem_cons_of_mem _ (List.mem_append_left _ (List.mem_append_right _ h))) (by decide +kernel))
set_option maxRecDepth 20000 in
theorem gL_act_L_pass : GoodIn wsL_act (va_wsS RL 78 yL_pass wsL_pass) := goodIn_app (goodIn_of _ (by decide +kernel)) ggL_act_L_pass
set_option maxRecDepth 20000 in
theorem ggL_act_L_sweep : GoodIn wsL_act wsL_sweep := goodIn_ca (goodIn_r _ [187, 66, 67, 188, 189, 190, 12, 191, 72, 73, 105, 250, 251, 252, 253, 254, 255, 256] (by decide +kernel) (by decide +kernel)) (goodIn_sub (fun _ h => List.mem_cons_of_mem _ (List.mem_append_left _ (List.mem_append_right _ h))) (by decide +kernel))
set_option maxRecDepth 20000 in
theorem gL_act_L_sweep : GoodIn wsL_act (va_wsS RL 80 yL_sweep wsL_sweep) := goodIn_app (goodIn_of _ (by decide +kernel)) ggL_act_L_sweep
set_option maxRecDepth 20000 in
theorem ggL_act_L_step : GoodIn wsL_act wsL_step := goodIn_ca (goodIn_ca (goodIn_r _ [194, 65, 66, 67, 195, 196, 197, 12, 198, 79, 80, 72, 73, 105, 42, 43, 44, 199, 200, 201, 202, 14, 27, 28, 29, 18, 30, 20, 31, 32, 33, 34, 35, 36, 203, 123, 124, 125, 114, 115, 116, 117, 250, 251, 252, 253, 254, 255, 256, 257, 258] (by decide +kernel) (by decide +kernel)) (goodIn_sub (fun _ h => List.mem_cons_of_mem _ (List.mem_append_right _ h)) (by decide +kernel))) (goodIn_sub (fun _ h => List.mem_cons_of_mem _ (List.mem_append_left _ (List.mem_append_right _ h))) (by decide +kernel))
set_option maxRecDepth 20000 in
theorem gL_act_L_step : GoodIn wsL_act (va_wsS RL 83 yL_step wsL_step) := goodIn_app (goodIn_of _ (by decide +kernel)) ggL_act_L_step
set_option maxRecDepth 20000 in
theorem ggL_act_L_walk : GoodIn wsL_act wsL_walk := goodIn_ca (goodIn_r _ [206, 65, 67, 207, 208, 209, 12, 210, 79, 80, 211, 41, 42, 43, 44, 212, 90, 91, 53, 92, 60, 93, 51, 52, 54, 55, 56, 57, 58, 59, 61, 50, 250, 251, 252, 253, 254, 255, 256, 264, 265, 259, 260, 261, 262, 263] (by decide +kernel) (by decide +kernel)) (goodIn_sub (fun _ h => List.mem_cons_of_mem _ (List.mem_append_right _ h)) (by decide +kernel))
set_option maxRecDepth 20000 in
theorem gL_act_L_walk : GoodIn wsL_act (va_wsS RL 85 yL_walk wsL_walk) := goodIn_app (goodIn_of _ (by decide +kernel)) ggL_act_L_walk
set_option maxRecDepth 20000 in
theorem ggL_act_L_put : GoodIn wsL_act wsL_put := goodIn_ca (goodIn_ca (goodIn_r _ [215, 65, 66, 67, 216, 217, 218, 12, 219, 79, 80, 72, 73, 41, 14, 220, 221, 97, 137, 76, 77, 78, 42, 43, 44, 81, 82, 83, 53, 84, 85, 86, 87, 88, 89, 90, 91, 92, 60, 93, 51, 52, 54, 55, 56, 57, 58, 59, 61, 157, 158, 159, 160, 212, 222, 223, 224, 225, 226, 227, 228, 229, 106, 107, 108, 18, 109, 20, 49, 33, 34, 35, 31, 36, 28, 29, 30, 32, 230, 231, 232, 233, 234, 235, 236, 237, 238, 239, 240, 241, 242, 243, 244, 166, 245, 167, 99, 246, 247, 248, 249, 15, 16, 17, 19, 250, 251, 252, 253, 254, 255, 256, 259, 260, 261, 262, 263, 264, 265, 257, 258] (by decide +kernel) (by decide +kernel)) (goodIn_sub (fun _ h => List.mem_cons_of_mem _ (List.mem_append_right _ h)) (by decide +kernel))) (goodIn_sub (fun _ h => List.mem_cons_of_mem _ (List.mem_append_left _ (List.mem_append_right _ h))) (by decide +kernel))
set_option maxRecDepth 20000 in
theorem gL_act_L_put : GoodIn wsL_act (va_wsS RL 87 yL_put wsL_put) := goodIn_app (goodIn_of _ (by decide +kernel)) ggL_act_L_put
theorem dL_act_0 : decode cL_act 0 = .ok (.iload_n 1, 1) := by decide +kernel
theorem dL_act_1 : decode cL_act 1 = .ok (.bipush 24, 2) := by decide +kernel
theorem dL_act_3 : decode cL_act 3 = .ok (.ishr, 1) := by decide +kernel
theorem dL_act_4 : decode cL_act 4 = .ok (.bipush 9, 2) := by decide +kernel
theorem dL_act_6 : decode cL_act 6 = .ok (.invokestatic 50, 3) := by decide +kernel
theorem dL_act_9 : decode cL_act 9 = .ok (.ifCond .ne 7, 3) := by decide +kernel
theorem dL_act_12 : decode cL_act 12 = .ok (.iconst 1, 1) := by decide +kernel
theorem dL_act_13 : decode cL_act 13 = .ok (.goto 4, 3) := by decide +kernel
theorem dL_act_16 : decode cL_act 16 = .ok (.iconst 0, 1) := by decide +kernel
theorem dL_act_17 : decode cL_act 17 = .ok (.istore_n 2, 1) := by decide +kernel
theorem dL_act_18 : decode cL_act 18 = .ok (.iload_n 1, 1) := by decide +kernel
theorem dL_act_19 : decode cL_act 19 = .ok (.bipush 22, 2) := by decide +kernel
theorem dL_act_21 : decode cL_act 21 = .ok (.invokestatic 50, 3) := by decide +kernel
theorem dL_act_24 : decode cL_act 24 = .ok (.tableswitch 287 0 13 #[72, 72, 72, 72, 72, 85, 85, 98, 111, 194, 224, 229, 229, 258], 72) := by decide +kernel
theorem dL_act_96 : decode cL_act 96 = .ok (.aload_n 0, 1) := by decide +kernel
theorem dL_act_97 : decode cL_act 97 = .ok (.aload_n 0, 1) := by decide +kernel
theorem dL_act_98 : decode cL_act 98 = .ok (.iload_n 1, 1) := by decide +kernel
theorem dL_act_99 : decode cL_act 99 = .ok (.iconst 4, 1) := by decide +kernel
theorem dL_act_100 : decode cL_act 100 = .ok (.ishr, 1) := by decide +kernel
theorem dL_act_101 : decode cL_act 101 = .ok (.iload_n 2, 1) := by decide +kernel
theorem dL_act_102 : decode cL_act 102 = .ok (.invokestatic 61, 3) := by decide +kernel
theorem dL_act_105 : decode cL_act 105 = .ok (.invokestatic 65, 3) := by decide +kernel
theorem dL_act_108 : decode cL_act 108 = .ok (.ireturn, 1) := by decide +kernel
theorem dL_act_109 : decode cL_act 109 = .ok (.aload_n 0, 1) := by decide +kernel
theorem dL_act_110 : decode cL_act 110 = .ok (.aload_n 0, 1) := by decide +kernel
theorem dL_act_111 : decode cL_act 111 = .ok (.iload_n 1, 1) := by decide +kernel
theorem dL_act_112 : decode cL_act 112 = .ok (.iconst 4, 1) := by decide +kernel
theorem dL_act_113 : decode cL_act 113 = .ok (.ishr, 1) := by decide +kernel
theorem dL_act_114 : decode cL_act 114 = .ok (.iload_n 2, 1) := by decide +kernel
theorem dL_act_115 : decode cL_act 115 = .ok (.invokestatic 61, 3) := by decide +kernel
theorem dL_act_118 : decode cL_act 118 = .ok (.invokestatic 68, 3) := by decide +kernel
theorem dL_act_121 : decode cL_act 121 = .ok (.ireturn, 1) := by decide +kernel
theorem dL_act_122 : decode cL_act 122 = .ok (.aload_n 0, 1) := by decide +kernel
theorem dL_act_123 : decode cL_act 123 = .ok (.aload_n 0, 1) := by decide +kernel
theorem dL_act_124 : decode cL_act 124 = .ok (.iload_n 1, 1) := by decide +kernel
theorem dL_act_125 : decode cL_act 125 = .ok (.iconst 4, 1) := by decide +kernel
theorem dL_act_126 : decode cL_act 126 = .ok (.ishr, 1) := by decide +kernel
theorem dL_act_127 : decode cL_act 127 = .ok (.iload_n 2, 1) := by decide +kernel
theorem dL_act_128 : decode cL_act 128 = .ok (.invokestatic 61, 3) := by decide +kernel
theorem dL_act_131 : decode cL_act 131 = .ok (.invokestatic 70, 3) := by decide +kernel
theorem dL_act_134 : decode cL_act 134 = .ok (.ireturn, 1) := by decide +kernel
theorem dL_act_135 : decode cL_act 135 = .ok (.iload_n 1, 1) := by decide +kernel
theorem dL_act_136 : decode cL_act 136 = .ok (.bipush 12, 2) := by decide +kernel
theorem dL_act_138 : decode cL_act 138 = .ok (.ishr, 1) := by decide +kernel
theorem dL_act_139 : decode cL_act 139 = .ok (.iconst 3, 1) := by decide +kernel
theorem dL_act_140 : decode cL_act 140 = .ok (.invokestatic 50, 3) := by decide +kernel
theorem dL_act_143 : decode cL_act 143 = .ok (.ifCond .le 18, 3) := by decide +kernel
theorem dL_act_146 : decode cL_act 146 = .ok (.aload_n 0, 1) := by decide +kernel
theorem dL_act_147 : decode cL_act 147 = .ok (.aload_n 0, 1) := by decide +kernel
theorem dL_act_148 : decode cL_act 148 = .ok (.iload_n 1, 1) := by decide +kernel
theorem dL_act_149 : decode cL_act 149 = .ok (.iconst 4, 1) := by decide +kernel
theorem dL_act_150 : decode cL_act 150 = .ok (.ishr, 1) := by decide +kernel
theorem dL_act_151 : decode cL_act 151 = .ok (.iconst 0, 1) := by decide +kernel
theorem dL_act_152 : decode cL_act 152 = .ok (.invokestatic 61, 3) := by decide +kernel
theorem dL_act_155 : decode cL_act 155 = .ok (.invokestatic 70, 3) := by decide +kernel
theorem dL_act_158 : decode cL_act 158 = .ok (.goto 59, 3) := by decide +kernel
theorem dL_act_161 : decode cL_act 161 = .ok (.aload_n 0, 1) := by decide +kernel
theorem dL_act_162 : decode cL_act 162 = .ok (.iload_n 2, 1) := by decide +kernel
theorem dL_act_163 : decode cL_act 163 = .ok (.ifCond .eq 17, 3) := by decide +kernel
theorem dL_act_166 : decode cL_act 166 = .ok (.iload_n 1, 1) := by decide +kernel
theorem dL_act_167 : decode cL_act 167 = .ok (.iconst 4, 1) := by decide +kernel
theorem dL_act_168 : decode cL_act 168 = .ok (.ishr, 1) := by decide +kernel
theorem dL_act_169 : decode cL_act 169 = .ok (.sipush 10003, 3) := by decide +kernel
theorem dL_act_172 : decode cL_act 172 = .ok (.invokestatic 50, 3) := by decide +kernel
theorem dL_act_175 : decode cL_act 175 = .ok (.iconst 1, 1) := by decide +kernel
theorem dL_act_176 : decode cL_act 176 = .ok (.isub, 1) := by decide +kernel
theorem dL_act_177 : decode cL_act 177 = .ok (.goto 13, 3) := by decide +kernel
theorem dL_act_180 : decode cL_act 180 = .ok (.iconst 1, 1) := by decide +kernel
theorem dL_act_181 : decode cL_act 181 = .ok (.iload_n 1, 1) := by decide +kernel
theorem dL_act_182 : decode cL_act 182 = .ok (.iconst 4, 1) := by decide +kernel
theorem dL_act_183 : decode cL_act 183 = .ok (.ishr, 1) := by decide +kernel
theorem dL_act_184 : decode cL_act 184 = .ok (.bipush 60, 2) := by decide +kernel
theorem dL_act_186 : decode cL_act 186 = .ok (.invokestatic 50, 3) := by decide +kernel
theorem dL_act_189 : decode cL_act 189 = .ok (.iadd, 1) := by decide +kernel
theorem dL_act_190 : decode cL_act 190 = .ok (.aload_n 0, 1) := by decide +kernel
theorem dL_act_191 : decode cL_act 191 = .ok (.invokevirtual 72, 3) := by decide +kernel
theorem dL_act_194 : decode cL_act 194 = .ok (.iload_n 1, 1) := by decide +kernel
theorem dL_act_195 : decode cL_act 195 = .ok (.bipush 10, 2) := by decide +kernel
theorem dL_act_197 : decode cL_act 197 = .ok (.ishr, 1) := by decide +kernel
theorem dL_act_198 : decode cL_act 198 = .ok (.bipush 9, 2) := by decide +kernel
theorem dL_act_200 : decode cL_act 200 = .ok (.invokestatic 50, 3) := by decide +kernel
theorem dL_act_203 : decode cL_act 203 = .ok (.isub, 1) := by decide +kernel
theorem dL_act_204 : decode cL_act 204 = .ok (.iload_n 2, 1) := by decide +kernel
theorem dL_act_205 : decode cL_act 205 = .ok (.ifCond .eq 7, 3) := by decide +kernel
theorem dL_act_208 : decode cL_act 208 = .ok (.iconst 2, 1) := by decide +kernel
theorem dL_act_209 : decode cL_act 209 = .ok (.goto 4, 3) := by decide +kernel
theorem dL_act_212 : decode cL_act 212 = .ok (.iconst 0, 1) := by decide +kernel
theorem dL_act_213 : decode cL_act 213 = .ok (.iadd, 1) := by decide +kernel
theorem dL_act_214 : decode cL_act 214 = .ok (.invokestatic 75, 3) := by decide +kernel
theorem dL_act_217 : decode cL_act 217 = .ok (.ireturn, 1) := by decide +kernel
theorem dL_act_218 : decode cL_act 218 = .ok (.aload_n 0, 1) := by decide +kernel
theorem dL_act_219 : decode cL_act 219 = .ok (.iload_n 2, 1) := by decide +kernel
theorem dL_act_220 : decode cL_act 220 = .ok (.ifCond .eq 14, 3) := by decide +kernel
theorem dL_act_223 : decode cL_act 223 = .ok (.iload_n 1, 1) := by decide +kernel
theorem dL_act_224 : decode cL_act 224 = .ok (.iconst 4, 1) := by decide +kernel
theorem dL_act_225 : decode cL_act 225 = .ok (.ishr, 1) := by decide +kernel
theorem dL_act_226 : decode cL_act 226 = .ok (.bipush 103, 2) := by decide +kernel
theorem dL_act_228 : decode cL_act 228 = .ok (.invokestatic 50, 3) := by decide +kernel
theorem dL_act_231 : decode cL_act 231 = .ok (.goto 13, 3) := by decide +kernel
theorem dL_act_234 : decode cL_act 234 = .ok (.iconst 1, 1) := by decide +kernel
theorem dL_act_235 : decode cL_act 235 = .ok (.iload_n 1, 1) := by decide +kernel
theorem dL_act_236 : decode cL_act 236 = .ok (.iconst 4, 1) := by decide +kernel
theorem dL_act_237 : decode cL_act 237 = .ok (.ishr, 1) := by decide +kernel
theorem dL_act_238 : decode cL_act 238 = .ok (.bipush 6, 2) := by decide +kernel
theorem dL_act_240 : decode cL_act 240 = .ok (.invokestatic 50, 3) := by decide +kernel
theorem dL_act_243 : decode cL_act 243 = .ok (.iadd, 1) := by decide +kernel
theorem dL_act_244 : decode cL_act 244 = .ok (.invokestatic 78, 3) := by decide +kernel
theorem dL_act_247 : decode cL_act 247 = .ok (.ireturn, 1) := by decide +kernel
theorem dL_act_248 : decode cL_act 248 = .ok (.aload_n 0, 1) := by decide +kernel
theorem dL_act_249 : decode cL_act 249 = .ok (.invokestatic 80, 3) := by decide +kernel
theorem dL_act_252 : decode cL_act 252 = .ok (.ireturn, 1) := by decide +kernel
theorem dL_act_253 : decode cL_act 253 = .ok (.aload_n 0, 1) := by decide +kernel
theorem dL_act_254 : decode cL_act 254 = .ok (.iload_n 2, 1) := by decide +kernel
theorem dL_act_255 : decode cL_act 255 = .ok (.ifCond .eq 14, 3) := by decide +kernel
theorem dL_act_258 : decode cL_act 258 = .ok (.iload_n 1, 1) := by decide +kernel
theorem dL_act_259 : decode cL_act 259 = .ok (.iconst 4, 1) := by decide +kernel
theorem dL_act_260 : decode cL_act 260 = .ok (.ishr, 1) := by decide +kernel
theorem dL_act_261 : decode cL_act 261 = .ok (.bipush 103, 2) := by decide +kernel
theorem dL_act_263 : decode cL_act 263 = .ok (.invokestatic 50, 3) := by decide +kernel
theorem dL_act_266 : decode cL_act 266 = .ok (.goto 12, 3) := by decide +kernel
theorem dL_act_269 : decode cL_act 269 = .ok (.iconst 1, 1) := by decide +kernel
theorem dL_act_270 : decode cL_act 270 = .ok (.iload_n 1, 1) := by decide +kernel
theorem dL_act_271 : decode cL_act 271 = .ok (.iconst 4, 1) := by decide +kernel
theorem dL_act_272 : decode cL_act 272 = .ok (.ishr, 1) := by decide +kernel
theorem dL_act_273 : decode cL_act 273 = .ok (.iconst 4, 1) := by decide +kernel
theorem dL_act_274 : decode cL_act 274 = .ok (.invokestatic 50, 3) := by decide +kernel
theorem dL_act_277 : decode cL_act 277 = .ok (.iadd, 1) := by decide +kernel
theorem dL_act_278 : decode cL_act 278 = .ok (.invokestatic 83, 3) := by decide +kernel
theorem dL_act_281 : decode cL_act 281 = .ok (.ireturn, 1) := by decide +kernel
theorem dL_act_282 : decode cL_act 282 = .ok (.aload_n 0, 1) := by decide +kernel
theorem dL_act_283 : decode cL_act 283 = .ok (.iload_n 2, 1) := by decide +kernel
theorem dL_act_284 : decode cL_act 284 = .ok (.ifCond .eq 16, 3) := by decide +kernel
theorem dL_act_287 : decode cL_act 287 = .ok (.iload_n 1, 1) := by decide +kernel
theorem dL_act_288 : decode cL_act 288 = .ok (.iconst 4, 1) := by decide +kernel
theorem dL_act_289 : decode cL_act 289 = .ok (.ishr, 1) := by decide +kernel
theorem dL_act_290 : decode cL_act 290 = .ok (.bipush 6, 2) := by decide +kernel
theorem dL_act_292 : decode cL_act 292 = .ok (.invokestatic 50, 3) := by decide +kernel
theorem dL_act_295 : decode cL_act 295 = .ok (.iconst 1, 1) := by decide +kernel
theorem dL_act_296 : decode cL_act 296 = .ok (.isub, 1) := by decide +kernel
theorem dL_act_297 : decode cL_act 297 = .ok (.goto 10, 3) := by decide +kernel
theorem dL_act_300 : decode cL_act 300 = .ok (.iload_n 1, 1) := by decide +kernel
theorem dL_act_301 : decode cL_act 301 = .ok (.iconst 4, 1) := by decide +kernel
theorem dL_act_302 : decode cL_act 302 = .ok (.ishr, 1) := by decide +kernel
theorem dL_act_303 : decode cL_act 303 = .ok (.iconst 4, 1) := by decide +kernel
theorem dL_act_304 : decode cL_act 304 = .ok (.invokestatic 50, 3) := by decide +kernel
theorem dL_act_307 : decode cL_act 307 = .ok (.invokestatic 85, 3) := by decide +kernel
theorem dL_act_310 : decode cL_act 310 = .ok (.ireturn, 1) := by decide +kernel
theorem dL_act_311 : decode cL_act 311 = .ok (.aload_n 0, 1) := by decide +kernel
theorem dL_act_312 : decode cL_act 312 = .ok (.iload_n 2, 1) := by decide +kernel
theorem dL_act_313 : decode cL_act 313 = .ok (.ifCond .eq 17, 3) := by decide +kernel
theorem dL_act_316 : decode cL_act 316 = .ok (.iload_n 1, 1) := by decide +kernel
theorem dL_act_317 : decode cL_act 317 = .ok (.iconst 4, 1) := by decide +kernel
theorem dL_act_318 : decode cL_act 318 = .ok (.ishr, 1) := by decide +kernel
theorem dL_act_319 : decode cL_act 319 = .ok (.sipush 1004, 3) := by decide +kernel
theorem dL_act_322 : decode cL_act 322 = .ok (.invokestatic 50, 3) := by decide +kernel
theorem dL_act_325 : decode cL_act 325 = .ok (.iconst 2, 1) := by decide +kernel
theorem dL_act_326 : decode cL_act 326 = .ok (.isub, 1) := by decide +kernel
theorem dL_act_327 : decode cL_act 327 = .ok (.goto 11, 3) := by decide +kernel
theorem dL_act_330 : decode cL_act 330 = .ok (.iload_n 1, 1) := by decide +kernel
theorem dL_act_331 : decode cL_act 331 = .ok (.iconst 4, 1) := by decide +kernel
theorem dL_act_332 : decode cL_act 332 = .ok (.ishr, 1) := by decide +kernel
theorem dL_act_333 : decode cL_act 333 = .ok (.bipush 60, 2) := by decide +kernel
theorem dL_act_335 : decode cL_act 335 = .ok (.invokestatic 50, 3) := by decide +kernel
theorem dL_act_338 : decode cL_act 338 = .ok (.iload_n 2, 1) := by decide +kernel
theorem dL_act_339 : decode cL_act 339 = .ok (.ifCond .eq 18, 3) := by decide +kernel
theorem dL_act_342 : decode cL_act 342 = .ok (.iload_n 1, 1) := by decide +kernel
theorem dL_act_343 : decode cL_act 343 = .ok (.bipush 7, 2) := by decide +kernel
theorem dL_act_345 : decode cL_act 345 = .ok (.ishr, 1) := by decide +kernel
theorem dL_act_346 : decode cL_act 346 = .ok (.sipush 10004, 3) := by decide +kernel
theorem dL_act_349 : decode cL_act 349 = .ok (.invokestatic 50, 3) := by decide +kernel
theorem dL_act_352 : decode cL_act 352 = .ok (.iconst 1, 1) := by decide +kernel
theorem dL_act_353 : decode cL_act 353 = .ok (.isub, 1) := by decide +kernel
theorem dL_act_354 : decode cL_act 354 = .ok (.goto 14, 3) := by decide +kernel
theorem dL_act_357 : decode cL_act 357 = .ok (.iconst 1, 1) := by decide +kernel
theorem dL_act_358 : decode cL_act 358 = .ok (.iload_n 1, 1) := by decide +kernel
theorem dL_act_359 : decode cL_act 359 = .ok (.bipush 9, 2) := by decide +kernel
theorem dL_act_361 : decode cL_act 361 = .ok (.ishr, 1) := by decide +kernel
theorem dL_act_362 : decode cL_act 362 = .ok (.bipush 90, 2) := by decide +kernel
theorem dL_act_364 : decode cL_act 364 = .ok (.invokestatic 50, 3) := by decide +kernel
theorem dL_act_367 : decode cL_act 367 = .ok (.iadd, 1) := by decide +kernel
theorem dL_act_368 : decode cL_act 368 = .ok (.iload_n 2, 1) := by decide +kernel
theorem dL_act_369 : decode cL_act 369 = .ok (.ifCond .eq 16, 3) := by decide +kernel
theorem dL_act_372 : decode cL_act 372 = .ok (.iload_n 1, 1) := by decide +kernel
theorem dL_act_373 : decode cL_act 373 = .ok (.iconst 4, 1) := by decide +kernel
theorem dL_act_374 : decode cL_act 374 = .ok (.ishr, 1) := by decide +kernel
theorem dL_act_375 : decode cL_act 375 = .ok (.bipush 12, 2) := by decide +kernel
theorem dL_act_377 : decode cL_act 377 = .ok (.invokestatic 50, 3) := by decide +kernel
theorem dL_act_380 : decode cL_act 380 = .ok (.iconst 1, 1) := by decide +kernel
theorem dL_act_381 : decode cL_act 381 = .ok (.isub, 1) := by decide +kernel
theorem dL_act_382 : decode cL_act 382 = .ok (.goto 12, 3) := by decide +kernel
theorem dL_act_385 : decode cL_act 385 = .ok (.iload_n 1, 1) := by decide +kernel
theorem dL_act_386 : decode cL_act 386 = .ok (.bipush 11, 2) := by decide +kernel
theorem dL_act_388 : decode cL_act 388 = .ok (.ishr, 1) := by decide +kernel
theorem dL_act_389 : decode cL_act 389 = .ok (.bipush 10, 2) := by decide +kernel
theorem dL_act_391 : decode cL_act 391 = .ok (.invokestatic 50, 3) := by decide +kernel
theorem dL_act_394 : decode cL_act 394 = .ok (.invokestatic 87, 3) := by decide +kernel
theorem dL_act_397 : decode cL_act 397 = .ok (.ireturn, 1) := by decide +kernel
set_option maxRecDepth 20000 in
theorem ggL_areAlike_X3_records : GoodIn wsL_areAlike wsX3_records := goodIn_r _ [5, 6, 7, 8, 9, 10, 11, 12, 82, 83, 84, 85, 86, 87, 88, 89, 90] (by decide +kernel) (by decide +kernel)
set_option maxRecDepth 20000 in
theorem gL_areAlike_X3_records : GoodIn wsL_areAlike (wsV RL 90 RX3 yX3_records wsX3_records) := goodIn_app (goodIn_of _ (by decide +kernel)) ggL_areAlike_X3_records
set_option maxRecDepth 20000 in
theorem ggL_areAlike_X3_pages : GoodIn wsL_areAlike wsX3_pages := goodIn_r _ [16, 17, 18, 19, 20, 21, 22, 23, 82, 83, 84, 85, 86, 87, 88, 91, 92] (by decide +kernel) (by decide +kernel)
set_option maxRecDepth 20000 in
theorem gL_areAlike_X3_pages : GoodIn wsL_areAlike (wsV RL 46 RX3 yX3_pages wsX3_pages) := goodIn_app (goodIn_of _ (by decide +kernel)) ggL_areAlike_X3_pages
set_option maxRecDepth 20000 in
theorem ggL_areAlike_X3_kept : GoodIn wsL_areAlike wsX3_kept := goodIn_r _ [27, 28, 82, 83, 84, 85, 86, 87, 88] (by decide +kernel) (by decide +kernel)
set_option maxRecDepth 20000 in
theorem gL_areAlike_X3_kept : GoodIn wsL_areAlike (wsV RL 93 RX3 yX3_kept wsX3_kept) := goodIn_app (goodIn_of _ (by decide +kernel)) ggL_areAlike_X3_kept
set_option maxRecDepth 20000 in
theorem ggL_areAlike_X3_paidBack : GoodIn wsL_areAlike wsX3_paidBack := goodIn_r _ [32, 33, 82, 83, 84, 85, 86, 87, 88] (by decide +kernel) (by decide +kernel)
set_option maxRecDepth 20000 in
theorem gL_areAlike_X3_paidBack : GoodIn wsL_areAlike (wsV RL 96 RX3 yX3_paidBack wsX3_paidBack) := goodIn_app (goodIn_of _ (by decide +kernel)) ggL_areAlike_X3_paidBack
set_option maxRecDepth 20000 in
theorem ggL_areAlike_X3_today : GoodIn wsL_areAlike wsX3_today := goodIn_r _ [37, 38, 82, 83, 84, 85, 86, 87, 88] (by decide +kernel) (by decide +kernel)
set_option maxRecDepth 20000 in
theorem gL_areAlike_X3_today : GoodIn wsL_areAlike (wsV RL 72 RX3 yX3_today wsX3_today) := goodIn_app (goodIn_of _ (by decide +kernel)) ggL_areAlike_X3_today
set_option maxRecDepth 20000 in
theorem ggL_areAlike_X3_sweeping : GoodIn wsL_areAlike wsX3_sweeping := goodIn_r _ [42, 43, 82, 83, 84, 85, 86, 87, 88] (by decide +kernel) (by decide +kernel)
set_option maxRecDepth 20000 in
theorem gL_areAlike_X3_sweeping : GoodIn wsL_areAlike (wsV RL 99 RX3 yX3_sweeping wsX3_sweeping) := goodIn_app (goodIn_of _ (by decide +kernel)) ggL_areAlike_X3_sweeping
set_option maxRecDepth 20000 in
theorem ggL_areAlike_X3_size : GoodIn wsL_areAlike wsX3_size := goodIn_ca (goodIn_r _ [47, 48, 49, 17, 50, 51, 52, 21, 53, 23, 54, 55, 56, 57, 58, 59, 82, 83, 84, 85, 86, 87, 88, 91, 92] (by decide +kernel) (by decide +kernel)) (goodIn_sub (fun _ h => List.mem_cons_of_mem _ (List.mem_append_right _ h)) (by decide +kernel))
set_option maxRecDepth 20000 in
theorem gL_areAlike_X3_size : GoodIn wsL_areAlike (wsV RL 55 RX3 yX3_size wsX3_size) := goodIn_app (goodIn_of _ (by decide +kernel)) ggL_areAlike_X3_size
set_option maxRecDepth 20000 in
theorem ggL_areAlike_X3_at : GoodIn wsL_areAlike wsX3_at := goodIn_ca (goodIn_r _ [63, 48, 49, 17, 6, 50, 51, 52, 21, 53, 23, 54, 55, 56, 57, 58, 59, 64, 65, 4, 66, 67, 68, 69, 70, 71, 72, 73, 74, 10, 75, 76, 77, 78, 79, 80, 12, 81, 82, 83, 84, 85, 86, 87, 88, 91, 92, 93, 94, 95, 96, 97, 89, 90] (by decide +kernel) (by decide +kernel)) (goodIn_sub (fun _ h => List.mem_cons_of_mem _ (List.mem_append_right _ h)) (by decide +kernel))
set_option maxRecDepth 20000 in
theorem gL_areAlike_X3_at : GoodIn wsL_areAlike (wsV RL 58 RX3 yX3_at wsX3_at) := goodIn_app (goodIn_of _ (by decide +kernel)) ggL_areAlike_X3_at
theorem dL_areAlike_0 : decode cL_areAlike 0 = .ok (.aload_n 0, 1) := by decide +kernel
theorem dL_areAlike_1 : decode cL_areAlike 1 = .ok (.invokevirtual 90, 3) := by decide +kernel
theorem dL_areAlike_4 : decode cL_areAlike 4 = .ok (.aload_n 1, 1) := by decide +kernel
theorem dL_areAlike_5 : decode cL_areAlike 5 = .ok (.invokevirtual 90, 3) := by decide +kernel
theorem dL_areAlike_8 : decode cL_areAlike 8 = .ok (.if_icmp .ne 62, 3) := by decide +kernel
theorem dL_areAlike_11 : decode cL_areAlike 11 = .ok (.aload_n 0, 1) := by decide +kernel
theorem dL_areAlike_12 : decode cL_areAlike 12 = .ok (.invokevirtual 46, 3) := by decide +kernel
theorem dL_areAlike_15 : decode cL_areAlike 15 = .ok (.aload_n 1, 1) := by decide +kernel
theorem dL_areAlike_16 : decode cL_areAlike 16 = .ok (.invokevirtual 46, 3) := by decide +kernel
theorem dL_areAlike_19 : decode cL_areAlike 19 = .ok (.if_icmp .ne 51, 3) := by decide +kernel
theorem dL_areAlike_22 : decode cL_areAlike 22 = .ok (.aload_n 0, 1) := by decide +kernel
theorem dL_areAlike_23 : decode cL_areAlike 23 = .ok (.invokevirtual 93, 3) := by decide +kernel
theorem dL_areAlike_26 : decode cL_areAlike 26 = .ok (.aload_n 1, 1) := by decide +kernel
theorem dL_areAlike_27 : decode cL_areAlike 27 = .ok (.invokevirtual 93, 3) := by decide +kernel
theorem dL_areAlike_30 : decode cL_areAlike 30 = .ok (.if_icmp .ne 40, 3) := by decide +kernel
theorem dL_areAlike_33 : decode cL_areAlike 33 = .ok (.aload_n 0, 1) := by decide +kernel
theorem dL_areAlike_34 : decode cL_areAlike 34 = .ok (.invokevirtual 96, 3) := by decide +kernel
theorem dL_areAlike_37 : decode cL_areAlike 37 = .ok (.aload_n 1, 1) := by decide +kernel
theorem dL_areAlike_38 : decode cL_areAlike 38 = .ok (.invokevirtual 96, 3) := by decide +kernel
theorem dL_areAlike_41 : decode cL_areAlike 41 = .ok (.if_icmp .ne 29, 3) := by decide +kernel
theorem dL_areAlike_44 : decode cL_areAlike 44 = .ok (.aload_n 0, 1) := by decide +kernel
theorem dL_areAlike_45 : decode cL_areAlike 45 = .ok (.invokevirtual 72, 3) := by decide +kernel
theorem dL_areAlike_48 : decode cL_areAlike 48 = .ok (.aload_n 1, 1) := by decide +kernel
theorem dL_areAlike_49 : decode cL_areAlike 49 = .ok (.invokevirtual 72, 3) := by decide +kernel
theorem dL_areAlike_52 : decode cL_areAlike 52 = .ok (.if_icmp .ne 18, 3) := by decide +kernel
theorem dL_areAlike_55 : decode cL_areAlike 55 = .ok (.aload_n 0, 1) := by decide +kernel
theorem dL_areAlike_56 : decode cL_areAlike 56 = .ok (.invokevirtual 99, 3) := by decide +kernel
theorem dL_areAlike_59 : decode cL_areAlike 59 = .ok (.aload_n 1, 1) := by decide +kernel
theorem dL_areAlike_60 : decode cL_areAlike 60 = .ok (.invokevirtual 99, 3) := by decide +kernel
theorem dL_areAlike_63 : decode cL_areAlike 63 = .ok (.if_icmp .ne 7, 3) := by decide +kernel
theorem dL_areAlike_66 : decode cL_areAlike 66 = .ok (.iconst 1, 1) := by decide +kernel
theorem dL_areAlike_67 : decode cL_areAlike 67 = .ok (.goto 4, 3) := by decide +kernel
theorem dL_areAlike_70 : decode cL_areAlike 70 = .ok (.iconst 0, 1) := by decide +kernel
theorem dL_areAlike_71 : decode cL_areAlike 71 = .ok (.istore_n 2, 1) := by decide +kernel
theorem dL_areAlike_72 : decode cL_areAlike 72 = .ok (.iconst 0, 1) := by decide +kernel
theorem dL_areAlike_73 : decode cL_areAlike 73 = .ok (.istore_n 3, 1) := by decide +kernel
theorem dL_areAlike_74 : decode cL_areAlike 74 = .ok (.iload_n 3, 1) := by decide +kernel
theorem dL_areAlike_75 : decode cL_areAlike 75 = .ok (.aload_n 0, 1) := by decide +kernel
theorem dL_areAlike_76 : decode cL_areAlike 76 = .ok (.invokevirtual 46, 3) := by decide +kernel
theorem dL_areAlike_79 : decode cL_areAlike 79 = .ok (.if_icmp .ge 47, 3) := by decide +kernel
theorem dL_areAlike_82 : decode cL_areAlike 82 = .ok (.iload_n 2, 1) := by decide +kernel
theorem dL_areAlike_83 : decode cL_areAlike 83 = .ok (.ifCond .eq 43, 3) := by decide +kernel
theorem dL_areAlike_86 : decode cL_areAlike 86 = .ok (.aload_n 0, 1) := by decide +kernel
theorem dL_areAlike_87 : decode cL_areAlike 87 = .ok (.iload_n 3, 1) := by decide +kernel
theorem dL_areAlike_88 : decode cL_areAlike 88 = .ok (.invokevirtual 55, 3) := by decide +kernel
theorem dL_areAlike_91 : decode cL_areAlike 91 = .ok (.aload_n 1, 1) := by decide +kernel
theorem dL_areAlike_92 : decode cL_areAlike 92 = .ok (.iload_n 3, 1) := by decide +kernel
theorem dL_areAlike_93 : decode cL_areAlike 93 = .ok (.invokevirtual 55, 3) := by decide +kernel
theorem dL_areAlike_96 : decode cL_areAlike 96 = .ok (.if_icmp .ne 22, 3) := by decide +kernel
theorem dL_areAlike_99 : decode cL_areAlike 99 = .ok (.aload_n 0, 1) := by decide +kernel
theorem dL_areAlike_100 : decode cL_areAlike 100 = .ok (.iload_n 3, 1) := by decide +kernel
theorem dL_areAlike_101 : decode cL_areAlike 101 = .ok (.iconst 0, 1) := by decide +kernel
theorem dL_areAlike_102 : decode cL_areAlike 102 = .ok (.invokevirtual 58, 3) := by decide +kernel
theorem dL_areAlike_105 : decode cL_areAlike 105 = .ok (.aload_n 1, 1) := by decide +kernel
theorem dL_areAlike_106 : decode cL_areAlike 106 = .ok (.iload_n 3, 1) := by decide +kernel
theorem dL_areAlike_107 : decode cL_areAlike 107 = .ok (.iconst 0, 1) := by decide +kernel
theorem dL_areAlike_108 : decode cL_areAlike 108 = .ok (.invokevirtual 58, 3) := by decide +kernel
theorem dL_areAlike_111 : decode cL_areAlike 111 = .ok (.if_icmp .ne 7, 3) := by decide +kernel
theorem dL_areAlike_114 : decode cL_areAlike 114 = .ok (.iconst 1, 1) := by decide +kernel
theorem dL_areAlike_115 : decode cL_areAlike 115 = .ok (.goto 4, 3) := by decide +kernel
theorem dL_areAlike_118 : decode cL_areAlike 118 = .ok (.iconst 0, 1) := by decide +kernel
theorem dL_areAlike_119 : decode cL_areAlike 119 = .ok (.istore_n 2, 1) := by decide +kernel
theorem dL_areAlike_120 : decode cL_areAlike 120 = .ok (.iinc 3 1, 3) := by decide +kernel
theorem dL_areAlike_123 : decode cL_areAlike 123 = .ok (.goto (-49), 3) := by decide +kernel
theorem dL_areAlike_126 : decode cL_areAlike 126 = .ok (.iload_n 2, 1) := by decide +kernel
theorem dL_areAlike_127 : decode cL_areAlike 127 = .ok (.ireturn, 1) := by decide +kernel
set_option maxRecDepth 20000 in
theorem ggL_arePagesSo_X3_pages : GoodIn wsL_arePagesSo wsX3_pages := goodIn_r _ [5, 6, 7, 8, 9, 10, 11, 12, 104, 105, 106, 107, 108, 109, 110, 111, 112] (by decide +kernel) (by decide +kernel)
set_option maxRecDepth 20000 in
theorem gL_arePagesSo_X3_pages : GoodIn wsL_arePagesSo (wsV RL 46 RX3 yX3_pages wsX3_pages) := goodIn_app (goodIn_of _ (by decide +kernel)) ggL_arePagesSo_X3_pages
set_option maxRecDepth 20000 in
theorem ggL_arePagesSo_X3_size : GoodIn wsL_arePagesSo wsX3_size := goodIn_ca (goodIn_r _ [16, 17, 18, 6, 19, 20, 21, 10, 22, 12, 23, 24, 25, 26, 27, 28, 104, 105, 106, 107, 108, 109, 110, 111, 112] (by decide +kernel) (by decide +kernel)) (goodIn_sub (fun _ h => List.mem_cons_of_mem _ (List.mem_append_left _ (List.mem_append_right _ h))) (by decide +kernel))
set_option maxRecDepth 20000 in
theorem gL_arePagesSo_X3_size : GoodIn wsL_arePagesSo (wsV RL 55 RX3 yX3_size wsX3_size) := goodIn_app (goodIn_of _ (by decide +kernel)) ggL_arePagesSo_X3_size
set_option maxRecDepth 20000 in
theorem ggL_arePagesSo_X3_at : GoodIn wsL_arePagesSo wsX3_at := goodIn_ca (goodIn_r _ [32, 17, 18, 6, 33, 19, 20, 21, 10, 22, 12, 23, 24, 25, 26, 27, 28, 34, 35, 4, 36, 37, 38, 39, 40, 41, 42, 43, 44, 45, 46, 47, 48, 49, 50, 51, 52, 53, 104, 105, 106, 107, 108, 109, 110, 111, 112, 113, 114, 115, 116, 117, 118, 119] (by decide +kernel) (by decide +kernel)) (goodIn_sub (fun _ h => List.mem_cons_of_mem _ (List.mem_append_left _ (List.mem_append_right _ h))) (by decide +kernel))
set_option maxRecDepth 20000 in
theorem gL_arePagesSo_X3_at : GoodIn wsL_arePagesSo (wsV RL 58 RX3 yX3_at wsX3_at) := goodIn_app (goodIn_of _ (by decide +kernel)) ggL_arePagesSo_X3_at
set_option maxRecDepth 20000 in
theorem ggL_arePagesSo_X3_pageOf : GoodIn wsL_arePagesSo wsX3_pageOf := goodIn_ca (goodIn_r _ [57, 6, 33, 58, 59, 4, 60, 61, 62, 34, 35, 36, 63, 64, 65, 45, 66, 67, 68, 69, 70, 52, 71, 43, 44, 46, 47, 48, 49, 50, 51, 53, 72, 73, 74, 10, 75, 12, 41, 25, 26, 27, 23, 28, 20, 21, 22, 104, 105, 106, 107, 108, 109, 110, 118, 119, 113, 114, 115, 116, 117, 111, 112] (by decide +kernel) (by decide +kernel)) (goodIn_sub (fun _ h => List.mem_cons_of_mem _ (List.mem_append_right _ h)) (by decide +kernel))
set_option maxRecDepth 20000 in
theorem gL_arePagesSo_X3_pageOf : GoodIn wsL_arePagesSo (wsV RL 102 RX3 yX3_pageOf wsX3_pageOf) := goodIn_app (goodIn_of _ (by decide +kernel)) ggL_arePagesSo_X3_pageOf
set_option maxRecDepth 20000 in
theorem ggL_arePagesSo_X3_sum : GoodIn wsL_arePagesSo wsX3_sum := goodIn_ca (goodIn_r _ [79, 33, 80, 58, 59, 4, 60, 61, 62, 34, 35, 36, 81, 82, 83, 45, 84, 85, 64, 65, 66, 67, 68, 69, 70, 52, 71, 43, 44, 46, 47, 48, 49, 50, 51, 53, 104, 105, 106, 107, 108, 109, 110, 113, 114, 115, 116, 117, 118, 119] (by decide +kernel) (by decide +kernel)) (goodIn_sub (fun _ h => List.mem_cons_of_mem _ (List.mem_append_right _ h)) (by decide +kernel))
set_option maxRecDepth 20000 in
theorem gL_arePagesSo_X3_sum : GoodIn wsL_arePagesSo (wsV RL 105 RX3 yX3_sum wsX3_sum) := goodIn_app (goodIn_of _ (by decide +kernel)) ggL_arePagesSo_X3_sum
set_option maxRecDepth 20000 in
theorem ggL_arePagesSo_X3_heldBy : GoodIn wsL_arePagesSo wsX3_heldBy := goodIn_ca (goodIn_r _ [89, 61, 62, 33, 34, 35, 4, 36, 90, 91, 92, 45, 93, 52, 94, 95, 48, 49, 50, 51, 53, 104, 105, 106, 107, 108, 109, 110, 118, 119, 113, 114, 115, 116, 117] (by decide +kernel) (by decide +kernel)) (goodIn_sub (fun _ h => List.mem_cons_of_mem _ (List.mem_append_right _ h)) (by decide +kernel))
set_option maxRecDepth 20000 in
theorem gL_arePagesSo_X3_heldBy : GoodIn wsL_arePagesSo (wsV RL 108 RX3 yX3_heldBy wsX3_heldBy) := goodIn_app (goodIn_of _ (by decide +kernel)) ggL_arePagesSo_X3_heldBy
set_option maxRecDepth 20000 in
theorem ggL_arePagesSo_X3_records : GoodIn wsL_arePagesSo wsX3_records := goodIn_r _ [99, 33, 100, 101, 102, 45, 103, 52, 104, 105, 106, 107, 108, 109, 110, 118, 119] (by decide +kernel) (by decide +kernel)
set_option maxRecDepth 20000 in
theorem gL_arePagesSo_X3_records : GoodIn wsL_arePagesSo (wsV RL 90 RX3 yX3_records wsX3_records) := goodIn_app (goodIn_of _ (by decide +kernel)) ggL_arePagesSo_X3_records
theorem dL_arePagesSo_0 : decode cL_arePagesSo 0 = .ok (.iconst (-1), 1) := by decide +kernel
theorem dL_arePagesSo_1 : decode cL_arePagesSo 1 = .ok (.istore_n 1, 1) := by decide +kernel
theorem dL_arePagesSo_2 : decode cL_arePagesSo 2 = .ok (.iconst 0, 1) := by decide +kernel
theorem dL_arePagesSo_3 : decode cL_arePagesSo 3 = .ok (.istore_n 2, 1) := by decide +kernel
theorem dL_arePagesSo_4 : decode cL_arePagesSo 4 = .ok (.iconst 0, 1) := by decide +kernel
theorem dL_arePagesSo_5 : decode cL_arePagesSo 5 = .ok (.istore_n 3, 1) := by decide +kernel
theorem dL_arePagesSo_6 : decode cL_arePagesSo 6 = .ok (.iconst 0, 1) := by decide +kernel
theorem dL_arePagesSo_7 : decode cL_arePagesSo 7 = .ok (.istore 4, 2) := by decide +kernel
theorem dL_arePagesSo_9 : decode cL_arePagesSo 9 = .ok (.iconst 0, 1) := by decide +kernel
theorem dL_arePagesSo_10 : decode cL_arePagesSo 10 = .ok (.istore 5, 2) := by decide +kernel
theorem dL_arePagesSo_12 : decode cL_arePagesSo 12 = .ok (.iload 5, 2) := by decide +kernel
theorem dL_arePagesSo_14 : decode cL_arePagesSo 14 = .ok (.aload_n 0, 1) := by decide +kernel
theorem dL_arePagesSo_15 : decode cL_arePagesSo 15 = .ok (.invokevirtual 46, 3) := by decide +kernel
theorem dL_arePagesSo_18 : decode cL_arePagesSo 18 = .ok (.if_icmp .ge 103, 3) := by decide +kernel
theorem dL_arePagesSo_21 : decode cL_arePagesSo 21 = .ok (.aload_n 0, 1) := by decide +kernel
theorem dL_arePagesSo_22 : decode cL_arePagesSo 22 = .ok (.iload 5, 2) := by decide +kernel
theorem dL_arePagesSo_24 : decode cL_arePagesSo 24 = .ok (.invokevirtual 55, 3) := by decide +kernel
theorem dL_arePagesSo_27 : decode cL_arePagesSo 27 = .ok (.istore 6, 2) := by decide +kernel
