set_option maxRecDepth 20000 in
theorem ggX4_step_X4_in : GoodIn wsX4_step wsX4_in := goodIn_r _ [7] (by decide +kernel) (by decide +kernel)
set_option maxRecDepth 20000 in
theorem gX4_step_X4_in : GoodIn wsX4_step (va_wsS RX4 38 yX4_in wsX4_in) := goodIn_app (goodIn_of _ (by decide +kernel)) ggX4_step_X4_in
set_option maxRecDepth 20000 in
theorem ggX4_step_X4_goesWell : GoodIn wsX4_step wsX4_goesWell := goodIn_r _ [11, 12, 17, 18, 19, 20, 21, 22, 23, 24, 25, 26, 27, 28, 29, 30] (by decide +kernel) (by decide +kernel)
set_option maxRecDepth 20000 in
theorem gX4_step_X4_goesWell : GoodIn wsX4_step (wsV RX4 63 RX4 yX4_goesWell wsX4_goesWell) := goodIn_app (goodIn_of _ (by decide +kernel)) ggX4_step_X4_goesWell
set_option maxRecDepth 20000 in
theorem ggX4_step_X4_dropPage : GoodIn wsX4_step wsX4_dropPage := goodIn_r _ [16, 2, 3, 17, 18, 19, 20, 21, 22, 23, 24, 25, 26, 27, 28, 29, 30] (by decide +kernel) (by decide +kernel)
set_option maxRecDepth 20000 in
theorem gX4_step_X4_dropPage : GoodIn wsX4_step (wsV RX4 79 RX4 yX4_dropPage wsX4_dropPage) := goodIn_app (goodIn_of _ (by decide +kernel)) ggX4_step_X4_dropPage
theorem dX4_step_0 : decode cX4_step 0 = .ok (.aload_n 0, 1) := by decide +kernel
theorem dX4_step_1 : decode cX4_step 1 = .ok (.iload_n 1, 1) := by decide +kernel
theorem dX4_step_2 : decode cX4_step 2 = .ok (.iconst 1, 1) := by decide +kernel
theorem dX4_step_3 : decode cX4_step 3 = .ok (.bipush 100, 2) := by decide +kernel
theorem dX4_step_5 : decode cX4_step 5 = .ok (.invokestatic 38, 3) := by decide +kernel
theorem dX4_step_8 : decode cX4_step 8 = .ok (.ifCond .ne 7, 3) := by decide +kernel
theorem dX4_step_11 : decode cX4_step 11 = .ok (.iconst 1, 1) := by decide +kernel
theorem dX4_step_12 : decode cX4_step 12 = .ok (.goto 16, 3) := by decide +kernel
theorem dX4_step_15 : decode cX4_step 15 = .ok (.aload_n 0, 1) := by decide +kernel
theorem dX4_step_16 : decode cX4_step 16 = .ok (.getfield 28, 3) := by decide +kernel
theorem dX4_step_19 : decode cX4_step 19 = .ok (.iconst (-1), 1) := by decide +kernel
theorem dX4_step_20 : decode cX4_step 20 = .ok (.if_icmp .ne 7, 3) := by decide +kernel
theorem dX4_step_23 : decode cX4_step 23 = .ok (.iconst 2, 1) := by decide +kernel
theorem dX4_step_24 : decode cX4_step 24 = .ok (.goto 4, 3) := by decide +kernel
theorem dX4_step_27 : decode cX4_step 27 = .ok (.iconst 0, 1) := by decide +kernel
theorem dX4_step_28 : decode cX4_step 28 = .ok (.invokevirtual 63, 3) := by decide +kernel
theorem dX4_step_31 : decode cX4_step 31 = .ok (.ifCond .ne 5, 3) := by decide +kernel
theorem dX4_step_34 : decode cX4_step 34 = .ok (.iconst 0, 1) := by decide +kernel
theorem dX4_step_35 : decode cX4_step 35 = .ok (.ireturn, 1) := by decide +kernel
theorem dX4_step_36 : decode cX4_step 36 = .ok (.iconst 0, 1) := by decide +kernel
theorem dX4_step_37 : decode cX4_step 37 = .ok (.istore_n 2, 1) := by decide +kernel
theorem dX4_step_38 : decode cX4_step 38 = .ok (.iconst 0, 1) := by decide +kernel
theorem dX4_step_39 : decode cX4_step 39 = .ok (.istore_n 3, 1) := by decide +kernel
theorem dX4_step_40 : decode cX4_step 40 = .ok (.iload_n 3, 1) := by decide +kernel
theorem dX4_step_41 : decode cX4_step 41 = .ok (.iload_n 1, 1) := by decide +kernel
theorem dX4_step_42 : decode cX4_step 42 = .ok (.if_icmp .ge 119, 3) := by decide +kernel
theorem dX4_step_45 : decode cX4_step 45 = .ok (.aload_n 0, 1) := by decide +kernel
theorem dX4_step_46 : decode cX4_step 46 = .ok (.getfield 28, 3) := by decide +kernel
theorem dX4_step_49 : decode cX4_step 49 = .ok (.iconst (-1), 1) := by decide +kernel
theorem dX4_step_50 : decode cX4_step 50 = .ok (.if_icmp .eq 111, 3) := by decide +kernel
theorem dX4_step_53 : decode cX4_step 53 = .ok (.aload_n 0, 1) := by decide +kernel
theorem dX4_step_54 : decode cX4_step 54 = .ok (.getfield 28, 3) := by decide +kernel
theorem dX4_step_57 : decode cX4_step 57 = .ok (.iconst 1, 1) := by decide +kernel
theorem dX4_step_58 : decode cX4_step 58 = .ok (.iadd, 1) := by decide +kernel
theorem dX4_step_59 : decode cX4_step 59 = .ok (.aload_n 0, 1) := by decide +kernel
theorem dX4_step_60 : decode cX4_step 60 = .ok (.getfield 45, 3) := by decide +kernel
theorem dX4_step_63 : decode cX4_step 63 = .ok (.if_icmp .lt 11, 3) := by decide +kernel
theorem dX4_step_66 : decode cX4_step 66 = .ok (.aload_n 0, 1) := by decide +kernel
theorem dX4_step_67 : decode cX4_step 67 = .ok (.iconst (-1), 1) := by decide +kernel
theorem dX4_step_68 : decode cX4_step 68 = .ok (.putfield 28, 3) := by decide +kernel
theorem dX4_step_71 : decode cX4_step 71 = .ok (.goto 84, 3) := by decide +kernel
theorem dX4_step_74 : decode cX4_step 74 = .ok (.aload_n 0, 1) := by decide +kernel
theorem dX4_step_75 : decode cX4_step 75 = .ok (.getfield 25, 3) := by decide +kernel
theorem dX4_step_78 : decode cX4_step 78 = .ok (.aload_n 0, 1) := by decide +kernel
theorem dX4_step_79 : decode cX4_step 79 = .ok (.getfield 28, 3) := by decide +kernel
theorem dX4_step_82 : decode cX4_step 82 = .ok (.iaload, 1) := by decide +kernel
theorem dX4_step_83 : decode cX4_step 83 = .ok (.iconst 4, 1) := by decide +kernel
theorem dX4_step_84 : decode cX4_step 84 = .ok (.if_icmp .ne 16, 3) := by decide +kernel
theorem dX4_step_87 : decode cX4_step 87 = .ok (.aload_n 0, 1) := by decide +kernel
theorem dX4_step_88 : decode cX4_step 88 = .ok (.dup, 1) := by decide +kernel
theorem dX4_step_89 : decode cX4_step 89 = .ok (.getfield 28, 3) := by decide +kernel
theorem dX4_step_92 : decode cX4_step 92 = .ok (.iconst 1, 1) := by decide +kernel
theorem dX4_step_93 : decode cX4_step 93 = .ok (.iadd, 1) := by decide +kernel
theorem dX4_step_94 : decode cX4_step 94 = .ok (.putfield 28, 3) := by decide +kernel
theorem dX4_step_97 : decode cX4_step 97 = .ok (.goto 58, 3) := by decide +kernel
theorem dX4_step_100 : decode cX4_step 100 = .ok (.aload_n 0, 1) := by decide +kernel
theorem dX4_step_101 : decode cX4_step 101 = .ok (.getfield 25, 3) := by decide +kernel
theorem dX4_step_104 : decode cX4_step 104 = .ok (.aload_n 0, 1) := by decide +kernel
theorem dX4_step_105 : decode cX4_step 105 = .ok (.getfield 28, 3) := by decide +kernel
theorem dX4_step_108 : decode cX4_step 108 = .ok (.dup2, 1) := by decide +kernel
theorem dX4_step_109 : decode cX4_step 109 = .ok (.iaload, 1) := by decide +kernel
theorem dX4_step_110 : decode cX4_step 110 = .ok (.iconst 1, 1) := by decide +kernel
theorem dX4_step_111 : decode cX4_step 111 = .ok (.iadd, 1) := by decide +kernel
theorem dX4_step_112 : decode cX4_step 112 = .ok (.iastore, 1) := by decide +kernel
theorem dX4_step_113 : decode cX4_step 113 = .ok (.aload_n 0, 1) := by decide +kernel
theorem dX4_step_114 : decode cX4_step 114 = .ok (.getfield 25, 3) := by decide +kernel
theorem dX4_step_117 : decode cX4_step 117 = .ok (.aload_n 0, 1) := by decide +kernel
theorem dX4_step_118 : decode cX4_step 118 = .ok (.getfield 28, 3) := by decide +kernel
theorem dX4_step_121 : decode cX4_step 121 = .ok (.iconst 1, 1) := by decide +kernel
theorem dX4_step_122 : decode cX4_step 122 = .ok (.iadd, 1) := by decide +kernel
theorem dX4_step_123 : decode cX4_step 123 = .ok (.dup2, 1) := by decide +kernel
theorem dX4_step_124 : decode cX4_step 124 = .ok (.iaload, 1) := by decide +kernel
theorem dX4_step_125 : decode cX4_step 125 = .ok (.iconst 1, 1) := by decide +kernel
theorem dX4_step_126 : decode cX4_step 126 = .ok (.isub, 1) := by decide +kernel
theorem dX4_step_127 : decode cX4_step 127 = .ok (.iastore, 1) := by decide +kernel
theorem dX4_step_128 : decode cX4_step 128 = .ok (.iinc 2 1, 3) := by decide +kernel
theorem dX4_step_131 : decode cX4_step 131 = .ok (.aload_n 0, 1) := by decide +kernel
theorem dX4_step_132 : decode cX4_step 132 = .ok (.getfield 25, 3) := by decide +kernel
theorem dX4_step_135 : decode cX4_step 135 = .ok (.aload_n 0, 1) := by decide +kernel
theorem dX4_step_136 : decode cX4_step 136 = .ok (.getfield 28, 3) := by decide +kernel
theorem dX4_step_139 : decode cX4_step 139 = .ok (.iconst 1, 1) := by decide +kernel
theorem dX4_step_140 : decode cX4_step 140 = .ok (.iadd, 1) := by decide +kernel
theorem dX4_step_141 : decode cX4_step 141 = .ok (.iaload, 1) := by decide +kernel
theorem dX4_step_142 : decode cX4_step 142 = .ok (.ifCond .ne 13, 3) := by decide +kernel
theorem dX4_step_145 : decode cX4_step 145 = .ok (.aload_n 0, 1) := by decide +kernel
theorem dX4_step_146 : decode cX4_step 146 = .ok (.aload_n 0, 1) := by decide +kernel
theorem dX4_step_147 : decode cX4_step 147 = .ok (.getfield 28, 3) := by decide +kernel
theorem dX4_step_150 : decode cX4_step 150 = .ok (.iconst 1, 1) := by decide +kernel
theorem dX4_step_151 : decode cX4_step 151 = .ok (.iadd, 1) := by decide +kernel
theorem dX4_step_152 : decode cX4_step 152 = .ok (.invokevirtual 79, 3) := by decide +kernel
theorem dX4_step_155 : decode cX4_step 155 = .ok (.iinc 3 1, 3) := by decide +kernel
theorem dX4_step_158 : decode cX4_step 158 = .ok (.goto (-118), 3) := by decide +kernel
theorem dX4_step_161 : decode cX4_step 161 = .ok (.iload_n 2, 1) := by decide +kernel
theorem dX4_step_162 : decode cX4_step 162 = .ok (.ireturn, 1) := by decide +kernel
theorem dX4_sweeping_0 : decode cX4_sweeping 0 = .ok (.aload_n 0, 1) := by decide +kernel
theorem dX4_sweeping_1 : decode cX4_sweeping 1 = .ok (.iconst 0, 1) := by decide +kernel
theorem dX4_sweeping_2 : decode cX4_sweeping 2 = .ok (.putfield 35, 3) := by decide +kernel
theorem dX4_sweeping_5 : decode cX4_sweeping 5 = .ok (.aload_n 0, 1) := by decide +kernel
theorem dX4_sweeping_6 : decode cX4_sweeping 6 = .ok (.getfield 28, 3) := by decide +kernel
theorem dX4_sweeping_9 : decode cX4_sweeping 9 = .ok (.ireturn, 1) := by decide +kernel
set_option maxRecDepth 20000 in
theorem ggX4_walk_X4_in : GoodIn wsX4_walk wsX4_in := goodIn_r _ [7] (by decide +kernel) (by decide +kernel)
set_option maxRecDepth 20000 in
theorem gX4_walk_X4_in : GoodIn wsX4_walk (va_wsS RX4 38 yX4_in wsX4_in) := goodIn_app (goodIn_of _ (by decide +kernel)) ggX4_walk_X4_in
set_option maxRecDepth 20000 in
theorem ggX4_walk_X4_goesWell : GoodIn wsX4_walk wsX4_goesWell := goodIn_r _ [11, 12, 13, 14, 15, 16, 17, 18, 19, 20, 21, 22, 23, 24, 25, 26] (by decide +kernel) (by decide +kernel)
set_option maxRecDepth 20000 in
theorem gX4_walk_X4_goesWell : GoodIn wsX4_walk (wsV RX4 63 RX4 yX4_goesWell wsX4_goesWell) := goodIn_app (goodIn_of _ (by decide +kernel)) ggX4_walk_X4_goesWell
theorem dX4_walk_0 : decode cX4_walk 0 = .ok (.aload_n 0, 1) := by decide +kernel
theorem dX4_walk_1 : decode cX4_walk 1 = .ok (.iload_n 1, 1) := by decide +kernel
theorem dX4_walk_2 : decode cX4_walk 2 = .ok (.iconst 0, 1) := by decide +kernel
theorem dX4_walk_3 : decode cX4_walk 3 = .ok (.iconst 3, 1) := by decide +kernel
theorem dX4_walk_4 : decode cX4_walk 4 = .ok (.invokestatic 38, 3) := by decide +kernel
theorem dX4_walk_7 : decode cX4_walk 7 = .ok (.ifCond .eq 7, 3) := by decide +kernel
theorem dX4_walk_10 : decode cX4_walk 10 = .ok (.iconst 0, 1) := by decide +kernel
theorem dX4_walk_11 : decode cX4_walk 11 = .ok (.goto 4, 3) := by decide +kernel
theorem dX4_walk_14 : decode cX4_walk 14 = .ok (.iconst 1, 1) := by decide +kernel
theorem dX4_walk_15 : decode cX4_walk 15 = .ok (.invokevirtual 63, 3) := by decide +kernel
theorem dX4_walk_18 : decode cX4_walk 18 = .ok (.ifCond .ne 5, 3) := by decide +kernel
theorem dX4_walk_21 : decode cX4_walk 21 = .ok (.iconst 0, 1) := by decide +kernel
theorem dX4_walk_22 : decode cX4_walk 22 = .ok (.ireturn, 1) := by decide +kernel
theorem dX4_walk_23 : decode cX4_walk 23 = .ok (.iconst 0, 1) := by decide +kernel
theorem dX4_walk_24 : decode cX4_walk 24 = .ok (.istore_n 2, 1) := by decide +kernel
theorem dX4_walk_25 : decode cX4_walk 25 = .ok (.iload_n 2, 1) := by decide +kernel
theorem dX4_walk_26 : decode cX4_walk 26 = .ok (.aload_n 0, 1) := by decide +kernel
theorem dX4_walk_27 : decode cX4_walk 27 = .ok (.getfield 42, 3) := by decide +kernel
theorem dX4_walk_30 : decode cX4_walk 30 = .ok (.if_icmp .ge 24, 3) := by decide +kernel
theorem dX4_walk_33 : decode cX4_walk 33 = .ok (.aload_n 0, 1) := by decide +kernel
theorem dX4_walk_34 : decode cX4_walk 34 = .ok (.getfield 7, 3) := by decide +kernel
theorem dX4_walk_37 : decode cX4_walk 37 = .ok (.iload_n 2, 1) := by decide +kernel
theorem dX4_walk_38 : decode cX4_walk 38 = .ok (.iaload, 1) := by decide +kernel
theorem dX4_walk_39 : decode cX4_walk 39 = .ok (.aload_n 0, 1) := by decide +kernel
theorem dX4_walk_40 : decode cX4_walk 40 = .ok (.getfield 32, 3) := by decide +kernel
theorem dX4_walk_43 : decode cX4_walk 43 = .ok (.iload_n 1, 1) := by decide +kernel
theorem dX4_walk_44 : decode cX4_walk 44 = .ok (.iaload, 1) := by decide +kernel
theorem dX4_walk_45 : decode cX4_walk 45 = .ok (.if_icmp .gt 9, 3) := by decide +kernel
theorem dX4_walk_48 : decode cX4_walk 48 = .ok (.iinc 2 1, 3) := by decide +kernel
theorem dX4_walk_51 : decode cX4_walk 51 = .ok (.goto (-26), 3) := by decide +kernel
theorem dX4_walk_54 : decode cX4_walk 54 = .ok (.aload_n 0, 1) := by decide +kernel
theorem dX4_walk_55 : decode cX4_walk 55 = .ok (.getfield 32, 3) := by decide +kernel
theorem dX4_walk_58 : decode cX4_walk 58 = .ok (.iload_n 1, 1) := by decide +kernel
theorem dX4_walk_59 : decode cX4_walk 59 = .ok (.iload_n 2, 1) := by decide +kernel
theorem dX4_walk_60 : decode cX4_walk 60 = .ok (.aload_n 0, 1) := by decide +kernel
theorem dX4_walk_61 : decode cX4_walk 61 = .ok (.getfield 42, 3) := by decide +kernel
theorem dX4_walk_64 : decode cX4_walk 64 = .ok (.if_icmp .ne 7, 3) := by decide +kernel
theorem dX4_walk_67 : decode cX4_walk 67 = .ok (.iconst (-1), 1) := by decide +kernel
theorem dX4_walk_68 : decode cX4_walk 68 = .ok (.goto 9, 3) := by decide +kernel
theorem dX4_walk_71 : decode cX4_walk 71 = .ok (.aload_n 0, 1) := by decide +kernel
theorem dX4_walk_72 : decode cX4_walk 72 = .ok (.getfield 7, 3) := by decide +kernel
theorem dX4_walk_75 : decode cX4_walk 75 = .ok (.iload_n 2, 1) := by decide +kernel
theorem dX4_walk_76 : decode cX4_walk 76 = .ok (.iaload, 1) := by decide +kernel
theorem dX4_walk_77 : decode cX4_walk 77 = .ok (.iastore, 1) := by decide +kernel
theorem dX4_walk_78 : decode cX4_walk 78 = .ok (.aload_n 0, 1) := by decide +kernel
theorem dX4_walk_79 : decode cX4_walk 79 = .ok (.getfield 32, 3) := by decide +kernel
theorem dX4_walk_82 : decode cX4_walk 82 = .ok (.iload_n 1, 1) := by decide +kernel
theorem dX4_walk_83 : decode cX4_walk 83 = .ok (.iaload, 1) := by decide +kernel
theorem dX4_walk_84 : decode cX4_walk 84 = .ok (.ireturn, 1) := by decide +kernel
theorem dJ9_max_7cf53_0 : decode cJ9_max_7cf53 0 = .ok (.iload_n 0, 1) := by decide +kernel
theorem dJ9_max_7cf53_1 : decode cJ9_max_7cf53 1 = .ok (.iload_n 1, 1) := by decide +kernel
theorem dJ9_max_7cf53_2 : decode cJ9_max_7cf53 2 = .ok (.if_icmp .lt 7, 3) := by decide +kernel
theorem dJ9_max_7cf53_5 : decode cJ9_max_7cf53 5 = .ok (.iload_n 0, 1) := by decide +kernel
theorem dJ9_max_7cf53_6 : decode cJ9_max_7cf53 6 = .ok (.goto 4, 3) := by decide +kernel
theorem dJ9_max_7cf53_9 : decode cJ9_max_7cf53 9 = .ok (.iload_n 1, 1) := by decide +kernel
theorem dJ9_max_7cf53_10 : decode cJ9_max_7cf53 10 = .ok (.ireturn, 1) := by decide +kernel
set_option maxRecDepth 20000 in
theorem ggL_put_X3_put : GoodIn wsL_put wsX3_put := goodIn_ca (goodIn_ca (goodIn_r _ [7, 8, 9, 10, 11, 12, 13, 14, 15, 16, 17, 18, 19, 6, 20, 21, 22, 23, 24, 25, 26, 27, 28, 29, 30, 31, 32, 33, 34, 35, 36, 37, 38, 39, 40, 41, 42, 43, 44, 45, 46, 47, 48, 49, 50, 51, 52, 53, 54, 55, 56, 57, 58, 59, 60, 61, 62, 63, 64, 65, 66, 67, 68, 69, 70, 71, 72, 73, 74, 75, 76, 77, 78, 79, 80, 81, 82, 83, 84, 85, 86, 87, 88, 89, 90, 91, 92, 93, 94, 95, 96, 97, 98, 99, 100, 101, 102, 103, 104, 105, 106, 107, 108, 109, 110, 111, 112, 113, 114, 115, 116, 117, 118, 119] (by decide +kernel) (by decide +kernel)) (goodIn_sub (fun _ h => List.mem_cons_of_mem _ (List.mem_append_left _ (List.mem_append_right _ h))) (by decide +kernel))) (goodIn_sub (fun _ h => List.mem_cons_of_mem _ (List.mem_append_right _ h)) (by decide +kernel))
set_option maxRecDepth 20000 in
theorem gL_put_X3_put : GoodIn wsL_put (wsV RL 7 RX3 yX3_put wsX3_put) := goodIn_app (goodIn_of _ (by decide +kernel)) ggL_put_X3_put
theorem dL_put_0 : decode cL_put 0 = .ok (.aload 4, 2) := by decide +kernel
theorem dL_put_2 : decode cL_put 2 = .ok (.iconst 0, 1) := by decide +kernel
theorem dL_put_3 : decode cL_put 3 = .ok (.aload_n 0, 1) := by decide +kernel
theorem dL_put_4 : decode cL_put 4 = .ok (.iload_n 1, 1) := by decide +kernel
theorem dL_put_5 : decode cL_put 5 = .ok (.iload_n 2, 1) := by decide +kernel
theorem dL_put_6 : decode cL_put 6 = .ok (.iload_n 3, 1) := by decide +kernel
theorem dL_put_7 : decode cL_put 7 = .ok (.invokevirtual 7, 3) := by decide +kernel
theorem dL_put_10 : decode cL_put 10 = .ok (.i2l, 1) := by decide +kernel
theorem dL_put_11 : decode cL_put 11 = .ok (.lastore, 1) := by decide +kernel
theorem dL_put_12 : decode cL_put 12 = .ok (.goto 11, 3) := by decide +kernel
theorem dL_put_15 : decode cL_put 15 = .ok (.astore 5, 2) := by decide +kernel
theorem dL_put_17 : decode cL_put 17 = .ok (.iconst 1, 1) := by decide +kernel
theorem dL_put_18 : decode cL_put 18 = .ok (.ireturn, 1) := by decide +kernel
theorem dL_put_19 : decode cL_put 19 = .ok (.astore 5, 2) := by decide +kernel
theorem dL_put_21 : decode cL_put 21 = .ok (.iconst 2, 1) := by decide +kernel
theorem dL_put_22 : decode cL_put 22 = .ok (.ireturn, 1) := by decide +kernel
theorem dL_put_23 : decode cL_put 23 = .ok (.iconst 0, 1) := by decide +kernel
theorem dL_put_24 : decode cL_put 24 = .ok (.ireturn, 1) := by decide +kernel
set_option maxRecDepth 20000 in
theorem ggL_payBack_X3_payBack : GoodIn wsL_payBack wsX3_payBack := goodIn_ca (goodIn_ca (goodIn_r _ [7, 8, 9, 10, 11, 12, 13, 14, 6, 15, 16, 17, 18, 19, 20, 21, 22, 23, 24, 25, 26, 27, 28, 29, 30, 31, 32, 33, 34, 35, 36, 37, 38, 39, 40, 41, 42, 43, 44, 45, 46, 47, 48, 49, 50, 51, 52, 53, 54, 55, 56, 57, 58, 59, 60, 61, 62, 63, 64, 65, 66, 67, 68, 69, 70, 71, 72, 73, 74, 75, 76, 77, 78, 79, 80, 81, 82, 83, 84, 85, 86, 87, 88, 89, 90, 91, 92, 93, 94, 95, 96, 97, 98, 99, 100, 101, 102, 103, 104, 105, 106, 107, 108, 109, 110, 111, 112] (by decide +kernel) (by decide +kernel)) (goodIn_sub (fun _ h => List.mem_cons_of_mem _ (List.mem_append_left _ (List.mem_append_right _ h))) (by decide +kernel))) (goodIn_sub (fun _ h => List.mem_cons_of_mem _ (List.mem_append_right _ h)) (by decide +kernel))
set_option maxRecDepth 20000 in
theorem gL_payBack_X3_payBack : GoodIn wsL_payBack (wsV RL 17 RX3 yX3_payBack wsX3_payBack) := goodIn_app (goodIn_of _ (by decide +kernel)) ggL_payBack_X3_payBack
theorem dL_payBack_0 : decode cL_payBack 0 = .ok (.aload_n 2, 1) := by decide +kernel
theorem dL_payBack_1 : decode cL_payBack 1 = .ok (.iconst 0, 1) := by decide +kernel
theorem dL_payBack_2 : decode cL_payBack 2 = .ok (.aload_n 0, 1) := by decide +kernel
theorem dL_payBack_3 : decode cL_payBack 3 = .ok (.iload_n 1, 1) := by decide +kernel
theorem dL_payBack_4 : decode cL_payBack 4 = .ok (.invokevirtual 17, 3) := by decide +kernel
theorem dL_payBack_7 : decode cL_payBack 7 = .ok (.i2l, 1) := by decide +kernel
theorem dL_payBack_8 : decode cL_payBack 8 = .ok (.lastore, 1) := by decide +kernel
theorem dL_payBack_9 : decode cL_payBack 9 = .ok (.goto 9, 3) := by decide +kernel
theorem dL_payBack_12 : decode cL_payBack 12 = .ok (.astore_n 3, 1) := by decide +kernel
theorem dL_payBack_13 : decode cL_payBack 13 = .ok (.iconst 1, 1) := by decide +kernel
theorem dL_payBack_14 : decode cL_payBack 14 = .ok (.ireturn, 1) := by decide +kernel
theorem dL_payBack_15 : decode cL_payBack 15 = .ok (.astore_n 3, 1) := by decide +kernel
theorem dL_payBack_16 : decode cL_payBack 16 = .ok (.iconst 2, 1) := by decide +kernel
theorem dL_payBack_17 : decode cL_payBack 17 = .ok (.ireturn, 1) := by decide +kernel
theorem dL_payBack_18 : decode cL_payBack 18 = .ok (.iconst 0, 1) := by decide +kernel
theorem dL_payBack_19 : decode cL_payBack 19 = .ok (.ireturn, 1) := by decide +kernel
set_option maxRecDepth 20000 in
theorem ggL_forfeit_X3_forfeit : GoodIn wsL_forfeit wsX3_forfeit := goodIn_ca (goodIn_ca (goodIn_r _ [7, 8, 9, 10, 11, 12, 13, 14, 6, 15, 16, 17, 18, 19, 20, 21, 22, 23, 24, 25, 26, 27, 28, 29, 30, 31, 32, 33, 34, 35, 36, 37, 38, 39, 40, 41, 42, 43, 44, 45, 46, 47, 48, 49, 50, 51, 52, 53, 54, 55, 56, 57, 58, 59, 60, 61, 62, 63, 64] (by decide +kernel) (by decide +kernel)) (goodIn_sub (fun _ h => List.mem_cons_of_mem _ (List.mem_append_left _ (List.mem_append_right _ h))) (by decide +kernel))) (goodIn_sub (fun _ h => List.mem_cons_of_mem _ (List.mem_append_right _ h)) (by decide +kernel))
set_option maxRecDepth 20000 in
theorem gL_forfeit_X3_forfeit : GoodIn wsL_forfeit (wsV RL 21 RX3 yX3_forfeit wsX3_forfeit) := goodIn_app (goodIn_of _ (by decide +kernel)) ggL_forfeit_X3_forfeit
theorem dL_forfeit_0 : decode cL_forfeit 0 = .ok (.aload_n 0, 1) := by decide +kernel
theorem dL_forfeit_1 : decode cL_forfeit 1 = .ok (.iload_n 1, 1) := by decide +kernel
theorem dL_forfeit_2 : decode cL_forfeit 2 = .ok (.invokevirtual 21, 3) := by decide +kernel
theorem dL_forfeit_5 : decode cL_forfeit 5 = .ok (.goto 9, 3) := by decide +kernel
theorem dL_forfeit_8 : decode cL_forfeit 8 = .ok (.astore_n 2, 1) := by decide +kernel
theorem dL_forfeit_9 : decode cL_forfeit 9 = .ok (.iconst 1, 1) := by decide +kernel
theorem dL_forfeit_10 : decode cL_forfeit 10 = .ok (.ireturn, 1) := by decide +kernel
theorem dL_forfeit_11 : decode cL_forfeit 11 = .ok (.astore_n 2, 1) := by decide +kernel
theorem dL_forfeit_12 : decode cL_forfeit 12 = .ok (.iconst 2, 1) := by decide +kernel
theorem dL_forfeit_13 : decode cL_forfeit 13 = .ok (.ireturn, 1) := by decide +kernel
theorem dL_forfeit_14 : decode cL_forfeit 14 = .ok (.iconst 0, 1) := by decide +kernel
theorem dL_forfeit_15 : decode cL_forfeit 15 = .ok (.ireturn, 1) := by decide +kernel
set_option maxRecDepth 20000 in
theorem ggL_undo_X3_undo : GoodIn wsL_undo wsX3_undo := goodIn_ca (goodIn_ca (goodIn_r _ [7, 8, 9, 10, 11, 12, 13, 14, 6, 15, 16, 17, 18, 19, 20, 21, 22, 23, 24, 25, 26, 27, 28, 29, 30, 31, 32, 33, 34, 35, 36, 37, 38, 39, 40, 41, 42, 43, 44, 45, 46, 47, 48, 49, 50, 51, 52, 53, 54, 55, 56, 57, 58, 59, 60, 61, 62, 63, 64] (by decide +kernel) (by decide +kernel)) (goodIn_sub (fun _ h => List.mem_cons_of_mem _ (List.mem_append_left _ (List.mem_append_right _ h))) (by decide +kernel))) (goodIn_sub (fun _ h => List.mem_cons_of_mem _ (List.mem_append_right _ h)) (by decide +kernel))
set_option maxRecDepth 20000 in
theorem gL_undo_X3_undo : GoodIn wsL_undo (wsV RL 25 RX3 yX3_undo wsX3_undo) := goodIn_app (goodIn_of _ (by decide +kernel)) ggL_undo_X3_undo
theorem dL_undo_0 : decode cL_undo 0 = .ok (.aload_n 2, 1) := by decide +kernel
theorem dL_undo_1 : decode cL_undo 1 = .ok (.iconst 0, 1) := by decide +kernel
theorem dL_undo_2 : decode cL_undo 2 = .ok (.aload_n 0, 1) := by decide +kernel
theorem dL_undo_3 : decode cL_undo 3 = .ok (.iload_n 1, 1) := by decide +kernel
theorem dL_undo_4 : decode cL_undo 4 = .ok (.invokevirtual 25, 3) := by decide +kernel
theorem dL_undo_7 : decode cL_undo 7 = .ok (.i2l, 1) := by decide +kernel
theorem dL_undo_8 : decode cL_undo 8 = .ok (.lastore, 1) := by decide +kernel
theorem dL_undo_9 : decode cL_undo 9 = .ok (.goto 9, 3) := by decide +kernel
theorem dL_undo_12 : decode cL_undo 12 = .ok (.astore_n 3, 1) := by decide +kernel
theorem dL_undo_13 : decode cL_undo 13 = .ok (.iconst 1, 1) := by decide +kernel
theorem dL_undo_14 : decode cL_undo 14 = .ok (.ireturn, 1) := by decide +kernel
theorem dL_undo_15 : decode cL_undo 15 = .ok (.astore_n 3, 1) := by decide +kernel
theorem dL_undo_16 : decode cL_undo 16 = .ok (.iconst 2, 1) := by decide +kernel
theorem dL_undo_17 : decode cL_undo 17 = .ok (.ireturn, 1) := by decide +kernel
theorem dL_undo_18 : decode cL_undo 18 = .ok (.iconst 0, 1) := by decide +kernel
theorem dL_undo_19 : decode cL_undo 19 = .ok (.ireturn, 1) := by decide +kernel
set_option maxRecDepth 20000 in
theorem ggL_amnesty_X3_amnesty : GoodIn wsL_amnesty wsX3_amnesty := goodIn_ca (goodIn_r _ [6, 7, 8, 9, 10, 11, 12, 13, 14, 5, 15, 16, 17, 18, 19, 20, 21, 22, 23, 24, 25, 26, 27, 28, 29, 30, 31, 32, 33, 34, 35, 36, 37, 38, 39, 40, 41, 42, 43, 44, 45, 46, 47, 48, 49, 50, 51, 52, 53, 54, 55, 56, 57, 58, 59, 60, 61, 62, 63, 64, 65, 66, 67, 68, 69, 70, 71, 72, 73, 74, 75, 76, 77, 78, 79, 80, 81, 82, 83, 84, 85, 86, 87, 88, 89, 90, 91, 92, 93, 94, 95, 96, 97, 98, 99, 100] (by decide +kernel) (by decide +kernel)) (goodIn_sub (fun _ h => List.mem_cons_of_mem _ (List.mem_append_right _ h)) (by decide +kernel))
set_option maxRecDepth 20000 in
theorem gL_amnesty_X3_amnesty : GoodIn wsL_amnesty (wsV RL 28 RX3 yX3_amnesty wsX3_amnesty) := goodIn_app (goodIn_of _ (by decide +kernel)) ggL_amnesty_X3_amnesty
theorem dL_amnesty_0 : decode cL_amnesty 0 = .ok (.aload_n 3, 1) := by decide +kernel
theorem dL_amnesty_1 : decode cL_amnesty 1 = .ok (.iconst 0, 1) := by decide +kernel
theorem dL_amnesty_2 : decode cL_amnesty 2 = .ok (.aload_n 0, 1) := by decide +kernel
theorem dL_amnesty_3 : decode cL_amnesty 3 = .ok (.iload_n 1, 1) := by decide +kernel
theorem dL_amnesty_4 : decode cL_amnesty 4 = .ok (.iload_n 2, 1) := by decide +kernel
theorem dL_amnesty_5 : decode cL_amnesty 5 = .ok (.invokevirtual 28, 3) := by decide +kernel
theorem dL_amnesty_8 : decode cL_amnesty 8 = .ok (.i2l, 1) := by decide +kernel
theorem dL_amnesty_9 : decode cL_amnesty 9 = .ok (.lastore, 1) := by decide +kernel
theorem dL_amnesty_10 : decode cL_amnesty 10 = .ok (.goto 7, 3) := by decide +kernel
theorem dL_amnesty_13 : decode cL_amnesty 13 = .ok (.astore 4, 2) := by decide +kernel
theorem dL_amnesty_15 : decode cL_amnesty 15 = .ok (.iconst 1, 1) := by decide +kernel
theorem dL_amnesty_16 : decode cL_amnesty 16 = .ok (.ireturn, 1) := by decide +kernel
theorem dL_amnesty_17 : decode cL_amnesty 17 = .ok (.iconst 0, 1) := by decide +kernel
theorem dL_amnesty_18 : decode cL_amnesty 18 = .ok (.ireturn, 1) := by decide +kernel
set_option maxRecDepth 20000 in
theorem ggL_sum_X3_sum : GoodIn wsL_sum wsX3_sum := goodIn_ca (goodIn_r _ [6, 7, 8, 9, 10, 5, 11, 12, 13, 14, 15, 16, 17, 18, 19, 20, 21, 22, 23, 24, 25, 26, 27, 28, 29, 30, 31, 32, 33, 34, 35, 36, 37, 38, 39, 40, 41, 42, 43, 44, 45, 46, 47, 48, 49, 50, 51, 52, 53, 54] (by decide +kernel) (by decide +kernel)) (goodIn_sub (fun _ h => List.mem_cons_of_mem _ (List.mem_append_right _ h)) (by decide +kernel))
set_option maxRecDepth 20000 in
theorem gL_sum_X3_sum : GoodIn wsL_sum (wsV RL 32 RX3 yX3_sum wsX3_sum) := goodIn_app (goodIn_of _ (by decide +kernel)) ggL_sum_X3_sum
theorem dL_sum_0 : decode cL_sum 0 = .ok (.aload_n 2, 1) := by decide +kernel
theorem dL_sum_1 : decode cL_sum 1 = .ok (.iconst 0, 1) := by decide +kernel
theorem dL_sum_2 : decode cL_sum 2 = .ok (.aload_n 0, 1) := by decide +kernel
theorem dL_sum_3 : decode cL_sum 3 = .ok (.iload_n 1, 1) := by decide +kernel
theorem dL_sum_4 : decode cL_sum 4 = .ok (.invokevirtual 32, 3) := by decide +kernel
theorem dL_sum_7 : decode cL_sum 7 = .ok (.i2l, 1) := by decide +kernel
theorem dL_sum_8 : decode cL_sum 8 = .ok (.lastore, 1) := by decide +kernel
theorem dL_sum_9 : decode cL_sum 9 = .ok (.goto 6, 3) := by decide +kernel
theorem dL_sum_12 : decode cL_sum 12 = .ok (.astore_n 3, 1) := by decide +kernel
theorem dL_sum_13 : decode cL_sum 13 = .ok (.iconst 1, 1) := by decide +kernel
theorem dL_sum_14 : decode cL_sum 14 = .ok (.ireturn, 1) := by decide +kernel
theorem dL_sum_15 : decode cL_sum 15 = .ok (.iconst 0, 1) := by decide +kernel
theorem dL_sum_16 : decode cL_sum 16 = .ok (.ireturn, 1) := by decide +kernel
set_option maxRecDepth 20000 in
theorem ggL_isForfeited_X3_isForfeited : GoodIn wsL_isForfeited wsX3_isForfeited := goodIn_ca (goodIn_r _ [6, 7, 8, 9, 5, 10, 11, 12, 13, 14, 15, 16, 17, 18, 19, 20, 21, 22, 23, 24, 25, 26, 27, 28, 29, 30, 31, 32, 33, 34, 35, 36, 37, 38, 39, 40, 41, 42, 43, 44, 45, 46, 47, 48, 49, 50, 51, 52, 53, 54, 55, 56, 57, 58, 59] (by decide +kernel) (by decide +kernel)) (goodIn_sub (fun _ h => List.mem_cons_of_mem _ (List.mem_append_right _ h)) (by decide +kernel))
set_option maxRecDepth 20000 in
theorem gL_isForfeited_X3_isForfeited : GoodIn wsL_isForfeited (wsV RL 35 RX3 yX3_isForfeited wsX3_isForfeited) := goodIn_app (goodIn_of _ (by decide +kernel)) ggL_isForfeited_X3_isForfeited
theorem dL_isForfeited_0 : decode cL_isForfeited 0 = .ok (.aload_n 2, 1) := by decide +kernel
theorem dL_isForfeited_1 : decode cL_isForfeited 1 = .ok (.iconst 0, 1) := by decide +kernel
theorem dL_isForfeited_2 : decode cL_isForfeited 2 = .ok (.aload_n 0, 1) := by decide +kernel
theorem dL_isForfeited_3 : decode cL_isForfeited 3 = .ok (.iload_n 1, 1) := by decide +kernel
theorem dL_isForfeited_4 : decode cL_isForfeited 4 = .ok (.invokevirtual 35, 3) := by decide +kernel
theorem dL_isForfeited_7 : decode cL_isForfeited 7 = .ok (.ifCond .eq 7, 3) := by decide +kernel
theorem dL_isForfeited_10 : decode cL_isForfeited 10 = .ok (.lconst 1, 1) := by decide +kernel
theorem dL_isForfeited_11 : decode cL_isForfeited 11 = .ok (.goto 4, 3) := by decide +kernel
theorem dL_isForfeited_14 : decode cL_isForfeited 14 = .ok (.lconst 0, 1) := by decide +kernel
theorem dL_isForfeited_15 : decode cL_isForfeited 15 = .ok (.lastore, 1) := by decide +kernel
theorem dL_isForfeited_16 : decode cL_isForfeited 16 = .ok (.goto 6, 3) := by decide +kernel
theorem dL_isForfeited_19 : decode cL_isForfeited 19 = .ok (.astore_n 3, 1) := by decide +kernel
theorem dL_isForfeited_20 : decode cL_isForfeited 20 = .ok (.iconst 1, 1) := by decide +kernel
theorem dL_isForfeited_21 : decode cL_isForfeited 21 = .ok (.ireturn, 1) := by decide +kernel
theorem dL_isForfeited_22 : decode cL_isForfeited 22 = .ok (.iconst 0, 1) := by decide +kernel
theorem dL_isForfeited_23 : decode cL_isForfeited 23 = .ok (.ireturn, 1) := by decide +kernel
set_option maxRecDepth 20000 in
theorem ggL_heldBy_X3_heldBy : GoodIn wsL_heldBy wsX3_heldBy := goodIn_ca (goodIn_r _ [6, 7, 8, 9, 10, 11, 5, 12, 13, 14, 15, 16, 17, 18, 19, 20, 21, 22, 23, 24, 25, 26, 27, 28, 29, 30, 31, 32, 33, 34, 35, 36, 37, 38, 39] (by decide +kernel) (by decide +kernel)) (goodIn_sub (fun _ h => List.mem_cons_of_mem _ (List.mem_append_right _ h)) (by decide +kernel))
set_option maxRecDepth 20000 in
theorem gL_heldBy_X3_heldBy : GoodIn wsL_heldBy (wsV RL 39 RX3 yX3_heldBy wsX3_heldBy) := goodIn_app (goodIn_of _ (by decide +kernel)) ggL_heldBy_X3_heldBy
theorem dL_heldBy_0 : decode cL_heldBy 0 = .ok (.aload_n 2, 1) := by decide +kernel
theorem dL_heldBy_1 : decode cL_heldBy 1 = .ok (.iconst 0, 1) := by decide +kernel
theorem dL_heldBy_2 : decode cL_heldBy 2 = .ok (.aload_n 0, 1) := by decide +kernel
theorem dL_heldBy_3 : decode cL_heldBy 3 = .ok (.iload_n 1, 1) := by decide +kernel
theorem dL_heldBy_4 : decode cL_heldBy 4 = .ok (.invokevirtual 39, 3) := by decide +kernel
theorem dL_heldBy_7 : decode cL_heldBy 7 = .ok (.i2l, 1) := by decide +kernel
theorem dL_heldBy_8 : decode cL_heldBy 8 = .ok (.lastore, 1) := by decide +kernel
theorem dL_heldBy_9 : decode cL_heldBy 9 = .ok (.goto 6, 3) := by decide +kernel
theorem dL_heldBy_12 : decode cL_heldBy 12 = .ok (.astore_n 3, 1) := by decide +kernel
theorem dL_heldBy_13 : decode cL_heldBy 13 = .ok (.iconst 1, 1) := by decide +kernel
theorem dL_heldBy_14 : decode cL_heldBy 14 = .ok (.ireturn, 1) := by decide +kernel
theorem dL_heldBy_15 : decode cL_heldBy 15 = .ok (.iconst 0, 1) := by decide +kernel
theorem dL_heldBy_16 : decode cL_heldBy 16 = .ok (.ireturn, 1) := by decide +kernel
set_option maxRecDepth 20000 in
theorem ggL_pass_X3_pass : GoodIn wsL_pass wsX3_pass := goodIn_ca (goodIn_ca (goodIn_r _ [7, 8, 9, 10, 11, 12, 13, 14, 6, 15, 16, 17, 18, 19, 20, 21, 22, 23, 24, 25, 26, 27, 28, 29, 30, 31, 32, 33, 34, 35, 36, 37, 38, 39, 40, 41, 42, 43, 44, 45, 46, 47, 48, 49, 50, 51, 52, 53, 54, 55, 56, 57, 58, 59, 60, 61, 62, 63, 64, 65, 66, 67, 68, 69, 70, 71, 72, 73, 74, 75, 76, 77, 78, 79, 80, 81, 82, 83, 84, 85, 86, 87, 88, 89, 90, 91, 92, 93, 94, 95, 96, 97, 98, 99, 100, 101, 102, 103, 104, 105] (by decide +kernel) (by decide +kernel)) (goodIn_sub (fun _ h => List.mem_cons_of_mem _ (List.mem_append_left _ (List.mem_append_right _ h))) (by decide +kernel))) (goodIn_sub (fun _ h => List.mem_cons_of_mem _ (List.mem_append_right _ h)) (by decide +kernel))
set_option maxRecDepth 20000 in
theorem gL_pass_X3_pass : GoodIn wsL_pass (wsV RL 42 RX3 yX3_pass wsX3_pass) := goodIn_app (goodIn_of _ (by decide +kernel)) ggL_pass_X3_pass
theorem dL_pass_0 : decode cL_pass 0 = .ok (.aload_n 2, 1) := by decide +kernel
theorem dL_pass_1 : decode cL_pass 1 = .ok (.iconst 0, 1) := by decide +kernel
theorem dL_pass_2 : decode cL_pass 2 = .ok (.aload_n 0, 1) := by decide +kernel
theorem dL_pass_3 : decode cL_pass 3 = .ok (.iload_n 1, 1) := by decide +kernel
theorem dL_pass_4 : decode cL_pass 4 = .ok (.invokevirtual 42, 3) := by decide +kernel
theorem dL_pass_7 : decode cL_pass 7 = .ok (.i2l, 1) := by decide +kernel
theorem dL_pass_8 : decode cL_pass 8 = .ok (.lastore, 1) := by decide +kernel
theorem dL_pass_9 : decode cL_pass 9 = .ok (.goto 9, 3) := by decide +kernel
theorem dL_pass_12 : decode cL_pass 12 = .ok (.astore_n 3, 1) := by decide +kernel
theorem dL_pass_13 : decode cL_pass 13 = .ok (.iconst 1, 1) := by decide +kernel
theorem dL_pass_14 : decode cL_pass 14 = .ok (.ireturn, 1) := by decide +kernel
theorem dL_pass_15 : decode cL_pass 15 = .ok (.astore_n 3, 1) := by decide +kernel
theorem dL_pass_16 : decode cL_pass 16 = .ok (.iconst 2, 1) := by decide +kernel
theorem dL_pass_17 : decode cL_pass 17 = .ok (.ireturn, 1) := by decide +kernel
theorem dL_pass_18 : decode cL_pass 18 = .ok (.iconst 0, 1) := by decide +kernel
theorem dL_pass_19 : decode cL_pass 19 = .ok (.ireturn, 1) := by decide +kernel
set_option maxRecDepth 20000 in
theorem ggL_size_X3_size : GoodIn wsL_size wsX3_size := goodIn_ca (goodIn_r _ [6, 7, 8, 9, 10, 11, 12, 13, 14, 15, 16, 17, 18, 19, 20, 21, 22, 23, 24, 25, 26, 27, 28, 29, 30] (by decide +kernel) (by decide +kernel)) (goodIn_sub (fun _ h => List.mem_cons_of_mem _ (List.mem_append_right _ h)) (by decide +kernel))
set_option maxRecDepth 20000 in
theorem gL_size_X3_size : GoodIn wsL_size (wsV RL 45 RX3 yX3_size wsX3_size) := goodIn_app (goodIn_of _ (by decide +kernel)) ggL_size_X3_size
theorem dL_size_0 : decode cL_size 0 = .ok (.aload_n 2, 1) := by decide +kernel
theorem dL_size_1 : decode cL_size 1 = .ok (.iconst 0, 1) := by decide +kernel
theorem dL_size_2 : decode cL_size 2 = .ok (.aload_n 0, 1) := by decide +kernel
theorem dL_size_3 : decode cL_size 3 = .ok (.iload_n 1, 1) := by decide +kernel
theorem dL_size_4 : decode cL_size 4 = .ok (.invokevirtual 45, 3) := by decide +kernel
theorem dL_size_7 : decode cL_size 7 = .ok (.i2l, 1) := by decide +kernel
theorem dL_size_8 : decode cL_size 8 = .ok (.lastore, 1) := by decide +kernel
theorem dL_size_9 : decode cL_size 9 = .ok (.goto 6, 3) := by decide +kernel
theorem dL_size_12 : decode cL_size 12 = .ok (.astore_n 3, 1) := by decide +kernel
theorem dL_size_13 : decode cL_size 13 = .ok (.iconst 1, 1) := by decide +kernel
theorem dL_size_14 : decode cL_size 14 = .ok (.ireturn, 1) := by decide +kernel
theorem dL_size_15 : decode cL_size 15 = .ok (.iconst 0, 1) := by decide +kernel
theorem dL_size_16 : decode cL_size 16 = .ok (.ireturn, 1) := by decide +kernel
set_option maxRecDepth 20000 in
theorem ggL_at_X3_at : GoodIn wsL_at wsX3_at := goodIn_ca (goodIn_r _ [6, 7, 8, 9, 10, 11, 12, 13, 14, 15, 16, 17, 18, 19, 20, 21, 22, 23, 24, 5, 25, 26, 27, 28, 29, 30, 31, 32, 33, 34, 35, 36, 37, 38, 39, 40, 41, 42, 43, 44, 45, 46, 47, 48, 49, 50, 51, 52, 53, 54, 55, 56, 57, 58] (by decide +kernel) (by decide +kernel)) (goodIn_sub (fun _ h => List.mem_cons_of_mem _ (List.mem_append_right _ h)) (by decide +kernel))
set_option maxRecDepth 20000 in
theorem gL_at_X3_at : GoodIn wsL_at (wsV RL 50 RX3 yX3_at wsX3_at) := goodIn_app (goodIn_of _ (by decide +kernel)) ggL_at_X3_at
theorem dL_at_0 : decode cL_at 0 = .ok (.aload_n 3, 1) := by decide +kernel
theorem dL_at_1 : decode cL_at 1 = .ok (.iconst 0, 1) := by decide +kernel
theorem dL_at_2 : decode cL_at 2 = .ok (.aload_n 0, 1) := by decide +kernel
theorem dL_at_3 : decode cL_at 3 = .ok (.iload_n 1, 1) := by decide +kernel
theorem dL_at_4 : decode cL_at 4 = .ok (.iload_n 2, 1) := by decide +kernel
theorem dL_at_5 : decode cL_at 5 = .ok (.invokevirtual 50, 3) := by decide +kernel
theorem dL_at_8 : decode cL_at 8 = .ok (.i2l, 1) := by decide +kernel
theorem dL_at_9 : decode cL_at 9 = .ok (.lastore, 1) := by decide +kernel
theorem dL_at_10 : decode cL_at 10 = .ok (.goto 7, 3) := by decide +kernel
theorem dL_at_13 : decode cL_at 13 = .ok (.astore 4, 2) := by decide +kernel
theorem dL_at_15 : decode cL_at 15 = .ok (.iconst 1, 1) := by decide +kernel
theorem dL_at_16 : decode cL_at 16 = .ok (.ireturn, 1) := by decide +kernel
theorem dL_at_17 : decode cL_at 17 = .ok (.iconst 0, 1) := by decide +kernel
theorem dL_at_18 : decode cL_at 18 = .ok (.ireturn, 1) := by decide +kernel
set_option maxRecDepth 20000 in
theorem ggL_pageOf_X3_pageOf : GoodIn wsL_pageOf wsX3_pageOf := goodIn_ca (goodIn_r _ [6, 7, 8, 9, 10, 5, 11, 12, 13, 14, 15, 16, 17, 18, 19, 20, 21, 22, 23, 24, 25, 26, 27, 28, 29, 30, 31, 32, 33, 34, 35, 36, 37, 38, 39, 40, 41, 42, 43, 44, 45, 46, 47, 48, 49, 50, 51, 52, 53, 54, 55, 56, 57, 58, 59, 60, 61, 62, 63, 64, 65, 66, 67] (by decide +kernel) (by decide +kernel)) (goodIn_sub (fun _ h => List.mem_cons_of_mem _ (List.mem_append_right _ h)) (by decide +kernel))
set_option maxRecDepth 20000 in
theorem gL_pageOf_X3_pageOf : GoodIn wsL_pageOf (wsV RL 53 RX3 yX3_pageOf wsX3_pageOf) := goodIn_app (goodIn_of _ (by decide +kernel)) ggL_pageOf_X3_pageOf
theorem dL_pageOf_0 : decode cL_pageOf 0 = .ok (.aload_n 2, 1) := by decide +kernel
theorem dL_pageOf_1 : decode cL_pageOf 1 = .ok (.iconst 0, 1) := by decide +kernel
theorem dL_pageOf_2 : decode cL_pageOf 2 = .ok (.aload_n 0, 1) := by decide +kernel
theorem dL_pageOf_3 : decode cL_pageOf 3 = .ok (.iload_n 1, 1) := by decide +kernel
theorem dL_pageOf_4 : decode cL_pageOf 4 = .ok (.invokevirtual 53, 3) := by decide +kernel
theorem dL_pageOf_7 : decode cL_pageOf 7 = .ok (.i2l, 1) := by decide +kernel
theorem dL_pageOf_8 : decode cL_pageOf 8 = .ok (.lastore, 1) := by decide +kernel
theorem dL_pageOf_9 : decode cL_pageOf 9 = .ok (.goto 6, 3) := by decide +kernel
theorem dL_pageOf_12 : decode cL_pageOf 12 = .ok (.astore_n 3, 1) := by decide +kernel
theorem dL_pageOf_13 : decode cL_pageOf 13 = .ok (.iconst 1, 1) := by decide +kernel
theorem dL_pageOf_14 : decode cL_pageOf 14 = .ok (.ireturn, 1) := by decide +kernel
theorem dL_pageOf_15 : decode cL_pageOf 15 = .ok (.iconst 0, 1) := by decide +kernel
theorem dL_pageOf_16 : decode cL_pageOf 16 = .ok (.ireturn, 1) := by decide +kernel
set_option maxRecDepth 20000 in
theorem ggL_sweep_X3_sweep : GoodIn wsL_sweep wsX3_sweep := goodIn_ca (goodIn_r _ [6, 7, 8, 9, 10, 11, 12, 13, 14, 15, 16] (by decide +kernel) (by decide +kernel)) (goodIn_sub (fun _ h => List.mem_cons_of_mem _ (List.mem_append_right _ h)) (by decide +kernel))
set_option maxRecDepth 20000 in
theorem gL_sweep_X3_sweep : GoodIn wsL_sweep (wsV RL 56 RX3 yX3_sweep wsX3_sweep) := goodIn_app (goodIn_of _ (by decide +kernel)) ggL_sweep_X3_sweep
theorem dL_sweep_0 : decode cL_sweep 0 = .ok (.aload_n 0, 1) := by decide +kernel
theorem dL_sweep_1 : decode cL_sweep 1 = .ok (.invokevirtual 56, 3) := by decide +kernel
theorem dL_sweep_4 : decode cL_sweep 4 = .ok (.goto 6, 3) := by decide +kernel
theorem dL_sweep_7 : decode cL_sweep 7 = .ok (.astore_n 1, 1) := by decide +kernel
theorem dL_sweep_8 : decode cL_sweep 8 = .ok (.iconst 1, 1) := by decide +kernel
theorem dL_sweep_9 : decode cL_sweep 9 = .ok (.ireturn, 1) := by decide +kernel
theorem dL_sweep_10 : decode cL_sweep 10 = .ok (.iconst 0, 1) := by decide +kernel
theorem dL_sweep_11 : decode cL_sweep 11 = .ok (.ireturn, 1) := by decide +kernel
set_option maxRecDepth 20000 in
theorem ggL_step_X3_step : GoodIn wsL_step wsX3_step := goodIn_ca (goodIn_ca (goodIn_r _ [7, 8, 9, 10, 11, 12, 13, 14, 6, 15, 16, 17, 18, 19, 20, 21, 22, 23, 24, 25, 26, 27, 28, 29, 30, 31, 32, 33, 34, 35, 36, 37, 38, 39, 40, 41, 42, 43, 44, 45, 46, 47, 48, 49] (by decide +kernel) (by decide +kernel)) (goodIn_sub (fun _ h => List.mem_cons_of_mem _ (List.mem_append_left _ (List.mem_append_right _ h))) (by decide +kernel))) (goodIn_sub (fun _ h => List.mem_cons_of_mem _ (List.mem_append_right _ h)) (by decide +kernel))
set_option maxRecDepth 20000 in
theorem gL_step_X3_step : GoodIn wsL_step (wsV RL 59 RX3 yX3_step wsX3_step) := goodIn_app (goodIn_of _ (by decide +kernel)) ggL_step_X3_step
theorem dL_step_0 : decode cL_step 0 = .ok (.aload_n 2, 1) := by decide +kernel
theorem dL_step_1 : decode cL_step 1 = .ok (.iconst 0, 1) := by decide +kernel
theorem dL_step_2 : decode cL_step 2 = .ok (.aload_n 0, 1) := by decide +kernel
theorem dL_step_3 : decode cL_step 3 = .ok (.iload_n 1, 1) := by decide +kernel
theorem dL_step_4 : decode cL_step 4 = .ok (.invokevirtual 59, 3) := by decide +kernel
theorem dL_step_7 : decode cL_step 7 = .ok (.i2l, 1) := by decide +kernel
theorem dL_step_8 : decode cL_step 8 = .ok (.lastore, 1) := by decide +kernel
theorem dL_step_9 : decode cL_step 9 = .ok (.goto 9, 3) := by decide +kernel
theorem dL_step_12 : decode cL_step 12 = .ok (.astore_n 3, 1) := by decide +kernel
theorem dL_step_13 : decode cL_step 13 = .ok (.iconst 1, 1) := by decide +kernel
theorem dL_step_14 : decode cL_step 14 = .ok (.ireturn, 1) := by decide +kernel
theorem dL_step_15 : decode cL_step 15 = .ok (.astore_n 3, 1) := by decide +kernel
theorem dL_step_16 : decode cL_step 16 = .ok (.iconst 2, 1) := by decide +kernel
theorem dL_step_17 : decode cL_step 17 = .ok (.ireturn, 1) := by decide +kernel
theorem dL_step_18 : decode cL_step 18 = .ok (.iconst 0, 1) := by decide +kernel
theorem dL_step_19 : decode cL_step 19 = .ok (.ireturn, 1) := by decide +kernel
set_option maxRecDepth 20000 in
theorem ggL_walk_X3_walk : GoodIn wsL_walk wsX3_walk := goodIn_ca (goodIn_r _ [6, 7, 8, 9, 10, 11, 12, 5, 13, 14, 15, 16, 17, 18, 19, 20, 21, 22, 23, 24, 25, 26, 27, 28, 29, 30, 31, 32, 33, 34, 35, 36, 37, 38, 39, 40, 41, 42, 43, 44] (by decide +kernel) (by decide +kernel)) (goodIn_sub (fun _ h => List.mem_cons_of_mem _ (List.mem_append_right _ h)) (by decide +kernel))
set_option maxRecDepth 20000 in
theorem gL_walk_X3_walk : GoodIn wsL_walk (wsV RL 62 RX3 yX3_walk wsX3_walk) := goodIn_app (goodIn_of _ (by decide +kernel)) ggL_walk_X3_walk
theorem dL_walk_0 : decode cL_walk 0 = .ok (.aload_n 2, 1) := by decide +kernel
theorem dL_walk_1 : decode cL_walk 1 = .ok (.iconst 0, 1) := by decide +kernel
theorem dL_walk_2 : decode cL_walk 2 = .ok (.aload_n 0, 1) := by decide +kernel
theorem dL_walk_3 : decode cL_walk 3 = .ok (.iload_n 1, 1) := by decide +kernel
theorem dL_walk_4 : decode cL_walk 4 = .ok (.invokevirtual 62, 3) := by decide +kernel
theorem dL_walk_7 : decode cL_walk 7 = .ok (.i2l, 1) := by decide +kernel
theorem dL_walk_8 : decode cL_walk 8 = .ok (.lastore, 1) := by decide +kernel
theorem dL_walk_9 : decode cL_walk 9 = .ok (.goto 6, 3) := by decide +kernel
theorem dL_walk_12 : decode cL_walk 12 = .ok (.astore_n 3, 1) := by decide +kernel
theorem dL_walk_13 : decode cL_walk 13 = .ok (.iconst 1, 1) := by decide +kernel
theorem dL_walk_14 : decode cL_walk 14 = .ok (.ireturn, 1) := by decide +kernel
theorem dL_walk_15 : decode cL_walk 15 = .ok (.iconst 0, 1) := by decide +kernel
theorem dL_walk_16 : decode cL_walk 16 = .ok (.ireturn, 1) := by decide +kernel
set_option maxRecDepth 20000 in
theorem ggL_law_X3_init : GoodIn wsL_law wsX3_init := goodIn_r _ [9, 10, 11, 12, 13, 14, 15, 16, 17, 18, 19, 20, 21, 22, 23, 24, 25, 26, 27, 28, 29, 30, 31, 32, 501, 502, 480, 481, 482, 483, 484, 485, 486, 503, 504] (by decide +kernel) (by decide +kernel)
set_option maxRecDepth 20000 in
theorem gL_law_X3_init : GoodIn wsL_law (wsX3_init) := ggL_law_X3_init
set_option maxRecDepth 20000 in
theorem ggL_law_X4_init : GoodIn wsL_law wsX4_init := goodIn_r _ [35, 36, 11, 12, 21, 37, 38, 39, 40, 41, 42, 43, 44, 487, 488, 489, 490, 491, 492, 493, 494, 495, 496, 497, 498, 499, 500] (by decide +kernel) (by decide +kernel)
set_option maxRecDepth 20000 in
theorem gL_law_X4_init : GoodIn wsL_law (wsX4_init) := ggL_law_X4_init
set_option maxRecDepth 20000 in
theorem ggL_law_L_put : GoodIn wsL_law wsL_put := goodIn_ca (goodIn_ca (goodIn_r _ [48, 49, 50, 51, 52, 53, 2, 54, 55, 56, 57, 58, 16, 20, 59, 60, 61, 62, 63, 64, 65, 66, 67, 68, 69, 70, 71, 15, 72, 73, 74, 75, 76, 77, 78, 79, 80, 81, 82, 83, 84, 85, 86, 87, 88, 89, 90, 28, 91, 92, 93, 94, 95, 96, 97, 98, 99, 100, 101, 102, 103, 104, 105, 106, 19, 107, 108, 109, 110, 111, 112, 32, 113, 114, 115, 116, 117, 118, 119, 120, 121, 122, 123, 124, 125, 126, 127, 128, 129, 11, 12, 130, 131, 132, 133, 134, 135, 136, 137, 138, 139, 140, 141, 142, 480, 481, 482, 483, 484, 485, 486, 505, 506, 507, 508, 509, 501, 502, 503, 504] (by decide +kernel) (by decide +kernel)) (goodIn_sub (fun _ h => List.mem_append_left _ (List.mem_append_left _ (List.mem_append_right _ h))) (by decide +kernel))) (goodIn_sub (fun _ h => List.mem_append_left _ (List.mem_append_right _ h)) (by decide +kernel))
set_option maxRecDepth 20000 in
theorem gL_law_L_put : GoodIn wsL_law (va_wsS RL 69 yL_put wsL_put) := goodIn_app (goodIn_of _ (by decide +kernel)) ggL_law_L_put
set_option maxRecDepth 20000 in
theorem ggL_law_X4_put : GoodIn wsL_law wsX4_put := goodIn_r _ [146, 147, 148, 42, 37, 38, 39, 40, 149, 41, 150, 151, 5, 152, 153, 154, 155, 156, 157, 158, 159, 160, 161, 162, 163, 164, 165, 166, 167, 168, 169, 170, 171, 172, 173, 174, 175, 176, 177, 178, 179, 180, 181, 182, 183, 184, 487, 488, 489, 490, 491, 492, 493, 494, 495, 496, 497, 498, 499, 500] (by decide +kernel) (by decide +kernel)
set_option maxRecDepth 20000 in
theorem gL_law_X4_put : GoodIn wsL_law (wsV RL 74 RX4 yX4_put wsX4_put) := goodIn_app (goodIn_of _ (by decide +kernel)) ggL_law_X4_put
set_option maxRecDepth 20000 in
theorem ggL_law_X4_thrown : GoodIn wsL_law wsX4_thrown := goodIn_r _ [188, 164, 487, 488, 489, 490, 491, 492, 493, 494, 495, 496, 497, 498, 499, 500] (by decide +kernel) (by decide +kernel)
set_option maxRecDepth 20000 in
theorem gL_law_X4_thrown : GoodIn wsL_law (wsV RL 75 RX4 yX4_thrown wsX4_thrown) := goodIn_app (goodIn_of _ (by decide +kernel)) ggL_law_X4_thrown
set_option maxRecDepth 20000 in
theorem ggL_law_L_payBack : GoodIn wsL_law wsL_payBack := goodIn_ca (goodIn_ca (goodIn_r _ [191, 49, 50, 192, 193, 194, 2, 195, 57, 58, 16, 196, 197, 63, 64, 65, 55, 56, 66, 67, 68, 69, 70, 71, 15, 72, 73, 74, 75, 76, 77, 78, 79, 80, 81, 82, 83, 84, 85, 86, 87, 88, 89, 90, 28, 198, 199, 200, 61, 201, 134, 202, 203, 204, 205, 206, 20, 23, 104, 105, 106, 19, 107, 108, 109, 110, 111, 112, 32, 113, 114, 115, 116, 207, 208, 209, 210, 211, 212, 213, 214, 215, 216, 217, 218, 219, 220, 221, 222, 223, 224, 225, 226, 139, 140, 141, 142, 480, 481, 482, 483, 484, 485, 486, 505, 506, 507, 508, 509, 501, 502, 503, 504] (by decide +kernel) (by decide +kernel)) (goodIn_sub (fun _ h => List.mem_append_left _ (List.mem_append_right _ h)) (by decide +kernel))) (goodIn_sub (fun _ h => List.mem_append_left _ (List.mem_append_left _ (List.mem_append_right _ h))) (by decide +kernel))
set_option maxRecDepth 20000 in
theorem gL_law_L_payBack : GoodIn wsL_law (va_wsS RL 79 yL_payBack wsL_payBack) := goodIn_app (goodIn_of _ (by decide +kernel)) ggL_law_L_payBack
set_option maxRecDepth 20000 in
theorem ggL_law_X4_payBack : GoodIn wsL_law wsX4_payBack := goodIn_r _ [230, 41, 38, 231, 150, 151, 5, 152, 153, 154, 155, 156, 157, 158, 159, 147, 37, 160, 161, 162, 163, 164, 232, 233, 234, 235, 42, 148, 43, 236, 237, 238, 239, 181, 182, 183, 184, 39, 40, 240, 241, 242, 243, 244, 245, 246, 247, 487, 488, 489, 490, 491, 492, 493, 494, 495, 496, 497, 498, 499, 500] (by decide +kernel) (by decide +kernel)
set_option maxRecDepth 20000 in
theorem gL_law_X4_payBack : GoodIn wsL_law (wsV RL 82 RX4 yX4_payBack wsX4_payBack) := goodIn_app (goodIn_of _ (by decide +kernel)) ggL_law_X4_payBack
set_option maxRecDepth 20000 in
theorem ggL_law_L_forfeit : GoodIn wsL_law wsL_forfeit := goodIn_ca (goodIn_ca (goodIn_r _ [250, 49, 50, 251, 252, 253, 2, 254, 57, 58, 16, 62, 255, 63, 64, 65, 55, 56, 66, 67, 68, 69, 70, 71, 15, 72, 73, 74, 75, 76, 77, 78, 79, 80, 81, 82, 83, 84, 85, 86, 87, 88, 89, 90, 28, 198, 199, 200, 61, 201, 134, 480, 481, 482, 483, 484, 485, 486, 505, 506, 507, 508, 509, 501, 502] (by decide +kernel) (by decide +kernel)) (goodIn_sub (fun _ h => List.mem_append_left _ (List.mem_append_right _ h)) (by decide +kernel))) (goodIn_sub (fun _ h => List.mem_append_left _ (List.mem_append_left _ (List.mem_append_right _ h))) (by decide +kernel))
set_option maxRecDepth 20000 in
theorem gL_law_L_forfeit : GoodIn wsL_law (va_wsS RL 83 yL_forfeit wsL_forfeit) := goodIn_app (goodIn_of _ (by decide +kernel)) ggL_law_L_forfeit
set_option maxRecDepth 20000 in
theorem ggL_law_X4_forfeit : GoodIn wsL_law wsX4_forfeit := goodIn_r _ [259, 41, 149, 150, 151, 5, 152, 153, 154, 155, 156, 157, 158, 159, 147, 37, 160, 161, 162, 163, 164, 487, 488, 489, 490, 491, 492, 493, 494, 495, 496, 497, 498, 499, 500] (by decide +kernel) (by decide +kernel)
set_option maxRecDepth 20000 in
theorem gL_law_X4_forfeit : GoodIn wsL_law (wsV RL 86 RX4 yX4_forfeit wsX4_forfeit) := goodIn_app (goodIn_of _ (by decide +kernel)) ggL_law_X4_forfeit
set_option maxRecDepth 20000 in
theorem ggL_law_L_undo : GoodIn wsL_law wsL_undo := goodIn_ca (goodIn_ca (goodIn_r _ [262, 49, 50, 263, 264, 265, 2, 266, 57, 58, 16, 62, 255, 63, 64, 65, 55, 56, 66, 67, 68, 69, 70, 71, 15, 72, 73, 74, 75, 76, 77, 78, 79, 80, 81, 82, 83, 84, 85, 86, 87, 88, 89, 90, 28, 198, 199, 200, 61, 201, 134, 480, 481, 482, 483, 484, 485, 486, 505, 506, 507, 508, 509, 501, 502] (by decide +kernel) (by decide +kernel)) (goodIn_sub (fun _ h => List.mem_append_left _ (List.mem_append_right _ h)) (by decide +kernel))) (goodIn_sub (fun _ h => List.mem_append_left _ (List.mem_append_left _ (List.mem_append_right _ h))) (by decide +kernel))
set_option maxRecDepth 20000 in
theorem gL_law_L_undo : GoodIn wsL_law (va_wsS RL 87 yL_undo wsL_undo) := goodIn_app (goodIn_of _ (by decide +kernel)) ggL_law_L_undo
set_option maxRecDepth 20000 in
theorem ggL_law_X4_undo : GoodIn wsL_law wsX4_undo := goodIn_r _ [270, 41, 149, 150, 151, 5, 152, 153, 154, 155, 156, 157, 158, 159, 147, 37, 160, 161, 162, 163, 164, 487, 488, 489, 490, 491, 492, 493, 494, 495, 496, 497, 498, 499, 500] (by decide +kernel) (by decide +kernel)
set_option maxRecDepth 20000 in
theorem gL_law_X4_undo : GoodIn wsL_law (wsV RL 89 RX4 yX4_undo wsX4_undo) := goodIn_app (goodIn_of _ (by decide +kernel)) ggL_law_X4_undo
set_option maxRecDepth 20000 in
theorem ggL_law_L_amnesty : GoodIn wsL_law wsL_amnesty := goodIn_ca (goodIn_r _ [273, 49, 274, 275, 276, 2, 277, 55, 56, 62, 16, 196, 197, 66, 67, 68, 91, 92, 93, 15, 94, 81, 278, 88, 89, 90, 28, 279, 280, 281, 61, 282, 131, 133, 283, 199, 200, 201, 134, 203, 204, 205, 206, 20, 23, 104, 105, 106, 19, 107, 108, 109, 110, 111, 112, 32, 113, 114, 115, 116, 207, 208, 209, 210, 211, 212, 213, 214, 215, 216, 217, 218, 219, 220, 221, 222, 223, 224, 225, 226, 87, 139, 140, 141, 142, 480, 481, 482, 483, 484, 485, 486, 505, 506, 507, 508, 509, 501, 502, 503, 504] (by decide +kernel) (by decide +kernel)) (goodIn_sub (fun _ h => List.mem_append_left _ (List.mem_append_left _ (List.mem_append_right _ h))) (by decide +kernel))
set_option maxRecDepth 20000 in
theorem gL_law_L_amnesty : GoodIn wsL_law (va_wsS RL 90 yL_amnesty wsL_amnesty) := goodIn_app (goodIn_of _ (by decide +kernel)) ggL_law_L_amnesty
set_option maxRecDepth 20000 in
theorem ggL_law_X4_amnesty : GoodIn wsL_law wsX4_amnesty := goodIn_r _ [287, 149, 147, 41, 38, 40, 231, 153, 154, 5, 155, 160, 161, 162, 163, 164, 232, 233, 234, 235, 42, 148, 43, 236, 237, 238, 239, 181, 182, 183, 184, 37, 39, 240, 241, 242, 243, 244, 245, 246, 247, 487, 488, 489, 490, 491, 492, 493, 494, 495, 496, 497, 498, 499, 500] (by decide +kernel) (by decide +kernel)
set_option maxRecDepth 20000 in
theorem gL_law_X4_amnesty : GoodIn wsL_law (wsV RL 93 RX4 yX4_amnesty wsX4_amnesty) := goodIn_app (goodIn_of _ (by decide +kernel)) ggL_law_X4_amnesty
set_option maxRecDepth 20000 in
theorem ggL_law_X3_records : GoodIn wsL_law wsX3_records := goodIn_r _ [291, 16, 91, 92, 93, 15, 94, 81, 480, 481, 482, 483, 484, 485, 486, 501, 502] (by decide +kernel) (by decide +kernel)
set_option maxRecDepth 20000 in
theorem gL_law_X3_records : GoodIn wsL_law (wsV RL 94 RX3 yX3_records wsX3_records) := goodIn_app (goodIn_of _ (by decide +kernel)) ggL_law_X3_records
set_option maxRecDepth 20000 in
theorem ggL_law_X4_records : GoodIn wsL_law wsX4_records := goodIn_r _ [295, 164, 147, 487, 488, 489, 490, 491, 492, 493, 494, 495, 496, 497, 498, 499, 500] (by decide +kernel) (by decide +kernel)
set_option maxRecDepth 20000 in
theorem gL_law_X4_records : GoodIn wsL_law (wsV RL 97 RX4 yX4_records wsX4_records) := goodIn_app (goodIn_of _ (by decide +kernel)) ggL_law_X4_records
set_option maxRecDepth 20000 in
theorem ggL_law_L_sum : GoodIn wsL_law wsL_sum := goodIn_ca (goodIn_r _ [298, 49, 299, 300, 301, 2, 302, 16, 197, 63, 64, 65, 55, 56, 66, 67, 68, 69, 70, 71, 15, 72, 73, 74, 75, 76, 77, 78, 79, 80, 81, 82, 83, 84, 85, 86, 87, 88, 89, 90, 28, 480, 481, 482, 483, 484, 485, 486, 505, 506, 507, 508, 509, 501, 502] (by decide +kernel) (by decide +kernel)) (goodIn_sub (fun _ h => List.mem_append_left _ (List.mem_append_left _ (List.mem_append_right _ h))) (by decide +kernel))
set_option maxRecDepth 20000 in
theorem gL_law_L_sum : GoodIn wsL_law (va_wsS RL 98 yL_sum wsL_sum) := goodIn_app (goodIn_of _ (by decide +kernel)) ggL_law_L_sum
set_option maxRecDepth 20000 in
theorem ggL_law_X4_sum : GoodIn wsL_law wsX4_sum := goodIn_r _ [306, 38, 150, 151, 5, 152, 153, 154, 155, 156, 157, 158, 159, 147, 37, 160, 161, 162, 163, 164, 487, 488, 489, 490, 491, 492, 493, 494, 495, 496, 497, 498, 499, 500] (by decide +kernel) (by decide +kernel)
set_option maxRecDepth 20000 in
theorem gL_law_X4_sum : GoodIn wsL_law (wsV RL 100 RX4 yX4_sum wsX4_sum) := goodIn_app (goodIn_of _ (by decide +kernel)) ggL_law_X4_sum
set_option maxRecDepth 20000 in
theorem ggL_law_L_isForfeited : GoodIn wsL_law wsL_isForfeited := goodIn_ca (goodIn_r _ [309, 49, 310, 311, 312, 2, 313, 16, 63, 64, 65, 55, 56, 66, 67, 68, 69, 70, 71, 15, 72, 73, 74, 75, 76, 77, 78, 79, 80, 81, 82, 83, 84, 85, 86, 87, 88, 89, 90, 28, 198, 199, 200, 61, 201, 134, 480, 481, 482, 483, 484, 485, 486, 501, 502, 505, 506, 507, 508, 509] (by decide +kernel) (by decide +kernel)) (goodIn_sub (fun _ h => List.mem_append_left _ (List.mem_append_left _ (List.mem_append_right _ h))) (by decide +kernel))
set_option maxRecDepth 20000 in
theorem gL_law_L_isForfeited : GoodIn wsL_law (va_wsS RL 101 yL_isForfeited wsL_isForfeited) := goodIn_app (goodIn_of _ (by decide +kernel)) ggL_law_L_isForfeited
set_option maxRecDepth 20000 in
theorem ggL_law_X4_isForfeited : GoodIn wsL_law wsX4_isForfeited := goodIn_r _ [317, 41, 150, 151, 5, 152, 153, 154, 155, 156, 157, 158, 159, 147, 37, 160, 161, 162, 163, 164, 487, 488, 489, 490, 491, 492, 493, 494, 495, 496, 497, 498, 499, 500] (by decide +kernel) (by decide +kernel)
set_option maxRecDepth 20000 in
theorem gL_law_X4_isForfeited : GoodIn wsL_law (wsV RL 103 RX4 yX4_isForfeited wsX4_isForfeited) := goodIn_app (goodIn_of _ (by decide +kernel)) ggL_law_X4_isForfeited
set_option maxRecDepth 20000 in
theorem ggL_law_L_heldBy : GoodIn wsL_law wsL_heldBy := goodIn_ca (goodIn_r _ [320, 49, 321, 322, 323, 2, 324, 55, 56, 16, 66, 67, 68, 325, 326, 327, 15, 328, 81, 329, 330, 87, 88, 89, 90, 28, 480, 481, 482, 483, 484, 485, 486, 501, 502, 505, 506, 507, 508, 509] (by decide +kernel) (by decide +kernel)) (goodIn_sub (fun _ h => List.mem_append_left _ (List.mem_append_left _ (List.mem_append_right _ h))) (by decide +kernel))
set_option maxRecDepth 20000 in
theorem gL_law_L_heldBy : GoodIn wsL_law (va_wsS RL 104 yL_heldBy wsL_heldBy) := goodIn_app (goodIn_of _ (by decide +kernel)) ggL_law_L_heldBy
set_option maxRecDepth 20000 in
theorem ggL_law_X4_heldBy : GoodIn wsL_law wsX4_heldBy := goodIn_r _ [334, 147, 39, 38, 153, 154, 5, 155, 160, 161, 162, 163, 164, 487, 488, 489, 490, 491, 492, 493, 494, 495, 496, 497, 498, 499, 500] (by decide +kernel) (by decide +kernel)
set_option maxRecDepth 20000 in
theorem gL_law_X4_heldBy : GoodIn wsL_law (wsV RL 106 RX4 yX4_heldBy wsX4_heldBy) := goodIn_app (goodIn_of _ (by decide +kernel)) ggL_law_X4_heldBy
set_option maxRecDepth 20000 in
theorem ggL_law_X3_kept : GoodIn wsL_law wsX3_kept := goodIn_r _ [338, 339, 480, 481, 482, 483, 484, 485, 486] (by decide +kernel) (by decide +kernel)
set_option maxRecDepth 20000 in
theorem gL_law_X3_kept : GoodIn wsL_law (wsV RL 107 RX3 yX3_kept wsX3_kept) := goodIn_app (goodIn_of _ (by decide +kernel)) ggL_law_X3_kept
set_option maxRecDepth 20000 in
theorem ggL_law_X4_kept : GoodIn wsL_law wsX4_kept := goodIn_r _ [343, 164, 344, 487, 488, 489, 490, 491, 492, 493, 494, 495, 496, 497, 498, 499, 500] (by decide +kernel) (by decide +kernel)
set_option maxRecDepth 20000 in
theorem gL_law_X4_kept : GoodIn wsL_law (wsV RL 110 RX4 yX4_kept wsX4_kept) := goodIn_app (goodIn_of _ (by decide +kernel)) ggL_law_X4_kept
set_option maxRecDepth 20000 in
theorem ggL_law_X3_paidBack : GoodIn wsL_law wsX3_paidBack := goodIn_r _ [348, 196, 480, 481, 482, 483, 484, 485, 486] (by decide +kernel) (by decide +kernel)
set_option maxRecDepth 20000 in
theorem gL_law_X3_paidBack : GoodIn wsL_law (wsV RL 111 RX3 yX3_paidBack wsX3_paidBack) := goodIn_app (goodIn_of _ (by decide +kernel)) ggL_law_X3_paidBack
set_option maxRecDepth 20000 in
theorem ggL_law_X4_paidBack : GoodIn wsL_law wsX4_paidBack := goodIn_r _ [352, 164, 231, 487, 488, 489, 490, 491, 492, 493, 494, 495, 496, 497, 498, 499, 500] (by decide +kernel) (by decide +kernel)
set_option maxRecDepth 20000 in
theorem gL_law_X4_paidBack : GoodIn wsL_law (wsV RL 114 RX4 yX4_paidBack wsX4_paidBack) := goodIn_app (goodIn_of _ (by decide +kernel)) ggL_law_X4_paidBack
set_option maxRecDepth 20000 in
theorem ggL_law_L_pass : GoodIn wsL_law wsL_pass := goodIn_ca (goodIn_ca (goodIn_r _ [355, 49, 50, 356, 357, 358, 2, 359, 55, 56, 57, 58, 62, 66, 67, 68, 360, 361, 362, 363, 16, 339, 197, 91, 92, 93, 15, 94, 81, 278, 88, 89, 90, 28, 364, 365, 366, 61, 367, 134, 283, 199, 200, 201, 203, 204, 205, 206, 20, 23, 104, 105, 106, 19, 107, 108, 109, 110, 111, 112, 32, 113, 114, 115, 116, 207, 208, 209, 210, 211, 212, 213, 214, 215, 216, 217, 218, 219, 220, 221, 222, 223, 224, 225, 226, 87, 139, 140, 141, 142, 480, 481, 482, 483, 484, 485, 486, 505, 506, 507, 508, 509, 501, 502, 503, 504] (by decide +kernel) (by decide +kernel)) (goodIn_sub (fun _ h => List.mem_append_left _ (List.mem_append_left _ (List.mem_append_right _ h))) (by decide +kernel))) (goodIn_sub (fun _ h => List.mem_append_left _ (List.mem_append_right _ h)) (by decide +kernel))
set_option maxRecDepth 20000 in
theorem gL_law_L_pass : GoodIn wsL_law (va_wsS RL 115 yL_pass wsL_pass) := goodIn_app (goodIn_of _ (by decide +kernel)) ggL_law_L_pass
set_option maxRecDepth 20000 in
theorem ggL_law_X4_pass : GoodIn wsL_law wsX4_pass := goodIn_r _ [371, 149, 147, 41, 344, 38, 153, 154, 5, 155, 160, 161, 162, 163, 164, 232, 233, 234, 235, 42, 148, 43, 236, 237, 238, 239, 181, 182, 183, 184, 37, 39, 40, 240, 241, 242, 243, 244, 245, 246, 247, 487, 488, 489, 490, 491, 492, 493, 494, 495, 496, 497, 498, 499, 500] (by decide +kernel) (by decide +kernel)
set_option maxRecDepth 20000 in
theorem gL_law_X4_pass : GoodIn wsL_law (wsV RL 117 RX4 yX4_pass wsX4_pass) := goodIn_app (goodIn_of _ (by decide +kernel)) ggL_law_X4_pass
set_option maxRecDepth 20000 in
theorem ggL_law_X3_today : GoodIn wsL_law wsX3_today := goodIn_r _ [375, 62, 480, 481, 482, 483, 484, 485, 486] (by decide +kernel) (by decide +kernel)
set_option maxRecDepth 20000 in
theorem gL_law_X3_today : GoodIn wsL_law (wsV RL 118 RX3 yX3_today wsX3_today) := goodIn_app (goodIn_of _ (by decide +kernel)) ggL_law_X3_today
set_option maxRecDepth 20000 in
theorem ggL_law_X4_today : GoodIn wsL_law wsX4_today := goodIn_r _ [379, 164, 149, 487, 488, 489, 490, 491, 492, 493, 494, 495, 496, 497, 498, 499, 500] (by decide +kernel) (by decide +kernel)
set_option maxRecDepth 20000 in
theorem gL_law_X4_today : GoodIn wsL_law (wsV RL 121 RX4 yX4_today wsX4_today) := goodIn_app (goodIn_of _ (by decide +kernel)) ggL_law_X4_today
set_option maxRecDepth 20000 in
theorem ggL_law_X3_pages : GoodIn wsL_law wsX3_pages := goodIn_r _ [383, 20, 139, 140, 141, 19, 142, 108, 480, 481, 482, 483, 484, 485, 486, 503, 504] (by decide +kernel) (by decide +kernel)
set_option maxRecDepth 20000 in
theorem gL_law_X3_pages : GoodIn wsL_law (wsV RL 122 RX3 yX3_pages wsX3_pages) := goodIn_app (goodIn_of _ (by decide +kernel)) ggL_law_X3_pages
set_option maxRecDepth 20000 in
theorem ggL_law_X4_pages : GoodIn wsL_law wsX4_pages := goodIn_r _ [387, 164, 148, 487, 488, 489, 490, 491, 492, 493, 494, 495, 496, 497, 498, 499, 500] (by decide +kernel) (by decide +kernel)
set_option maxRecDepth 20000 in
theorem gL_law_X4_pages : GoodIn wsL_law (wsV RL 125 RX4 yX4_pages wsX4_pages) := goodIn_app (goodIn_of _ (by decide +kernel)) ggL_law_X4_pages
set_option maxRecDepth 20000 in
theorem ggL_law_L_size : GoodIn wsL_law wsL_size := goodIn_ca (goodIn_r _ [390, 391, 392, 393, 394, 2, 395, 396, 397, 20, 398, 114, 115, 19, 116, 108, 32, 117, 110, 111, 112, 113, 480, 481, 482, 483, 484, 485, 486, 503, 504] (by decide +kernel) (by decide +kernel)) (goodIn_sub (fun _ h => List.mem_append_right _ h) (by decide +kernel))
set_option maxRecDepth 20000 in
theorem gL_law_L_size : GoodIn wsL_law (va_wsS RL 126 yL_size wsL_size) := goodIn_app (goodIn_of _ (by decide +kernel)) ggL_law_L_size
set_option maxRecDepth 20000 in
theorem ggL_law_X4_size : GoodIn wsL_law wsX4_size := goodIn_r _ [402, 42, 403, 404, 405, 5, 406, 148, 153, 154, 155, 160, 161, 162, 163, 164, 487, 488, 489, 490, 491, 492, 493, 494, 495, 496, 497, 498, 499, 500] (by decide +kernel) (by decide +kernel)
set_option maxRecDepth 20000 in
theorem gL_law_X4_size : GoodIn wsL_law (wsV RL 128 RX4 yX4_size wsX4_size) := goodIn_app (goodIn_of _ (by decide +kernel)) ggL_law_X4_size
set_option maxRecDepth 20000 in
theorem ggL_law_L_at : GoodIn wsL_law wsL_at := goodIn_ca (goodIn_r _ [409, 391, 410, 411, 412, 2, 413, 396, 397, 20, 16, 398, 114, 115, 19, 116, 108, 32, 117, 110, 111, 112, 113, 66, 67, 68, 414, 415, 416, 417, 109, 418, 83, 84, 15, 85, 86, 87, 88, 89, 90, 81, 28, 480, 481, 482, 483, 484, 485, 486, 503, 504, 505, 506, 507, 508, 509, 501, 502] (by decide +kernel) (by decide +kernel)) (goodIn_sub (fun _ h => List.mem_append_right _ h) (by decide +kernel))
set_option maxRecDepth 20000 in
theorem gL_law_L_at : GoodIn wsL_law (va_wsS RL 129 yL_at wsL_at) := goodIn_app (goodIn_of _ (by decide +kernel)) ggL_law_L_at
set_option maxRecDepth 20000 in
theorem ggL_law_X4_at : GoodIn wsL_law wsX4_at := goodIn_r _ [422, 42, 37, 403, 404, 405, 5, 406, 148, 153, 154, 155, 160, 161, 162, 163, 164, 169, 170, 171, 172, 487, 488, 489, 490, 491, 492, 493, 494, 495, 496, 497, 498, 499, 500] (by decide +kernel) (by decide +kernel)
set_option maxRecDepth 20000 in
theorem gL_law_X4_at : GoodIn wsL_law (wsV RL 131 RX4 yX4_at wsX4_at) := goodIn_app (goodIn_of _ (by decide +kernel)) ggL_law_X4_at
set_option maxRecDepth 20000 in
theorem ggL_law_L_pageOf : GoodIn wsL_law wsL_pageOf := goodIn_ca (goodIn_r _ [425, 49, 426, 427, 428, 2, 429, 20, 16, 63, 64, 65, 55, 56, 66, 67, 68, 202, 74, 75, 15, 76, 77, 78, 79, 80, 81, 82, 83, 84, 85, 86, 87, 88, 89, 90, 28, 104, 105, 106, 19, 107, 108, 109, 110, 111, 112, 32, 113, 114, 115, 116, 480, 481, 482, 483, 484, 485, 486, 501, 502, 505, 506, 507, 508, 509, 503, 504] (by decide +kernel) (by decide +kernel)) (goodIn_sub (fun _ h => List.mem_append_left _ (List.mem_append_left _ (List.mem_append_right _ h))) (by decide +kernel))
set_option maxRecDepth 20000 in
theorem gL_law_L_pageOf : GoodIn wsL_law (va_wsS RL 132 yL_pageOf wsL_pageOf) := goodIn_app (goodIn_of _ (by decide +kernel)) ggL_law_L_pageOf
set_option maxRecDepth 20000 in
theorem ggL_law_X4_pageOf : GoodIn wsL_law wsX4_pageOf := goodIn_r _ [433, 150, 151, 5, 152, 153, 154, 155, 160, 161, 162, 163, 164, 156, 157, 158, 159, 147, 37, 236, 237, 238, 239, 42, 487, 488, 489, 490, 491, 492, 493, 494, 495, 496, 497, 498, 499, 500] (by decide +kernel) (by decide +kernel)
set_option maxRecDepth 20000 in
theorem gL_law_X4_pageOf : GoodIn wsL_law (wsV RL 134 RX4 yX4_pageOf wsX4_pageOf) := goodIn_app (goodIn_of _ (by decide +kernel)) ggL_law_X4_pageOf
set_option maxRecDepth 20000 in
theorem ggL_law_L_sweep : GoodIn wsL_law wsL_sweep := goodIn_ca (goodIn_r _ [436, 50, 437, 438, 439, 2, 440, 57, 58, 23, 480, 481, 482, 483, 484, 485, 486] (by decide +kernel) (by decide +kernel)) (goodIn_sub (fun _ h => List.mem_append_left _ (List.mem_append_right _ h)) (by decide +kernel))
set_option maxRecDepth 20000 in
theorem gL_law_L_sweep : GoodIn wsL_law (va_wsS RL 135 yL_sweep wsL_sweep) := goodIn_app (goodIn_of _ (by decide +kernel)) ggL_law_L_sweep
set_option maxRecDepth 20000 in
theorem ggL_law_X4_sweep : GoodIn wsL_law wsX4_sweep := goodIn_r _ [444, 43, 160, 161, 162, 5, 163, 164, 487, 488, 489, 490, 491, 492, 493, 494, 495, 496, 497, 498, 499, 500] (by decide +kernel) (by decide +kernel)
set_option maxRecDepth 20000 in
theorem gL_law_X4_sweep : GoodIn wsL_law (wsV RL 138 RX4 yX4_sweep wsX4_sweep) := goodIn_app (goodIn_of _ (by decide +kernel)) ggL_law_X4_sweep
set_option maxRecDepth 20000 in
theorem ggL_law_L_step : GoodIn wsL_law wsL_step := goodIn_ca (goodIn_ca (goodIn_r _ [447, 49, 50, 448, 449, 450, 2, 451, 55, 56, 57, 58, 23, 66, 67, 68, 452, 453, 454, 455, 20, 398, 114, 115, 19, 116, 108, 32, 117, 110, 111, 112, 113, 456, 220, 221, 222, 211, 212, 213, 214, 480, 481, 482, 483, 484, 485, 486, 503, 504] (by decide +kernel) (by decide +kernel)) (goodIn_sub (fun _ h => List.mem_append_left _ (List.mem_append_left _ (List.mem_append_right _ h))) (by decide +kernel))) (goodIn_sub (fun _ h => List.mem_append_left _ (List.mem_append_right _ h)) (by decide +kernel))
set_option maxRecDepth 20000 in
theorem gL_law_L_step : GoodIn wsL_law (va_wsS RL 139 yL_step wsL_step) := goodIn_app (goodIn_of _ (by decide +kernel)) ggL_law_L_step
set_option maxRecDepth 20000 in
theorem ggL_law_X4_step : GoodIn wsL_law wsX4_step := goodIn_r _ [460, 43, 148, 42, 153, 154, 5, 155, 160, 161, 162, 163, 164, 240, 241, 242, 243, 487, 488, 489, 490, 491, 492, 493, 494, 495, 496, 497, 498, 499, 500] (by decide +kernel) (by decide +kernel)
set_option maxRecDepth 20000 in
theorem gL_law_X4_step : GoodIn wsL_law (wsV RL 141 RX4 yX4_step wsX4_step) := goodIn_app (goodIn_of _ (by decide +kernel)) ggL_law_X4_step
set_option maxRecDepth 20000 in
theorem ggL_law_X3_sweeping : GoodIn wsL_law wsX3_sweeping := goodIn_r _ [464, 23, 480, 481, 482, 483, 484, 485, 486] (by decide +kernel) (by decide +kernel)
set_option maxRecDepth 20000 in
theorem gL_law_X3_sweeping : GoodIn wsL_law (wsV RL 142 RX3 yX3_sweeping wsX3_sweeping) := goodIn_app (goodIn_of _ (by decide +kernel)) ggL_law_X3_sweeping
set_option maxRecDepth 20000 in
theorem ggL_law_X4_sweeping : GoodIn wsL_law wsX4_sweeping := goodIn_r _ [468, 164, 43, 487, 488, 489, 490, 491, 492, 493, 494, 495, 496, 497, 498, 499, 500] (by decide +kernel) (by decide +kernel)
set_option maxRecDepth 20000 in
theorem gL_law_X4_sweeping : GoodIn wsL_law (wsV RL 145 RX4 yX4_sweeping wsX4_sweeping) := goodIn_app (goodIn_of _ (by decide +kernel)) ggL_law_X4_sweeping
set_option maxRecDepth 20000 in
theorem ggL_law_L_walk : GoodIn wsL_law wsL_walk := goodIn_ca (goodIn_r _ [471, 49, 472, 473, 474, 2, 475, 55, 56, 22, 16, 66, 67, 68, 95, 78, 79, 15, 80, 81, 82, 83, 84, 85, 86, 87, 88, 89, 90, 28, 418, 480, 481, 482, 483, 484, 485, 486, 501, 502, 505, 506, 507, 508, 509] (by decide +kernel) (by decide +kernel)) (goodIn_sub (fun _ h => List.mem_append_left _ (List.mem_append_left _ (List.mem_append_right _ h))) (by decide +kernel))
set_option maxRecDepth 20000 in
theorem gL_law_L_walk : GoodIn wsL_law (va_wsS RL 146 yL_walk wsL_walk) := goodIn_app (goodIn_of _ (by decide +kernel)) ggL_law_L_walk
set_option maxRecDepth 20000 in
theorem ggL_law_X4_walk : GoodIn wsL_law wsX4_walk := goodIn_r _ [479, 147, 37, 44, 153, 154, 5, 155, 160, 161, 162, 163, 164, 487, 488, 489, 490, 491, 492, 493, 494, 495, 496, 497, 498, 499, 500] (by decide +kernel) (by decide +kernel)
set_option maxRecDepth 20000 in
theorem gL_law_X4_walk : GoodIn wsL_law (wsV RL 148 RX4 yX4_walk wsX4_walk) := goodIn_app (goodIn_of _ (by decide +kernel)) ggL_law_X4_walk
theorem dL_law_0 : decode cL_law 0 = .ok (.new 8, 3) := by decide +kernel
theorem dL_law_3 : decode cL_law 3 = .ok (.dup, 1) := by decide +kernel
theorem dL_law_4 : decode cL_law 4 = .ok (.invokespecial 65, 3) := by decide +kernel
theorem dL_law_7 : decode cL_law 7 = .ok (.astore_n 1, 1) := by decide +kernel
theorem dL_law_8 : decode cL_law 8 = .ok (.new 66, 3) := by decide +kernel
theorem dL_law_11 : decode cL_law 11 = .ok (.dup, 1) := by decide +kernel
theorem dL_law_12 : decode cL_law 12 = .ok (.invokespecial 68, 3) := by decide +kernel
theorem dL_law_15 : decode cL_law 15 = .ok (.astore_n 2, 1) := by decide +kernel
theorem dL_law_16 : decode cL_law 16 = .ok (.iconst 1, 1) := by decide +kernel
theorem dL_law_17 : decode cL_law 17 = .ok (.newarray .long, 2) := by decide +kernel
theorem dL_law_19 : decode cL_law 19 = .ok (.astore_n 3, 1) := by decide +kernel
theorem dL_law_20 : decode cL_law 20 = .ok (.iconst 0, 1) := by decide +kernel
theorem dL_law_21 : decode cL_law 21 = .ok (.istore 4, 2) := by decide +kernel
theorem dL_law_23 : decode cL_law 23 = .ok (.iload 4, 2) := by decide +kernel
theorem dL_law_25 : decode cL_law 25 = .ok (.aload_n 0, 1) := by decide +kernel
theorem dL_law_26 : decode cL_law 26 = .ok (.arraylength, 1) := by decide +kernel
theorem dL_law_27 : decode cL_law 27 = .ok (.iconst 4, 1) := by decide +kernel
theorem dL_law_28 : decode cL_law 28 = .ok (.isub, 1) := by decide +kernel
theorem dL_law_29 : decode cL_law 29 = .ok (.if_icmp .gt 1034, 3) := by decide +kernel
theorem dL_law_32 : decode cL_law 32 = .ok (.aload_n 0, 1) := by decide +kernel
theorem dL_law_33 : decode cL_law 33 = .ok (.iload 4, 2) := by decide +kernel
theorem dL_law_35 : decode cL_law 35 = .ok (.iaload, 1) := by decide +kernel
theorem dL_law_36 : decode cL_law 36 = .ok (.bipush 31, 2) := by decide +kernel
theorem dL_law_38 : decode cL_law 38 = .ok (.iand, 1) := by decide +kernel
theorem dL_law_39 : decode cL_law 39 = .ok (.tableswitch 1018 0 20 #[97, 177, 233, 269, 325, 393, 406, 462, 525, 581, 594, 607, 663, 676, 689, 745, 813, 869, 893, 949, 962], 97) := by decide +kernel
theorem dL_law_136 : decode cL_law 136 = .ok (.aload_n 1, 1) := by decide +kernel
theorem dL_law_137 : decode cL_law 137 = .ok (.aload_n 0, 1) := by decide +kernel
theorem dL_law_138 : decode cL_law 138 = .ok (.iload 4, 2) := by decide +kernel
theorem dL_law_140 : decode cL_law 140 = .ok (.iconst 1, 1) := by decide +kernel
theorem dL_law_141 : decode cL_law 141 = .ok (.iadd, 1) := by decide +kernel
theorem dL_law_142 : decode cL_law 142 = .ok (.iaload, 1) := by decide +kernel
theorem dL_law_143 : decode cL_law 143 = .ok (.aload_n 0, 1) := by decide +kernel
theorem dL_law_144 : decode cL_law 144 = .ok (.iload 4, 2) := by decide +kernel
theorem dL_law_146 : decode cL_law 146 = .ok (.iconst 2, 1) := by decide +kernel
theorem dL_law_147 : decode cL_law 147 = .ok (.iadd, 1) := by decide +kernel
theorem dL_law_148 : decode cL_law 148 = .ok (.iaload, 1) := by decide +kernel
theorem dL_law_149 : decode cL_law 149 = .ok (.aload_n 0, 1) := by decide +kernel
theorem dL_law_150 : decode cL_law 150 = .ok (.iload 4, 2) := by decide +kernel
theorem dL_law_152 : decode cL_law 152 = .ok (.iconst 3, 1) := by decide +kernel
theorem dL_law_153 : decode cL_law 153 = .ok (.iadd, 1) := by decide +kernel
theorem dL_law_154 : decode cL_law 154 = .ok (.iaload, 1) := by decide +kernel
theorem dL_law_155 : decode cL_law 155 = .ok (.aload_n 3, 1) := by decide +kernel
theorem dL_law_156 : decode cL_law 156 = .ok (.invokestatic 69, 3) := by decide +kernel
theorem dL_law_159 : decode cL_law 159 = .ok (.istore 5, 2) := by decide +kernel
theorem dL_law_161 : decode cL_law 161 = .ok (.aload_n 2, 1) := by decide +kernel
theorem dL_law_162 : decode cL_law 162 = .ok (.aload_n 0, 1) := by decide +kernel
theorem dL_law_163 : decode cL_law 163 = .ok (.iload 4, 2) := by decide +kernel
theorem dL_law_165 : decode cL_law 165 = .ok (.iconst 1, 1) := by decide +kernel
theorem dL_law_166 : decode cL_law 166 = .ok (.iadd, 1) := by decide +kernel
theorem dL_law_167 : decode cL_law 167 = .ok (.iaload, 1) := by decide +kernel
theorem dL_law_168 : decode cL_law 168 = .ok (.aload_n 0, 1) := by decide +kernel
theorem dL_law_169 : decode cL_law 169 = .ok (.iload 4, 2) := by decide +kernel
theorem dL_law_171 : decode cL_law 171 = .ok (.iconst 2, 1) := by decide +kernel
theorem dL_law_172 : decode cL_law 172 = .ok (.iadd, 1) := by decide +kernel
theorem dL_law_173 : decode cL_law 173 = .ok (.iaload, 1) := by decide +kernel
theorem dL_law_174 : decode cL_law 174 = .ok (.aload_n 0, 1) := by decide +kernel
theorem dL_law_175 : decode cL_law 175 = .ok (.iload 4, 2) := by decide +kernel
theorem dL_law_177 : decode cL_law 177 = .ok (.iconst 3, 1) := by decide +kernel
theorem dL_law_178 : decode cL_law 178 = .ok (.iadd, 1) := by decide +kernel
theorem dL_law_179 : decode cL_law 179 = .ok (.iaload, 1) := by decide +kernel
theorem dL_law_180 : decode cL_law 180 = .ok (.invokevirtual 74, 3) := by decide +kernel
theorem dL_law_183 : decode cL_law 183 = .ok (.istore 6, 2) := by decide +kernel
theorem dL_law_185 : decode cL_law 185 = .ok (.aload_n 2, 1) := by decide +kernel
theorem dL_law_186 : decode cL_law 186 = .ok (.invokevirtual 75, 3) := by decide +kernel
theorem dL_law_189 : decode cL_law 189 = .ok (.iload 5, 2) := by decide +kernel
theorem dL_law_191 : decode cL_law 191 = .ok (.if_icmp .eq 5, 3) := by decide +kernel
theorem dL_law_194 : decode cL_law 194 = .ok (.iconst 0, 1) := by decide +kernel
theorem dL_law_195 : decode cL_law 195 = .ok (.ireturn, 1) := by decide +kernel
theorem dL_law_196 : decode cL_law 196 = .ok (.iload 5, 2) := by decide +kernel
theorem dL_law_198 : decode cL_law 198 = .ok (.ifCond .ne 15, 3) := by decide +kernel
theorem dL_law_201 : decode cL_law 201 = .ok (.aload_n 3, 1) := by decide +kernel
theorem dL_law_202 : decode cL_law 202 = .ok (.iconst 0, 1) := by decide +kernel
theorem dL_law_203 : decode cL_law 203 = .ok (.laload, 1) := by decide +kernel
