theorem dL_arePagesSo_29 : decode cL_arePagesSo 29 = .ok (.iload 6, 2) := by decide +kernel
theorem dL_arePagesSo_31 : decode cL_arePagesSo 31 = .ok (.iconst 1, 1) := by decide +kernel
theorem dL_arePagesSo_32 : decode cL_arePagesSo 32 = .ok (.if_icmp .lt 9, 3) := by decide +kernel
theorem dL_arePagesSo_35 : decode cL_arePagesSo 35 = .ok (.iload 6, 2) := by decide +kernel
theorem dL_arePagesSo_37 : decode cL_arePagesSo 37 = .ok (.iconst 4, 1) := by decide +kernel
theorem dL_arePagesSo_38 : decode cL_arePagesSo 38 = .ok (.if_icmp .le 5, 3) := by decide +kernel
theorem dL_arePagesSo_41 : decode cL_arePagesSo 41 = .ok (.iconst 0, 1) := by decide +kernel
theorem dL_arePagesSo_42 : decode cL_arePagesSo 42 = .ok (.ireturn, 1) := by decide +kernel
theorem dL_arePagesSo_43 : decode cL_arePagesSo 43 = .ok (.iconst 0, 1) := by decide +kernel
theorem dL_arePagesSo_44 : decode cL_arePagesSo 44 = .ok (.istore 7, 2) := by decide +kernel
theorem dL_arePagesSo_46 : decode cL_arePagesSo 46 = .ok (.iload 7, 2) := by decide +kernel
theorem dL_arePagesSo_48 : decode cL_arePagesSo 48 = .ok (.iload 6, 2) := by decide +kernel
theorem dL_arePagesSo_50 : decode cL_arePagesSo 50 = .ok (.if_icmp .ge 60, 3) := by decide +kernel
theorem dL_arePagesSo_53 : decode cL_arePagesSo 53 = .ok (.aload_n 0, 1) := by decide +kernel
theorem dL_arePagesSo_54 : decode cL_arePagesSo 54 = .ok (.iload 5, 2) := by decide +kernel
theorem dL_arePagesSo_56 : decode cL_arePagesSo 56 = .ok (.iload 7, 2) := by decide +kernel
theorem dL_arePagesSo_58 : decode cL_arePagesSo 58 = .ok (.invokevirtual 58, 3) := by decide +kernel
theorem dL_arePagesSo_61 : decode cL_arePagesSo 61 = .ok (.istore 8, 2) := by decide +kernel
theorem dL_arePagesSo_63 : decode cL_arePagesSo 63 = .ok (.iload 8, 2) := by decide +kernel
theorem dL_arePagesSo_65 : decode cL_arePagesSo 65 = .ok (.iload_n 1, 1) := by decide +kernel
theorem dL_arePagesSo_66 : decode cL_arePagesSo 66 = .ok (.if_icmp .le 24, 3) := by decide +kernel
theorem dL_arePagesSo_69 : decode cL_arePagesSo 69 = .ok (.aload_n 0, 1) := by decide +kernel
theorem dL_arePagesSo_70 : decode cL_arePagesSo 70 = .ok (.iload 8, 2) := by decide +kernel
theorem dL_arePagesSo_72 : decode cL_arePagesSo 72 = .ok (.invokevirtual 102, 3) := by decide +kernel
theorem dL_arePagesSo_75 : decode cL_arePagesSo 75 = .ok (.iload 5, 2) := by decide +kernel
theorem dL_arePagesSo_77 : decode cL_arePagesSo 77 = .ok (.if_icmp .ne 13, 3) := by decide +kernel
theorem dL_arePagesSo_80 : decode cL_arePagesSo 80 = .ok (.aload_n 0, 1) := by decide +kernel
theorem dL_arePagesSo_81 : decode cL_arePagesSo 81 = .ok (.iload 8, 2) := by decide +kernel
theorem dL_arePagesSo_83 : decode cL_arePagesSo 83 = .ok (.invokevirtual 105, 3) := by decide +kernel
theorem dL_arePagesSo_86 : decode cL_arePagesSo 86 = .ok (.iconst 1, 1) := by decide +kernel
theorem dL_arePagesSo_87 : decode cL_arePagesSo 87 = .ok (.if_icmp .ge 5, 3) := by decide +kernel
theorem dL_arePagesSo_90 : decode cL_arePagesSo 90 = .ok (.iconst 0, 1) := by decide +kernel
theorem dL_arePagesSo_91 : decode cL_arePagesSo 91 = .ok (.ireturn, 1) := by decide +kernel
theorem dL_arePagesSo_92 : decode cL_arePagesSo 92 = .ok (.iload 8, 2) := by decide +kernel
theorem dL_arePagesSo_94 : decode cL_arePagesSo 94 = .ok (.istore_n 1, 1) := by decide +kernel
theorem dL_arePagesSo_95 : decode cL_arePagesSo 95 = .ok (.iload_n 3, 1) := by decide +kernel
theorem dL_arePagesSo_96 : decode cL_arePagesSo 96 = .ok (.aload_n 0, 1) := by decide +kernel
theorem dL_arePagesSo_97 : decode cL_arePagesSo 97 = .ok (.iload 8, 2) := by decide +kernel
theorem dL_arePagesSo_99 : decode cL_arePagesSo 99 = .ok (.invokevirtual 105, 3) := by decide +kernel
theorem dL_arePagesSo_102 : decode cL_arePagesSo 102 = .ok (.iadd, 1) := by decide +kernel
theorem dL_arePagesSo_103 : decode cL_arePagesSo 103 = .ok (.istore_n 3, 1) := by decide +kernel
theorem dL_arePagesSo_104 : decode cL_arePagesSo 104 = .ok (.iinc 7 1, 3) := by decide +kernel
theorem dL_arePagesSo_107 : decode cL_arePagesSo 107 = .ok (.goto (-61), 3) := by decide +kernel
theorem dL_arePagesSo_110 : decode cL_arePagesSo 110 = .ok (.iload_n 2, 1) := by decide +kernel
theorem dL_arePagesSo_111 : decode cL_arePagesSo 111 = .ok (.iload 6, 2) := by decide +kernel
theorem dL_arePagesSo_113 : decode cL_arePagesSo 113 = .ok (.iadd, 1) := by decide +kernel
theorem dL_arePagesSo_114 : decode cL_arePagesSo 114 = .ok (.istore_n 2, 1) := by decide +kernel
theorem dL_arePagesSo_115 : decode cL_arePagesSo 115 = .ok (.iinc 5 1, 3) := by decide +kernel
theorem dL_arePagesSo_118 : decode cL_arePagesSo 118 = .ok (.goto (-106), 3) := by decide +kernel
theorem dL_arePagesSo_121 : decode cL_arePagesSo 121 = .ok (.iconst 0, 1) := by decide +kernel
theorem dL_arePagesSo_122 : decode cL_arePagesSo 122 = .ok (.istore 5, 2) := by decide +kernel
theorem dL_arePagesSo_124 : decode cL_arePagesSo 124 = .ok (.iload 5, 2) := by decide +kernel
theorem dL_arePagesSo_126 : decode cL_arePagesSo 126 = .ok (.bipush 10, 2) := by decide +kernel
theorem dL_arePagesSo_128 : decode cL_arePagesSo 128 = .ok (.if_icmp .ge 20, 3) := by decide +kernel
theorem dL_arePagesSo_131 : decode cL_arePagesSo 131 = .ok (.iload 4, 2) := by decide +kernel
theorem dL_arePagesSo_133 : decode cL_arePagesSo 133 = .ok (.aload_n 0, 1) := by decide +kernel
theorem dL_arePagesSo_134 : decode cL_arePagesSo 134 = .ok (.iload 5, 2) := by decide +kernel
theorem dL_arePagesSo_136 : decode cL_arePagesSo 136 = .ok (.invokevirtual 108, 3) := by decide +kernel
theorem dL_arePagesSo_139 : decode cL_arePagesSo 139 = .ok (.iadd, 1) := by decide +kernel
theorem dL_arePagesSo_140 : decode cL_arePagesSo 140 = .ok (.istore 4, 2) := by decide +kernel
theorem dL_arePagesSo_142 : decode cL_arePagesSo 142 = .ok (.iinc 5 1, 3) := by decide +kernel
theorem dL_arePagesSo_145 : decode cL_arePagesSo 145 = .ok (.goto (-21), 3) := by decide +kernel
theorem dL_arePagesSo_148 : decode cL_arePagesSo 148 = .ok (.iload_n 2, 1) := by decide +kernel
theorem dL_arePagesSo_149 : decode cL_arePagesSo 149 = .ok (.aload_n 0, 1) := by decide +kernel
theorem dL_arePagesSo_150 : decode cL_arePagesSo 150 = .ok (.invokevirtual 90, 3) := by decide +kernel
theorem dL_arePagesSo_153 : decode cL_arePagesSo 153 = .ok (.if_icmp .ne 37, 3) := by decide +kernel
theorem dL_arePagesSo_156 : decode cL_arePagesSo 156 = .ok (.iload_n 3, 1) := by decide +kernel
theorem dL_arePagesSo_157 : decode cL_arePagesSo 157 = .ok (.iload 4, 2) := by decide +kernel
theorem dL_arePagesSo_159 : decode cL_arePagesSo 159 = .ok (.if_icmp .ne 31, 3) := by decide +kernel
theorem dL_arePagesSo_162 : decode cL_arePagesSo 162 = .ok (.aload_n 0, 1) := by decide +kernel
theorem dL_arePagesSo_163 : decode cL_arePagesSo 163 = .ok (.invokevirtual 46, 3) := by decide +kernel
theorem dL_arePagesSo_166 : decode cL_arePagesSo 166 = .ok (.ifCond .ne 7, 3) := by decide +kernel
theorem dL_arePagesSo_169 : decode cL_arePagesSo 169 = .ok (.iconst 1, 1) := by decide +kernel
theorem dL_arePagesSo_170 : decode cL_arePagesSo 170 = .ok (.goto 4, 3) := by decide +kernel
theorem dL_arePagesSo_173 : decode cL_arePagesSo 173 = .ok (.iconst 0, 1) := by decide +kernel
theorem dL_arePagesSo_174 : decode cL_arePagesSo 174 = .ok (.iload_n 2, 1) := by decide +kernel
theorem dL_arePagesSo_175 : decode cL_arePagesSo 175 = .ok (.ifCond .ne 7, 3) := by decide +kernel
theorem dL_arePagesSo_178 : decode cL_arePagesSo 178 = .ok (.iconst 1, 1) := by decide +kernel
theorem dL_arePagesSo_179 : decode cL_arePagesSo 179 = .ok (.goto 4, 3) := by decide +kernel
theorem dL_arePagesSo_182 : decode cL_arePagesSo 182 = .ok (.iconst 0, 1) := by decide +kernel
theorem dL_arePagesSo_183 : decode cL_arePagesSo 183 = .ok (.if_icmp .ne 7, 3) := by decide +kernel
theorem dL_arePagesSo_186 : decode cL_arePagesSo 186 = .ok (.iconst 1, 1) := by decide +kernel
theorem dL_arePagesSo_187 : decode cL_arePagesSo 187 = .ok (.goto 4, 3) := by decide +kernel
theorem dL_arePagesSo_190 : decode cL_arePagesSo 190 = .ok (.iconst 0, 1) := by decide +kernel
theorem dL_arePagesSo_191 : decode cL_arePagesSo 191 = .ok (.ireturn, 1) := by decide +kernel
set_option maxRecDepth 20000 in
theorem ggL_isWalked_X3_walk : GoodIn wsL_isWalked wsX3_walk := goodIn_ca (goodIn_r _ [5, 6, 7, 8, 9, 10, 11, 4, 12, 13, 14, 15, 16, 17, 18, 19, 20, 21, 22, 23, 24, 25, 26, 27, 28, 29, 66, 67, 68, 69, 70, 71, 72, 73, 74, 75, 76, 77, 78, 79] (by decide +kernel) (by decide +kernel)) (goodIn_sub (fun _ h => List.mem_cons_of_mem _ (List.mem_append_right _ h)) (by decide +kernel))
set_option maxRecDepth 20000 in
theorem gL_isWalked_X3_walk : GoodIn wsL_isWalked (wsV RL 43 RX3 yX3_walk wsX3_walk) := goodIn_app (goodIn_of _ (by decide +kernel)) ggL_isWalked_X3_walk
set_option maxRecDepth 20000 in
theorem ggL_isWalked_X3_records : GoodIn wsL_isWalked wsX3_records := goodIn_r _ [33, 9, 34, 35, 36, 16, 37, 18, 66, 67, 68, 69, 70, 71, 72, 73, 74] (by decide +kernel) (by decide +kernel)
set_option maxRecDepth 20000 in
theorem gL_isWalked_X3_records : GoodIn wsL_isWalked (wsV RL 90 RX3 yX3_records wsX3_records) := goodIn_app (goodIn_of _ (by decide +kernel)) ggL_isWalked_X3_records
set_option maxRecDepth 20000 in
theorem ggL_isWalked_X3_pageOf : GoodIn wsL_isWalked wsX3_pageOf := goodIn_ca (goodIn_r _ [41, 42, 9, 43, 44, 4, 45, 6, 7, 10, 11, 12, 46, 47, 48, 16, 49, 50, 14, 15, 17, 18, 19, 20, 21, 22, 23, 24, 25, 26, 27, 28, 51, 52, 53, 54, 55, 56, 57, 58, 59, 60, 61, 62, 63, 64, 65, 66, 67, 68, 69, 70, 71, 72, 73, 74, 75, 76, 77, 78, 79, 80, 81] (by decide +kernel) (by decide +kernel)) (goodIn_sub (fun _ h => List.mem_cons_of_mem _ (List.mem_append_right _ h)) (by decide +kernel))
set_option maxRecDepth 20000 in
theorem gL_isWalked_X3_pageOf : GoodIn wsL_isWalked (wsV RL 102 RX3 yX3_pageOf wsX3_pageOf) := goodIn_app (goodIn_of _ (by decide +kernel)) ggL_isWalked_X3_pageOf
theorem dL_isWalked_0 : decode cL_isWalked 0 = .ok (.iconst 0, 1) := by decide +kernel
theorem dL_isWalked_1 : decode cL_isWalked 1 = .ok (.istore_n 3, 1) := by decide +kernel
theorem dL_isWalked_2 : decode cL_isWalked 2 = .ok (.iload_n 3, 1) := by decide +kernel
theorem dL_isWalked_3 : decode cL_isWalked 3 = .ok (.bipush 100, 2) := by decide +kernel
theorem dL_isWalked_5 : decode cL_isWalked 5 = .ok (.if_icmp .ge 17, 3) := by decide +kernel
theorem dL_isWalked_8 : decode cL_isWalked 8 = .ok (.aload_n 0, 1) := by decide +kernel
theorem dL_isWalked_9 : decode cL_isWalked 9 = .ok (.iload_n 2, 1) := by decide +kernel
theorem dL_isWalked_10 : decode cL_isWalked 10 = .ok (.invokevirtual 43, 3) := by decide +kernel
theorem dL_isWalked_13 : decode cL_isWalked 13 = .ok (.ifCond .lt 9, 3) := by decide +kernel
theorem dL_isWalked_16 : decode cL_isWalked 16 = .ok (.iinc 3 1, 3) := by decide +kernel
theorem dL_isWalked_19 : decode cL_isWalked 19 = .ok (.goto (-17), 3) := by decide +kernel
theorem dL_isWalked_22 : decode cL_isWalked 22 = .ok (.iconst 0, 1) := by decide +kernel
theorem dL_isWalked_23 : decode cL_isWalked 23 = .ok (.istore 4, 2) := by decide +kernel
theorem dL_isWalked_25 : decode cL_isWalked 25 = .ok (.iload 4, 2) := by decide +kernel
theorem dL_isWalked_27 : decode cL_isWalked 27 = .ok (.iload_n 3, 1) := by decide +kernel
theorem dL_isWalked_28 : decode cL_isWalked 28 = .ok (.if_icmp .gt 16, 3) := by decide +kernel
theorem dL_isWalked_31 : decode cL_isWalked 31 = .ok (.aload_n 1, 1) := by decide +kernel
theorem dL_isWalked_32 : decode cL_isWalked 32 = .ok (.iload_n 2, 1) := by decide +kernel
theorem dL_isWalked_33 : decode cL_isWalked 33 = .ok (.invokevirtual 43, 3) := by decide +kernel
theorem dL_isWalked_36 : decode cL_isWalked 36 = .ok (.istore 5, 2) := by decide +kernel
theorem dL_isWalked_38 : decode cL_isWalked 38 = .ok (.iinc 4 1, 3) := by decide +kernel
theorem dL_isWalked_41 : decode cL_isWalked 41 = .ok (.goto (-16), 3) := by decide +kernel
theorem dL_isWalked_44 : decode cL_isWalked 44 = .ok (.iconst (-1), 1) := by decide +kernel
theorem dL_isWalked_45 : decode cL_isWalked 45 = .ok (.istore 4, 2) := by decide +kernel
theorem dL_isWalked_47 : decode cL_isWalked 47 = .ok (.iconst 0, 1) := by decide +kernel
theorem dL_isWalked_48 : decode cL_isWalked 48 = .ok (.istore 5, 2) := by decide +kernel
theorem dL_isWalked_50 : decode cL_isWalked 50 = .ok (.iload 5, 2) := by decide +kernel
theorem dL_isWalked_52 : decode cL_isWalked 52 = .ok (.aload_n 0, 1) := by decide +kernel
theorem dL_isWalked_53 : decode cL_isWalked 53 = .ok (.invokevirtual 90, 3) := by decide +kernel
theorem dL_isWalked_56 : decode cL_isWalked 56 = .ok (.if_icmp .ge 48, 3) := by decide +kernel
theorem dL_isWalked_59 : decode cL_isWalked 59 = .ok (.aload_n 0, 1) := by decide +kernel
theorem dL_isWalked_60 : decode cL_isWalked 60 = .ok (.iload_n 2, 1) := by decide +kernel
theorem dL_isWalked_61 : decode cL_isWalked 61 = .ok (.invokevirtual 43, 3) := by decide +kernel
theorem dL_isWalked_64 : decode cL_isWalked 64 = .ok (.istore 6, 2) := by decide +kernel
theorem dL_isWalked_66 : decode cL_isWalked 66 = .ok (.iload 6, 2) := by decide +kernel
theorem dL_isWalked_68 : decode cL_isWalked 68 = .ok (.iload 4, 2) := by decide +kernel
theorem dL_isWalked_70 : decode cL_isWalked 70 = .ok (.if_icmp .le 22, 3) := by decide +kernel
theorem dL_isWalked_73 : decode cL_isWalked 73 = .ok (.aload_n 0, 1) := by decide +kernel
theorem dL_isWalked_74 : decode cL_isWalked 74 = .ok (.iload 6, 2) := by decide +kernel
theorem dL_isWalked_76 : decode cL_isWalked 76 = .ok (.invokevirtual 102, 3) := by decide +kernel
theorem dL_isWalked_79 : decode cL_isWalked 79 = .ok (.ifCond .lt 13, 3) := by decide +kernel
theorem dL_isWalked_82 : decode cL_isWalked 82 = .ok (.aload_n 1, 1) := by decide +kernel
theorem dL_isWalked_83 : decode cL_isWalked 83 = .ok (.iload_n 2, 1) := by decide +kernel
theorem dL_isWalked_84 : decode cL_isWalked 84 = .ok (.invokevirtual 43, 3) := by decide +kernel
theorem dL_isWalked_87 : decode cL_isWalked 87 = .ok (.iload 6, 2) := by decide +kernel
theorem dL_isWalked_89 : decode cL_isWalked 89 = .ok (.if_icmp .eq 5, 3) := by decide +kernel
theorem dL_isWalked_92 : decode cL_isWalked 92 = .ok (.iconst 0, 1) := by decide +kernel
theorem dL_isWalked_93 : decode cL_isWalked 93 = .ok (.ireturn, 1) := by decide +kernel
theorem dL_isWalked_94 : decode cL_isWalked 94 = .ok (.iload 6, 2) := by decide +kernel
theorem dL_isWalked_96 : decode cL_isWalked 96 = .ok (.istore 4, 2) := by decide +kernel
theorem dL_isWalked_98 : decode cL_isWalked 98 = .ok (.iinc 5 1, 3) := by decide +kernel
theorem dL_isWalked_101 : decode cL_isWalked 101 = .ok (.goto (-51), 3) := by decide +kernel
theorem dL_isWalked_104 : decode cL_isWalked 104 = .ok (.aload_n 0, 1) := by decide +kernel
theorem dL_isWalked_105 : decode cL_isWalked 105 = .ok (.iload_n 2, 1) := by decide +kernel
theorem dL_isWalked_106 : decode cL_isWalked 106 = .ok (.invokevirtual 43, 3) := by decide +kernel
theorem dL_isWalked_109 : decode cL_isWalked 109 = .ok (.iconst (-1), 1) := by decide +kernel
theorem dL_isWalked_110 : decode cL_isWalked 110 = .ok (.if_icmp .ne 16, 3) := by decide +kernel
theorem dL_isWalked_113 : decode cL_isWalked 113 = .ok (.aload_n 1, 1) := by decide +kernel
theorem dL_isWalked_114 : decode cL_isWalked 114 = .ok (.iload_n 2, 1) := by decide +kernel
theorem dL_isWalked_115 : decode cL_isWalked 115 = .ok (.invokevirtual 43, 3) := by decide +kernel
theorem dL_isWalked_118 : decode cL_isWalked 118 = .ok (.iconst (-1), 1) := by decide +kernel
theorem dL_isWalked_119 : decode cL_isWalked 119 = .ok (.if_icmp .ne 7, 3) := by decide +kernel
theorem dL_isWalked_122 : decode cL_isWalked 122 = .ok (.iconst 1, 1) := by decide +kernel
theorem dL_isWalked_123 : decode cL_isWalked 123 = .ok (.goto 4, 3) := by decide +kernel
theorem dL_isWalked_126 : decode cL_isWalked 126 = .ok (.iconst 0, 1) := by decide +kernel
theorem dL_isWalked_127 : decode cL_isWalked 127 = .ok (.ireturn, 1) := by decide +kernel
set_option maxRecDepth 20000 in
theorem ggL_law_X3_init : GoodIn wsL_law wsX3_init := goodIn_r _ [6, 7, 8, 9, 10, 11, 12, 13, 14, 15, 16, 17, 18, 19, 20, 21, 22, 23, 24, 25, 26, 27, 28, 29, 323, 324, 316, 317, 318, 319, 320, 321, 322, 325, 326] (by decide +kernel) (by decide +kernel)
set_option maxRecDepth 20000 in
theorem gL_law_X3_init : GoodIn wsL_law (wsX3_init) := ggL_law_X3_init
set_option maxRecDepth 20000 in
theorem ggL_law_L_cell : GoodIn wsL_law wsL_cell := goodIn_r _ [33] (by decide +kernel) (by decide +kernel)
set_option maxRecDepth 20000 in
theorem gL_law_L_cell : GoodIn wsL_law (va_wsS RL 112 yL_cell wsL_cell) := goodIn_app (goodIn_of _ (by decide +kernel)) ggL_law_L_cell
set_option maxRecDepth 20000 in
theorem ggL_law_X3_records : GoodIn wsL_law wsX3_records := goodIn_r _ [37, 13, 38, 39, 40, 12, 41, 42, 316, 317, 318, 319, 320, 321, 322, 323, 324] (by decide +kernel) (by decide +kernel)
set_option maxRecDepth 20000 in
theorem gL_law_X3_records : GoodIn wsL_law (wsV RL 90 RX3 yX3_records wsX3_records) := goodIn_app (goodIn_of _ (by decide +kernel)) ggL_law_X3_records
set_option maxRecDepth 20000 in
theorem ggL_law_L_act : GoodIn wsL_law wsL_act := goodIn_ca (goodIn_ca (goodIn_ca (goodIn_r _ [45, 46, 47, 32, 48, 49, 50, 51, 52, 53, 54, 55, 2, 56, 17, 57, 58, 59, 16, 60, 61, 62, 63, 64, 65, 66, 67, 68, 69, 70, 71, 29, 72, 73, 74, 75, 76, 77, 78, 79, 80, 13, 81, 82, 83, 84, 85, 86, 87, 88, 89, 90, 91, 12, 92, 93, 94, 95, 96, 97, 42, 25, 98, 99, 100, 101, 102, 3, 103, 104, 105, 106, 107, 108, 109, 110, 111, 112, 113, 114, 115, 116, 117, 118, 119, 120, 121, 122, 123, 124, 125, 126, 127, 128, 129, 130, 131, 132, 133, 134, 135, 136, 137, 138, 139, 20, 140, 141, 142, 143, 144, 145, 146, 147, 148, 149, 150, 151, 152, 153, 154, 155, 156, 157, 158, 159, 160, 161, 162, 163, 164, 165, 166, 167, 168, 169, 170, 171, 172, 173, 174, 175, 176, 177, 178, 179, 180, 181, 182, 183, 184, 185, 186, 187, 188, 189, 190, 38, 39, 40, 41, 191, 192, 193, 194, 195, 196, 197, 198, 199, 200, 201, 202, 203, 204, 205, 206, 207, 208, 209, 210, 211, 212, 213, 214, 215, 216, 217, 218, 219, 220, 221, 222, 223, 224, 225, 226, 227, 228, 229, 230, 231, 232, 233, 234, 235, 236, 237, 238, 239, 240, 19, 241, 242, 243, 244, 245, 246, 247, 248, 249, 250, 251, 252, 253, 254, 255, 256, 257, 258, 259, 260, 261, 262, 263, 264, 265, 266, 267, 268, 269, 270, 8, 9, 271, 272, 273, 274, 275, 276, 316, 317, 318, 319, 320, 321, 322, 325, 326, 327, 328, 329, 330, 331, 323, 324] (by decide +kernel) (by decide +kernel)) (goodIn_sub (fun _ h => List.mem_append_left _ (List.mem_append_left _ (List.mem_append_right _ h))) (by decide +kernel))) (goodIn_sub (fun _ h => List.mem_append_left _ (List.mem_append_right _ h)) (by decide +kernel))) (goodIn_sub (fun _ h => List.mem_append_right _ h) (by decide +kernel))
set_option maxRecDepth 20000 in
theorem gL_law_L_act : GoodIn wsL_law (va_wsS RL 116 yL_act wsL_act) := goodIn_app (goodIn_of _ (by decide +kernel)) ggL_law_L_act
set_option maxRecDepth 20000 in
theorem ggL_law_L_areAlike : GoodIn wsL_law wsL_areAlike := goodIn_ca (goodIn_r _ [279, 34, 35, 36, 2, 37, 13, 38, 39, 40, 12, 41, 42, 53, 54, 55, 56, 17, 57, 58, 59, 16, 60, 61, 280, 281, 282, 283, 210, 284, 285, 286, 287, 109, 180, 181, 182, 183, 171, 288, 289, 290, 291, 20, 62, 63, 64, 65, 66, 67, 68, 69, 70, 71, 29, 72, 73, 74, 75, 76, 77, 78, 79, 80, 81, 82, 83, 84, 85, 86, 87, 88, 89, 90, 91, 92, 93, 94, 95, 96, 97, 25, 316, 317, 318, 319, 320, 321, 322, 323, 324, 325, 326, 327, 328, 329, 330, 331] (by decide +kernel) (by decide +kernel)) (goodIn_sub (fun _ h => List.mem_append_left _ (List.mem_append_left _ (List.mem_append_right _ h))) (by decide +kernel))
set_option maxRecDepth 20000 in
theorem gL_law_L_areAlike : GoodIn wsL_law (va_wsS RL 119 yL_areAlike wsL_areAlike) := goodIn_app (goodIn_of _ (by decide +kernel)) ggL_law_L_areAlike
set_option maxRecDepth 20000 in
theorem ggL_law_L_arePagesSo : GoodIn wsL_law wsL_arePagesSo := goodIn_ca (goodIn_ca (goodIn_r _ [294, 53, 54, 55, 2, 56, 17, 57, 58, 59, 16, 60, 61, 62, 63, 64, 65, 66, 67, 68, 69, 70, 71, 29, 72, 73, 74, 75, 76, 77, 78, 79, 80, 13, 81, 82, 83, 84, 85, 86, 87, 88, 89, 90, 91, 12, 92, 93, 94, 95, 96, 97, 42, 25, 295, 296, 297, 298, 111, 112, 113, 114, 115, 135, 121, 122, 123, 124, 125, 126, 127, 128, 140, 141, 142, 143, 299, 300, 301, 302, 110, 116, 117, 118, 119, 120, 303, 304, 305, 306, 307, 308, 309, 310, 311, 312, 34, 35, 36, 37, 38, 39, 40, 41, 316, 317, 318, 319, 320, 321, 322, 325, 326, 327, 328, 329, 330, 331, 323, 324] (by decide +kernel) (by decide +kernel)) (goodIn_sub (fun _ h => List.mem_append_left _ (List.mem_append_left _ (List.mem_append_right _ h))) (by decide +kernel))) (goodIn_sub (fun _ h => List.mem_append_right _ h) (by decide +kernel))
set_option maxRecDepth 20000 in
theorem gL_law_L_arePagesSo : GoodIn wsL_law (va_wsS RL 123 yL_arePagesSo wsL_arePagesSo) := goodIn_app (goodIn_of _ (by decide +kernel)) ggL_law_L_arePagesSo
set_option maxRecDepth 20000 in
theorem ggL_law_L_low : GoodIn wsL_law wsL_low := goodIn_r _ [48, 49] (by decide +kernel) (by decide +kernel)
set_option maxRecDepth 20000 in
theorem gL_law_L_low : GoodIn wsL_law (va_wsS RL 50 yL_low wsL_low) := goodIn_app (goodIn_of _ (by decide +kernel)) ggL_law_L_low
set_option maxRecDepth 20000 in
theorem ggL_law_L_isWalked : GoodIn wsL_law wsL_isWalked := goodIn_ca (goodIn_r _ [315, 237, 238, 239, 2, 240, 114, 115, 19, 13, 81, 82, 83, 241, 125, 126, 12, 127, 42, 128, 90, 91, 92, 93, 94, 95, 96, 97, 25, 89, 34, 35, 36, 37, 38, 39, 40, 41, 295, 296, 297, 298, 17, 111, 112, 113, 135, 121, 122, 123, 124, 140, 141, 142, 16, 143, 61, 88, 73, 74, 75, 29, 76, 69, 70, 71, 316, 317, 318, 319, 320, 321, 322, 323, 324, 327, 328, 329, 330, 331, 325, 326] (by decide +kernel) (by decide +kernel)) (goodIn_sub (fun _ h => List.mem_append_right _ h) (by decide +kernel))
set_option maxRecDepth 20000 in
theorem gL_law_L_isWalked : GoodIn wsL_law (va_wsS RL 127 yL_isWalked wsL_isWalked) := goodIn_app (goodIn_of _ (by decide +kernel)) ggL_law_L_isWalked
set_option maxRecDepth 20000 in
theorem ggL_law_X3_sweeping : GoodIn wsL_law wsX3_sweeping := goodIn_r _ [291, 20, 316, 317, 318, 319, 320, 321, 322] (by decide +kernel) (by decide +kernel)
set_option maxRecDepth 20000 in
theorem gL_law_X3_sweeping : GoodIn wsL_law (wsV RL 99 RX3 yX3_sweeping wsX3_sweeping) := goodIn_app (goodIn_of _ (by decide +kernel)) ggL_law_X3_sweeping
set_option maxRecDepth 20000 in
theorem ggL_law_L_sweep : GoodIn wsL_law wsL_sweep := goodIn_ca (goodIn_r _ [217, 102, 3, 218, 219, 220, 2, 221, 107, 108, 20, 316, 317, 318, 319, 320, 321, 322] (by decide +kernel) (by decide +kernel)) (goodIn_sub (fun _ h => List.mem_append_left _ (List.mem_append_right _ h)) (by decide +kernel))
set_option maxRecDepth 20000 in
theorem gL_law_L_sweep : GoodIn wsL_law (va_wsS RL 80 yL_sweep wsL_sweep) := goodIn_app (goodIn_of _ (by decide +kernel)) ggL_law_L_sweep
set_option maxRecDepth 20000 in
theorem ggL_law_X3_step : GoodIn wsL_law wsX3_step := goodIn_ca (goodIn_ca (goodIn_r _ [228, 114, 115, 107, 108, 20, 81, 82, 2, 83, 229, 230, 231, 232, 17, 68, 69, 70, 16, 71, 61, 29, 72, 73, 74, 75, 76, 233, 157, 158, 159, 148, 149, 150, 151, 316, 317, 318, 319, 320, 321, 322, 325, 326] (by decide +kernel) (by decide +kernel)) (goodIn_sub (fun _ h => List.mem_append_right _ h) (by decide +kernel))) (goodIn_sub (fun _ h => List.mem_append_left _ (List.mem_append_right _ h)) (by decide +kernel))
set_option maxRecDepth 20000 in
theorem gL_law_X3_step : GoodIn wsL_law (wsV RL 40 RX3 yX3_step wsX3_step) := goodIn_app (goodIn_of _ (by decide +kernel)) ggL_law_X3_step
set_option maxRecDepth 20000 in
theorem ggL_law_X3_pages : GoodIn wsL_law wsX3_pages := goodIn_r _ [56, 17, 57, 58, 59, 16, 60, 61, 316, 317, 318, 319, 320, 321, 322, 325, 326] (by decide +kernel) (by decide +kernel)
set_option maxRecDepth 20000 in
theorem gL_law_X3_pages : GoodIn wsL_law (wsV RL 46 RX3 yX3_pages wsX3_pages) := goodIn_app (goodIn_of _ (by decide +kernel)) ggL_law_X3_pages
set_option maxRecDepth 20000 in
theorem ggL_law_X3_size : GoodIn wsL_law wsX3_size := goodIn_ca (goodIn_r _ [65, 66, 67, 17, 68, 69, 70, 16, 71, 61, 29, 72, 73, 74, 75, 76, 316, 317, 318, 319, 320, 321, 322, 325, 326] (by decide +kernel) (by decide +kernel)) (goodIn_sub (fun _ h => List.mem_append_left _ (List.mem_append_left _ (List.mem_append_right _ h))) (by decide +kernel))
set_option maxRecDepth 20000 in
theorem gL_law_X3_size : GoodIn wsL_law (wsV RL 55 RX3 yX3_size wsX3_size) := goodIn_app (goodIn_of _ (by decide +kernel)) ggL_law_X3_size
theorem dL_law_0 : decode cL_law 0 = .ok (.new 9, 3) := by decide +kernel
theorem dL_law_3 : decode cL_law 3 = .ok (.dup, 1) := by decide +kernel
theorem dL_law_4 : decode cL_law 4 = .ok (.invokespecial 111, 3) := by decide +kernel
theorem dL_law_7 : decode cL_law 7 = .ok (.astore_n 1, 1) := by decide +kernel
theorem dL_law_8 : decode cL_law 8 = .ok (.new 9, 3) := by decide +kernel
theorem dL_law_11 : decode cL_law 11 = .ok (.dup, 1) := by decide +kernel
theorem dL_law_12 : decode cL_law 12 = .ok (.invokespecial 111, 3) := by decide +kernel
theorem dL_law_15 : decode cL_law 15 = .ok (.astore_n 2, 1) := by decide +kernel
theorem dL_law_16 : decode cL_law 16 = .ok (.iconst 0, 1) := by decide +kernel
theorem dL_law_17 : decode cL_law 17 = .ok (.istore_n 3, 1) := by decide +kernel
theorem dL_law_18 : decode cL_law 18 = .ok (.iconst 0, 1) := by decide +kernel
theorem dL_law_19 : decode cL_law 19 = .ok (.istore 4, 2) := by decide +kernel
theorem dL_law_21 : decode cL_law 21 = .ok (.iload 4, 2) := by decide +kernel
theorem dL_law_23 : decode cL_law 23 = .ok (.bipush 110, 2) := by decide +kernel
theorem dL_law_25 : decode cL_law 25 = .ok (.if_icmp .ge 131, 3) := by decide +kernel
theorem dL_law_28 : decode cL_law 28 = .ok (.aload_n 0, 1) := by decide +kernel
theorem dL_law_29 : decode cL_law 29 = .ok (.iload 4, 2) := by decide +kernel
theorem dL_law_31 : decode cL_law 31 = .ok (.invokestatic 112, 3) := by decide +kernel
theorem dL_law_34 : decode cL_law 34 = .ok (.istore 5, 2) := by decide +kernel
theorem dL_law_36 : decode cL_law 36 = .ok (.aload_n 1, 1) := by decide +kernel
theorem dL_law_37 : decode cL_law 37 = .ok (.invokevirtual 90, 3) := by decide +kernel
theorem dL_law_40 : decode cL_law 40 = .ok (.istore 6, 2) := by decide +kernel
theorem dL_law_42 : decode cL_law 42 = .ok (.aload_n 1, 1) := by decide +kernel
theorem dL_law_43 : decode cL_law 43 = .ok (.iload 5, 2) := by decide +kernel
theorem dL_law_45 : decode cL_law 45 = .ok (.invokestatic 116, 3) := by decide +kernel
theorem dL_law_48 : decode cL_law 48 = .ok (.istore 7, 2) := by decide +kernel
theorem dL_law_50 : decode cL_law 50 = .ok (.iload 7, 2) := by decide +kernel
theorem dL_law_52 : decode cL_law 52 = .ok (.ldc 16, 2) := by decide +kernel
theorem dL_law_54 : decode cL_law 54 = .ok (.if_icmp .eq 14, 3) := by decide +kernel
theorem dL_law_57 : decode cL_law 57 = .ok (.aload_n 2, 1) := by decide +kernel
theorem dL_law_58 : decode cL_law 58 = .ok (.iload 5, 2) := by decide +kernel
theorem dL_law_60 : decode cL_law 60 = .ok (.invokestatic 116, 3) := by decide +kernel
theorem dL_law_63 : decode cL_law 63 = .ok (.iload 7, 2) := by decide +kernel
theorem dL_law_65 : decode cL_law 65 = .ok (.if_icmp .ne 22, 3) := by decide +kernel
theorem dL_law_68 : decode cL_law 68 = .ok (.aload_n 1, 1) := by decide +kernel
theorem dL_law_69 : decode cL_law 69 = .ok (.aload_n 2, 1) := by decide +kernel
theorem dL_law_70 : decode cL_law 70 = .ok (.invokestatic 119, 3) := by decide +kernel
theorem dL_law_73 : decode cL_law 73 = .ok (.ifCond .eq 14, 3) := by decide +kernel
theorem dL_law_76 : decode cL_law 76 = .ok (.aload_n 1, 1) := by decide +kernel
theorem dL_law_77 : decode cL_law 77 = .ok (.invokevirtual 90, 3) := by decide +kernel
theorem dL_law_80 : decode cL_law 80 = .ok (.iload 6, 2) := by decide +kernel
theorem dL_law_82 : decode cL_law 82 = .ok (.iconst 1, 1) := by decide +kernel
theorem dL_law_83 : decode cL_law 83 = .ok (.iadd, 1) := by decide +kernel
theorem dL_law_84 : decode cL_law 84 = .ok (.if_icmp .le 5, 3) := by decide +kernel
theorem dL_law_87 : decode cL_law 87 = .ok (.iconst 0, 1) := by decide +kernel
theorem dL_law_88 : decode cL_law 88 = .ok (.ireturn, 1) := by decide +kernel
theorem dL_law_89 : decode cL_law 89 = .ok (.iload_n 3, 1) := by decide +kernel
theorem dL_law_90 : decode cL_law 90 = .ok (.aload_n 1, 1) := by decide +kernel
theorem dL_law_91 : decode cL_law 91 = .ok (.invokevirtual 90, 3) := by decide +kernel
theorem dL_law_94 : decode cL_law 94 = .ok (.iload 6, 2) := by decide +kernel
theorem dL_law_96 : decode cL_law 96 = .ok (.if_icmp .le 7, 3) := by decide +kernel
theorem dL_law_99 : decode cL_law 99 = .ok (.iconst 1, 1) := by decide +kernel
theorem dL_law_100 : decode cL_law 100 = .ok (.goto 4, 3) := by decide +kernel
theorem dL_law_103 : decode cL_law 103 = .ok (.iconst 0, 1) := by decide +kernel
theorem dL_law_104 : decode cL_law 104 = .ok (.iadd, 1) := by decide +kernel
theorem dL_law_105 : decode cL_law 105 = .ok (.istore_n 3, 1) := by decide +kernel
theorem dL_law_106 : decode cL_law 106 = .ok (.iload 4, 2) := by decide +kernel
theorem dL_law_108 : decode cL_law 108 = .ok (.bipush 6, 2) := by decide +kernel
theorem dL_law_110 : decode cL_law 110 = .ok (.irem, 1) := by decide +kernel
theorem dL_law_111 : decode cL_law 111 = .ok (.iconst 5, 1) := by decide +kernel
theorem dL_law_112 : decode cL_law 112 = .ok (.if_icmp .ne 10, 3) := by decide +kernel
theorem dL_law_115 : decode cL_law 115 = .ok (.aload_n 1, 1) := by decide +kernel
theorem dL_law_116 : decode cL_law 116 = .ok (.invokestatic 123, 3) := by decide +kernel
theorem dL_law_119 : decode cL_law 119 = .ok (.ifCond .eq 29, 3) := by decide +kernel
theorem dL_law_122 : decode cL_law 122 = .ok (.iload 4, 2) := by decide +kernel
theorem dL_law_124 : decode cL_law 124 = .ok (.bipush 30, 2) := by decide +kernel
theorem dL_law_126 : decode cL_law 126 = .ok (.irem, 1) := by decide +kernel
theorem dL_law_127 : decode cL_law 127 = .ok (.bipush 29, 2) := by decide +kernel
theorem dL_law_129 : decode cL_law 129 = .ok (.if_icmp .ne 21, 3) := by decide +kernel
theorem dL_law_132 : decode cL_law 132 = .ok (.aload_n 1, 1) := by decide +kernel
theorem dL_law_133 : decode cL_law 133 = .ok (.aload_n 2, 1) := by decide +kernel
theorem dL_law_134 : decode cL_law 134 = .ok (.iload 5, 2) := by decide +kernel
theorem dL_law_136 : decode cL_law 136 = .ok (.iconst 5, 1) := by decide +kernel
theorem dL_law_137 : decode cL_law 137 = .ok (.ishr, 1) := by decide +kernel
theorem dL_law_138 : decode cL_law 138 = .ok (.iconst 4, 1) := by decide +kernel
theorem dL_law_139 : decode cL_law 139 = .ok (.invokestatic 50, 3) := by decide +kernel
theorem dL_law_142 : decode cL_law 142 = .ok (.invokestatic 127, 3) := by decide +kernel
theorem dL_law_145 : decode cL_law 145 = .ok (.ifCond .ne 5, 3) := by decide +kernel
theorem dL_law_148 : decode cL_law 148 = .ok (.iconst 0, 1) := by decide +kernel
theorem dL_law_149 : decode cL_law 149 = .ok (.ireturn, 1) := by decide +kernel
theorem dL_law_150 : decode cL_law 150 = .ok (.iinc 4 1, 3) := by decide +kernel
theorem dL_law_153 : decode cL_law 153 = .ok (.goto (-132), 3) := by decide +kernel
theorem dL_law_156 : decode cL_law 156 = .ok (.aload_n 1, 1) := by decide +kernel
theorem dL_law_157 : decode cL_law 157 = .ok (.invokevirtual 99, 3) := by decide +kernel
theorem dL_law_160 : decode cL_law 160 = .ok (.istore 4, 2) := by decide +kernel
theorem dL_law_162 : decode cL_law 162 = .ok (.iload 4, 2) := by decide +kernel
theorem dL_law_164 : decode cL_law 164 = .ok (.ifCond .ge 10, 3) := by decide +kernel
theorem dL_law_167 : decode cL_law 167 = .ok (.aload_n 1, 1) := by decide +kernel
theorem dL_law_168 : decode cL_law 168 = .ok (.invokestatic 80, 3) := by decide +kernel
theorem dL_law_171 : decode cL_law 171 = .ok (.goto 4, 3) := by decide +kernel
theorem dL_law_174 : decode cL_law 174 = .ok (.iconst 0, 1) := by decide +kernel
theorem dL_law_175 : decode cL_law 175 = .ok (.istore 5, 2) := by decide +kernel
theorem dL_law_177 : decode cL_law 177 = .ok (.aload_n 1, 1) := by decide +kernel
theorem dL_law_178 : decode cL_law 178 = .ok (.invokevirtual 99, 3) := by decide +kernel
theorem dL_law_181 : decode cL_law 181 = .ok (.istore 6, 2) := by decide +kernel
theorem dL_law_183 : decode cL_law 183 = .ok (.aload_n 1, 1) := by decide +kernel
theorem dL_law_184 : decode cL_law 184 = .ok (.invokevirtual 99, 3) := by decide +kernel
theorem dL_law_187 : decode cL_law 187 = .ok (.ifCond .lt 14, 3) := by decide +kernel
theorem dL_law_190 : decode cL_law 190 = .ok (.aload_n 1, 1) := by decide +kernel
theorem dL_law_191 : decode cL_law 191 = .ok (.bipush 10, 2) := by decide +kernel
theorem dL_law_193 : decode cL_law 193 = .ok (.invokevirtual 40, 3) := by decide +kernel
theorem dL_law_196 : decode cL_law 196 = .ok (.istore 7, 2) := by decide +kernel
theorem dL_law_198 : decode cL_law 198 = .ok (.goto (-15), 3) := by decide +kernel
theorem dL_law_201 : decode cL_law 201 = .ok (.iload 6, 2) := by decide +kernel
theorem dL_law_203 : decode cL_law 203 = .ok (.istore 7, 2) := by decide +kernel
theorem dL_law_205 : decode cL_law 205 = .ok (.iload 7, 2) := by decide +kernel
theorem dL_law_207 : decode cL_law 207 = .ok (.iconst 1, 1) := by decide +kernel
theorem dL_law_208 : decode cL_law 208 = .ok (.iadd, 1) := by decide +kernel
theorem dL_law_209 : decode cL_law 209 = .ok (.aload_n 1, 1) := by decide +kernel
theorem dL_law_210 : decode cL_law 210 = .ok (.invokevirtual 46, 3) := by decide +kernel
theorem dL_law_213 : decode cL_law 213 = .ok (.if_icmp .ge 21, 3) := by decide +kernel
theorem dL_law_216 : decode cL_law 216 = .ok (.aload_n 1, 1) := by decide +kernel
theorem dL_law_217 : decode cL_law 217 = .ok (.iload 7, 2) := by decide +kernel
theorem dL_law_219 : decode cL_law 219 = .ok (.invokevirtual 55, 3) := by decide +kernel
theorem dL_law_222 : decode cL_law 222 = .ok (.iconst 4, 1) := by decide +kernel
theorem dL_law_223 : decode cL_law 223 = .ok (.if_icmp .eq 5, 3) := by decide +kernel
theorem dL_law_226 : decode cL_law 226 = .ok (.iconst 0, 1) := by decide +kernel
theorem dL_law_227 : decode cL_law 227 = .ok (.ireturn, 1) := by decide +kernel
theorem dL_law_228 : decode cL_law 228 = .ok (.iinc 7 1, 3) := by decide +kernel
theorem dL_law_231 : decode cL_law 231 = .ok (.goto (-26), 3) := by decide +kernel
theorem dL_law_234 : decode cL_law 234 = .ok (.iload_n 3, 1) := by decide +kernel
theorem dL_law_235 : decode cL_law 235 = .ok (.aload_n 1, 1) := by decide +kernel
theorem dL_law_236 : decode cL_law 236 = .ok (.invokevirtual 90, 3) := by decide +kernel
theorem dL_law_239 : decode cL_law 239 = .ok (.if_icmp .lt 14, 3) := by decide +kernel
theorem dL_law_242 : decode cL_law 242 = .ok (.aload_n 1, 1) := by decide +kernel
theorem dL_law_243 : decode cL_law 243 = .ok (.invokestatic 123, 3) := by decide +kernel
theorem dL_law_246 : decode cL_law 246 = .ok (.ifCond .eq 7, 3) := by decide +kernel
theorem dL_law_249 : decode cL_law 249 = .ok (.iconst 1, 1) := by decide +kernel
theorem dL_law_250 : decode cL_law 250 = .ok (.goto 4, 3) := by decide +kernel
theorem dL_law_253 : decode cL_law 253 = .ok (.iconst 0, 1) := by decide +kernel
theorem dL_law_254 : decode cL_law 254 = .ok (.ireturn, 1) := by decide +kernel
