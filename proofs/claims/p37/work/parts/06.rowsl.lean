theorem dL_below_0 : decode cL_below 0 = .ok (.iload_n 0, 1) := by decide +kernel
theorem dL_below_1 : decode cL_below 1 = .ok (.ldc 7, 2) := by decide +kernel
theorem dL_below_3 : decode cL_below 3 = .ok (.iand, 1) := by decide +kernel
theorem dL_below_4 : decode cL_below 4 = .ok (.iload_n 1, 1) := by decide +kernel
theorem dL_below_5 : decode cL_below 5 = .ok (.irem, 1) := by decide +kernel
theorem dL_below_6 : decode cL_below 6 = .ok (.ireturn, 1) := by decide +kernel
theorem dL_cell_0 : decode cL_cell 0 = .ok (.iload_n 1, 1) := by decide +kernel
theorem dL_cell_1 : decode cL_cell 1 = .ok (.aload_n 0, 1) := by decide +kernel
theorem dL_cell_2 : decode cL_cell 2 = .ok (.arraylength, 1) := by decide +kernel
theorem dL_cell_3 : decode cL_cell 3 = .ok (.if_icmp .ge 9, 3) := by decide +kernel
theorem dL_cell_6 : decode cL_cell 6 = .ok (.aload_n 0, 1) := by decide +kernel
theorem dL_cell_7 : decode cL_cell 7 = .ok (.iload_n 1, 1) := by decide +kernel
theorem dL_cell_8 : decode cL_cell 8 = .ok (.iaload, 1) := by decide +kernel
theorem dL_cell_9 : decode cL_cell 9 = .ok (.goto 9, 3) := by decide +kernel
theorem dL_cell_12 : decode cL_cell 12 = .ok (.ldc 8, 2) := by decide +kernel
theorem dL_cell_14 : decode cL_cell 14 = .ok (.iload_n 1, 1) := by decide +kernel
theorem dL_cell_15 : decode cL_cell 15 = .ok (.iconst 3, 1) := by decide +kernel
theorem dL_cell_16 : decode cL_cell 16 = .ok (.iadd, 1) := by decide +kernel
theorem dL_cell_17 : decode cL_cell 17 = .ok (.imul, 1) := by decide +kernel
theorem dL_cell_18 : decode cL_cell 18 = .ok (.ireturn, 1) := by decide +kernel
set_option maxRecDepth 20000 in
theorem ggL_act_L_below : GoodIn wsL_act wsL_below := goodIn_r _ [11, 12] (by decide +kernel) (by decide +kernel)
set_option maxRecDepth 20000 in
theorem gL_act_L_below : GoodIn wsL_act (va_wsS RL 18 yL_below wsL_below) := goodIn_app (goodIn_of _ (by decide +kernel)) ggL_act_L_below
set_option maxRecDepth 20000 in
theorem ggL_act_X3_with : GoodIn wsL_act wsX3_with := goodIn_r _ [16, 17] (by decide +kernel) (by decide +kernel)
set_option maxRecDepth 20000 in
theorem gL_act_X3_with : GoodIn wsL_act (va_wsS RL 24 yX3_with wsX3_with) := goodIn_app (goodIn_of _ (by decide +kernel)) ggL_act_X3_with
set_option maxRecDepth 20000 in
theorem ggL_act_X2_addBatch : GoodIn wsL_act wsX2_addBatch := goodIn_ca (goodIn_ca (goodIn_r _ [22, 23, 24, 25, 26, 27, 28, 29, 21, 30, 31, 32, 33, 34, 35, 36, 37, 38, 39, 40, 41, 42, 43, 44, 201, 202, 203, 204, 205, 206, 207, 208, 209, 210, 211, 212, 213, 214, 215, 216, 217] (by decide +kernel) (by decide +kernel)) (goodIn_sub (fun _ h => List.mem_cons_of_mem _ (List.mem_append_left _ (List.mem_append_left _ (List.mem_append_right _ h)))) (by decide +kernel))) (goodIn_sub (fun _ h => List.mem_cons_of_mem _ (List.mem_append_left _ (List.mem_append_right _ h))) (by decide +kernel))
set_option maxRecDepth 20000 in
theorem gL_act_X2_addBatch : GoodIn wsL_act (wsV RL 28 RX2 yX2_addBatch wsX2_addBatch) := goodIn_app (goodIn_of _ (by decide +kernel)) ggL_act_X2_addBatch
set_option maxRecDepth 20000 in
theorem ggL_act_X2_seal : GoodIn wsL_act wsX2_seal := goodIn_ca (goodIn_ca (goodIn_ca (goodIn_r _ [48, 23, 24, 25, 26, 27, 49, 50, 51, 21, 52, 53, 54, 28, 29, 30, 55, 56, 57, 58, 59, 60, 34, 61, 62, 63, 64, 65, 42, 66, 44, 67, 68, 69, 70, 71, 72, 73, 74, 37, 75, 39, 40, 41, 43, 201, 202, 203, 204, 205, 206, 207, 208, 209, 210, 211, 212, 213, 214, 215, 216, 217] (by decide +kernel) (by decide +kernel)) (goodIn_sub (fun _ h => List.mem_cons_of_mem _ (List.mem_append_left _ (List.mem_append_left _ (List.mem_append_right _ h)))) (by decide +kernel))) (goodIn_sub (fun _ h => List.mem_cons_of_mem _ (List.mem_append_left _ (List.mem_append_right _ h))) (by decide +kernel))) (goodIn_sub (fun _ h => List.mem_cons_of_mem _ (List.mem_append_right _ h)) (by decide +kernel))
set_option maxRecDepth 20000 in
theorem gL_act_X2_seal : GoodIn wsL_act (wsV RL 33 RX2 yX2_seal wsX2_seal) := goodIn_app (goodIn_of _ (by decide +kernel)) ggL_act_X2_seal
set_option maxRecDepth 20000 in
theorem ggL_act_X2_move : GoodIn wsL_act wsX2_move := goodIn_ca (goodIn_ca (goodIn_r _ [79, 25, 26, 27, 80, 81, 82, 21, 83, 53, 54, 28, 29, 30, 55, 56, 57, 84, 85, 86, 34, 87, 75, 63, 64, 65, 42, 66, 44, 88, 89, 40, 41, 43, 201, 202, 203, 204, 205, 206, 207, 208, 209, 210, 211, 212, 213, 214, 215, 216, 217] (by decide +kernel) (by decide +kernel)) (goodIn_sub (fun _ h => List.mem_cons_of_mem _ (List.mem_append_left _ (List.mem_append_right _ h))) (by decide +kernel))) (goodIn_sub (fun _ h => List.mem_cons_of_mem _ (List.mem_append_right _ h)) (by decide +kernel))
set_option maxRecDepth 20000 in
theorem gL_act_X2_move : GoodIn wsL_act (wsV RL 37 RX2 yX2_move wsX2_move) := goodIn_app (goodIn_of _ (by decide +kernel)) ggL_act_X2_move
set_option maxRecDepth 20000 in
theorem ggL_act_X2_setWarm : GoodIn wsL_act wsX2_setWarm := goodIn_ca (goodIn_ca (goodIn_r _ [93, 23, 24, 27, 55, 56, 21, 57, 53, 54, 28, 29, 30, 88, 64, 65, 42, 66, 44, 89, 40, 41, 43, 201, 202, 203, 204, 205, 206, 207, 208, 209, 210, 211, 212, 213, 214, 215, 216, 217] (by decide +kernel) (by decide +kernel)) (goodIn_sub (fun _ h => List.mem_cons_of_mem _ (List.mem_append_left _ (List.mem_append_left _ (List.mem_append_right _ h)))) (by decide +kernel))) (goodIn_sub (fun _ h => List.mem_cons_of_mem _ (List.mem_append_right _ h)) (by decide +kernel))
set_option maxRecDepth 20000 in
theorem gL_act_X2_setWarm : GoodIn wsL_act (wsV RL 44 RX2 yX2_setWarm wsX2_setWarm) := goodIn_app (goodIn_of _ (by decide +kernel)) ggL_act_X2_setWarm
set_option maxRecDepth 20000 in
theorem ggL_act_X2_setShipping : GoodIn wsL_act wsX2_setShipping := goodIn_ca (goodIn_r _ [97, 27, 98, 99, 21, 100, 23, 24, 28, 29, 30, 101, 102, 103, 201, 202, 203, 204, 205, 206, 207, 208, 209, 210, 211, 212, 213, 214, 215, 216] (by decide +kernel) (by decide +kernel)) (goodIn_sub (fun _ h => List.mem_cons_of_mem _ (List.mem_append_left _ (List.mem_append_left _ (List.mem_append_right _ h)))) (by decide +kernel))
set_option maxRecDepth 20000 in
theorem gL_act_X2_setShipping : GoodIn wsL_act (wsV RL 54 RX2 yX2_setShipping wsX2_setShipping) := goodIn_app (goodIn_of _ (by decide +kernel)) ggL_act_X2_setShipping
set_option maxRecDepth 20000 in
theorem ggL_act_X2_recall : GoodIn wsL_act wsX2_recall := goodIn_ca (goodIn_ca (goodIn_r _ [107, 25, 26, 27, 49, 50, 51, 21, 52, 53, 54, 28, 29, 30, 58, 59, 60, 34, 61, 62, 63, 64, 65, 42, 66, 44, 108, 109, 110, 111, 71, 75, 72, 39, 40, 41, 43, 201, 202, 203, 204, 205, 206, 207, 208, 209, 210, 211, 212, 213, 214, 215, 216, 217] (by decide +kernel) (by decide +kernel)) (goodIn_sub (fun _ h => List.mem_cons_of_mem _ (List.mem_append_left _ (List.mem_append_right _ h))) (by decide +kernel))) (goodIn_sub (fun _ h => List.mem_cons_of_mem _ (List.mem_append_right _ h)) (by decide +kernel))
set_option maxRecDepth 20000 in
theorem gL_act_X2_recall : GoodIn wsL_act (wsV RL 57 RX2 yX2_recall wsX2_recall) := goodIn_app (goodIn_of _ (by decide +kernel)) ggL_act_X2_recall
set_option maxRecDepth 20000 in
theorem ggL_act_X3_recall : GoodIn wsL_act wsX3_recall := goodIn_r _ [115, 116, 117, 195, 196, 197, 198, 199, 200] (by decide +kernel) (by decide +kernel)
set_option maxRecDepth 20000 in
theorem gL_act_X3_recall : GoodIn wsL_act (wsV RL 61 RX3 yX3_recall wsX3_recall) := goodIn_app (goodIn_of _ (by decide +kernel)) ggL_act_X3_recall
set_option maxRecDepth 20000 in
theorem ggL_act_X2_pass : GoodIn wsL_act wsX2_pass := goodIn_ca (goodIn_r _ [121, 23, 24, 27, 28, 29, 21, 30, 122, 123, 124, 34, 125, 71, 75, 63, 64, 65, 42, 66, 44, 126, 127, 128, 129, 130, 131, 132, 133, 134, 135, 136, 74, 73, 137, 138, 139, 140, 141, 85, 86, 87, 142, 143, 144, 145, 38, 72, 146, 39, 40, 41, 43, 147, 148, 149, 150, 151, 152, 153, 154, 155, 36, 156, 59, 60, 61, 62, 157, 109, 110, 111, 158, 159, 160, 161, 162, 163, 164, 165, 166, 167, 168, 169, 201, 202, 203, 204, 205, 206, 207, 208, 209, 210, 211, 212, 213, 214, 215, 216, 217] (by decide +kernel) (by decide +kernel)) (goodIn_sub (fun _ h => List.mem_cons_of_mem _ (List.mem_append_left _ (List.mem_append_left _ (List.mem_append_right _ h)))) (by decide +kernel))
set_option maxRecDepth 20000 in
theorem gL_act_X2_pass : GoodIn wsL_act (wsV RL 62 RX2 yX2_pass wsX2_pass) := goodIn_app (goodIn_of _ (by decide +kernel)) ggL_act_X2_pass
set_option maxRecDepth 20000 in
theorem ggL_act_X3_pass_ : GoodIn wsL_act wsX3_pass_ := goodIn_r _ [173, 174, 175, 176, 15, 177, 117, 178, 179, 180, 181, 116, 182, 183, 184, 185, 186, 113, 114, 115, 187, 188, 189, 190, 191, 192, 193, 194, 195, 196, 197, 198, 199, 200] (by decide +kernel) (by decide +kernel)
set_option maxRecDepth 20000 in
theorem gL_act_X3_pass_ : GoodIn wsL_act (wsV RL 65 RX3 yX3_pass_ wsX3_pass_) := goodIn_app (goodIn_of _ (by decide +kernel)) ggL_act_X3_pass_
theorem dL_act_0 : decode cL_act 0 = .ok (.aload_n 1, 1) := by decide +kernel
theorem dL_act_1 : decode cL_act 1 = .ok (.getfield 9, 3) := by decide +kernel
theorem dL_act_4 : decode cL_act 4 = .ok (.arraylength, 1) := by decide +kernel
theorem dL_act_5 : decode cL_act 5 = .ok (.istore_n 3, 1) := by decide +kernel
theorem dL_act_6 : decode cL_act 6 = .ok (.aload_n 1, 1) := by decide +kernel
theorem dL_act_7 : decode cL_act 7 = .ok (.getfield 15, 3) := by decide +kernel
theorem dL_act_10 : decode cL_act 10 = .ok (.arraylength, 1) := by decide +kernel
theorem dL_act_11 : decode cL_act 11 = .ok (.istore 4, 2) := by decide +kernel
theorem dL_act_13 : decode cL_act 13 = .ok (.iload_n 2, 1) := by decide +kernel
theorem dL_act_14 : decode cL_act 14 = .ok (.iconst 4, 1) := by decide +kernel
theorem dL_act_15 : decode cL_act 15 = .ok (.ishr, 1) := by decide +kernel
theorem dL_act_16 : decode cL_act 16 = .ok (.iconst 4, 1) := by decide +kernel
theorem dL_act_17 : decode cL_act 17 = .ok (.invokestatic 18, 3) := by decide +kernel
theorem dL_act_20 : decode cL_act 20 = .ok (.istore 5, 2) := by decide +kernel
theorem dL_act_22 : decode cL_act 22 = .ok (.iconst 1, 1) := by decide +kernel
theorem dL_act_23 : decode cL_act 23 = .ok (.istore 6, 2) := by decide +kernel
theorem dL_act_25 : decode cL_act 25 = .ok (.iload_n 2, 1) := by decide +kernel
theorem dL_act_26 : decode cL_act 26 = .ok (.bipush 14, 2) := by decide +kernel
theorem dL_act_28 : decode cL_act 28 = .ok (.invokestatic 18, 3) := by decide +kernel
theorem dL_act_31 : decode cL_act 31 = .ok (.istore 7, 2) := by decide +kernel
theorem dL_act_33 : decode cL_act 33 = .ok (.iload_n 3, 1) := by decide +kernel
theorem dL_act_34 : decode cL_act 34 = .ok (.ifCond .eq 8, 3) := by decide +kernel
theorem dL_act_37 : decode cL_act 37 = .ok (.iload 7, 2) := by decide +kernel
theorem dL_act_39 : decode cL_act 39 = .ok (.ifCond .ne 114, 3) := by decide +kernel
theorem dL_act_42 : decode cL_act 42 = .ok (.iload_n 3, 1) := by decide +kernel
theorem dL_act_43 : decode cL_act 43 = .ok (.bipush 6, 2) := by decide +kernel
theorem dL_act_45 : decode cL_act 45 = .ok (.if_icmp .ge 7, 3) := by decide +kernel
theorem dL_act_48 : decode cL_act 48 = .ok (.iconst 1, 1) := by decide +kernel
theorem dL_act_49 : decode cL_act 49 = .ok (.goto 4, 3) := by decide +kernel
theorem dL_act_52 : decode cL_act 52 = .ok (.iconst 0, 1) := by decide +kernel
theorem dL_act_53 : decode cL_act 53 = .ok (.istore 6, 2) := by decide +kernel
theorem dL_act_55 : decode cL_act 55 = .ok (.iconst 4, 1) := by decide +kernel
theorem dL_act_56 : decode cL_act 56 = .ok (.newarray .int, 2) := by decide +kernel
theorem dL_act_58 : decode cL_act 58 = .ok (.dup, 1) := by decide +kernel
theorem dL_act_59 : decode cL_act 59 = .ok (.iconst 0, 1) := by decide +kernel
theorem dL_act_60 : decode cL_act 60 = .ok (.iconst 1, 1) := by decide +kernel
theorem dL_act_61 : decode cL_act 61 = .ok (.iload_n 2, 1) := by decide +kernel
theorem dL_act_62 : decode cL_act 62 = .ok (.iconst 3, 1) := by decide +kernel
theorem dL_act_63 : decode cL_act 63 = .ok (.ishr, 1) := by decide +kernel
theorem dL_act_64 : decode cL_act 64 = .ok (.iload_n 2, 1) := by decide +kernel
theorem dL_act_65 : decode cL_act 65 = .ok (.bipush 8, 2) := by decide +kernel
theorem dL_act_67 : decode cL_act 67 = .ok (.ishr, 1) := by decide +kernel
theorem dL_act_68 : decode cL_act 68 = .ok (.iconst 2, 1) := by decide +kernel
theorem dL_act_69 : decode cL_act 69 = .ok (.invokestatic 18, 3) := by decide +kernel
theorem dL_act_72 : decode cL_act 72 = .ok (.ifCond .ne 8, 3) := by decide +kernel
theorem dL_act_75 : decode cL_act 75 = .ok (.bipush 99, 2) := by decide +kernel
theorem dL_act_77 : decode cL_act 77 = .ok (.goto 5, 3) := by decide +kernel
theorem dL_act_80 : decode cL_act 80 = .ok (.bipush 20, 2) := by decide +kernel
theorem dL_act_82 : decode cL_act 82 = .ok (.invokestatic 18, 3) := by decide +kernel
theorem dL_act_85 : decode cL_act 85 = .ok (.iadd, 1) := by decide +kernel
theorem dL_act_86 : decode cL_act 86 = .ok (.iastore, 1) := by decide +kernel
theorem dL_act_87 : decode cL_act 87 = .ok (.dup, 1) := by decide +kernel
theorem dL_act_88 : decode cL_act 88 = .ok (.iconst 1, 1) := by decide +kernel
theorem dL_act_89 : decode cL_act 89 = .ok (.iload_n 2, 1) := by decide +kernel
theorem dL_act_90 : decode cL_act 90 = .ok (.iconst 5, 1) := by decide +kernel
theorem dL_act_91 : decode cL_act 91 = .ok (.ishr, 1) := by decide +kernel
theorem dL_act_92 : decode cL_act 92 = .ok (.bipush 6, 2) := by decide +kernel
theorem dL_act_94 : decode cL_act 94 = .ok (.invokestatic 18, 3) := by decide +kernel
theorem dL_act_97 : decode cL_act 97 = .ok (.iastore, 1) := by decide +kernel
theorem dL_act_98 : decode cL_act 98 = .ok (.dup, 1) := by decide +kernel
theorem dL_act_99 : decode cL_act 99 = .ok (.iconst 2, 1) := by decide +kernel
theorem dL_act_100 : decode cL_act 100 = .ok (.iconst 0, 1) := by decide +kernel
theorem dL_act_101 : decode cL_act 101 = .ok (.iastore, 1) := by decide +kernel
theorem dL_act_102 : decode cL_act 102 = .ok (.dup, 1) := by decide +kernel
theorem dL_act_103 : decode cL_act 103 = .ok (.iconst 3, 1) := by decide +kernel
theorem dL_act_104 : decode cL_act 104 = .ok (.iconst 0, 1) := by decide +kernel
theorem dL_act_105 : decode cL_act 105 = .ok (.iastore, 1) := by decide +kernel
theorem dL_act_106 : decode cL_act 106 = .ok (.astore 8, 2) := by decide +kernel
theorem dL_act_108 : decode cL_act 108 = .ok (.iload 6, 2) := by decide +kernel
theorem dL_act_110 : decode cL_act 110 = .ok (.ifCond .eq 16, 3) := by decide +kernel
theorem dL_act_113 : decode cL_act 113 = .ok (.aload_n 1, 1) := by decide +kernel
theorem dL_act_114 : decode cL_act 114 = .ok (.aload_n 1, 1) := by decide +kernel
theorem dL_act_115 : decode cL_act 115 = .ok (.getfield 9, 3) := by decide +kernel
theorem dL_act_118 : decode cL_act 118 = .ok (.aload 8, 2) := by decide +kernel
theorem dL_act_120 : decode cL_act 120 = .ok (.invokestatic 24, 3) := by decide +kernel
theorem dL_act_123 : decode cL_act 123 = .ok (.putfield 9, 3) := by decide +kernel
theorem dL_act_126 : decode cL_act 126 = .ok (.aload_n 0, 1) := by decide +kernel
theorem dL_act_127 : decode cL_act 127 = .ok (.aload 8, 2) := by decide +kernel
theorem dL_act_129 : decode cL_act 129 = .ok (.iconst 0, 1) := by decide +kernel
theorem dL_act_130 : decode cL_act 130 = .ok (.iaload, 1) := by decide +kernel
theorem dL_act_131 : decode cL_act 131 = .ok (.aload 8, 2) := by decide +kernel
theorem dL_act_133 : decode cL_act 133 = .ok (.iconst 1, 1) := by decide +kernel
theorem dL_act_134 : decode cL_act 134 = .ok (.iaload, 1) := by decide +kernel
theorem dL_act_135 : decode cL_act 135 = .ok (.invokevirtual 28, 3) := by decide +kernel
theorem dL_act_138 : decode cL_act 138 = .ok (.iload_n 3, 1) := by decide +kernel
theorem dL_act_139 : decode cL_act 139 = .ok (.if_icmp .ne 12, 3) := by decide +kernel
theorem dL_act_142 : decode cL_act 142 = .ok (.iload 6, 2) := by decide +kernel
theorem dL_act_144 : decode cL_act 144 = .ok (.ifCond .eq 7, 3) := by decide +kernel
theorem dL_act_147 : decode cL_act 147 = .ok (.iconst 1, 1) := by decide +kernel
theorem dL_act_148 : decode cL_act 148 = .ok (.goto 4, 3) := by decide +kernel
theorem dL_act_151 : decode cL_act 151 = .ok (.iconst 0, 1) := by decide +kernel
theorem dL_act_152 : decode cL_act 152 = .ok (.ireturn, 1) := by decide +kernel
theorem dL_act_153 : decode cL_act 153 = .ok (.iload 7, 2) := by decide +kernel
theorem dL_act_155 : decode cL_act 155 = .ok (.tableswitch 470 1 9 #[49, 49, 49, 202, 287, 287, 335, 335, 403], 49) := by decide +kernel
theorem dL_act_204 : decode cL_act 204 = .ok (.iload_n 2, 1) := by decide +kernel
theorem dL_act_205 : decode cL_act 205 = .ok (.iconst 3, 1) := by decide +kernel
theorem dL_act_206 : decode cL_act 206 = .ok (.ishr, 1) := by decide +kernel
theorem dL_act_207 : decode cL_act 207 = .ok (.iload_n 3, 1) := by decide +kernel
theorem dL_act_208 : decode cL_act 208 = .ok (.invokestatic 18, 3) := by decide +kernel
theorem dL_act_211 : decode cL_act 211 = .ok (.istore 8, 2) := by decide +kernel
theorem dL_act_213 : decode cL_act 213 = .ok (.iconst 1, 1) := by decide +kernel
theorem dL_act_214 : decode cL_act 214 = .ok (.iload_n 2, 1) := by decide +kernel
theorem dL_act_215 : decode cL_act 215 = .ok (.bipush 6, 2) := by decide +kernel
theorem dL_act_217 : decode cL_act 217 = .ok (.ishr, 1) := by decide +kernel
theorem dL_act_218 : decode cL_act 218 = .ok (.iload_n 2, 1) := by decide +kernel
theorem dL_act_219 : decode cL_act 219 = .ok (.bipush 9, 2) := by decide +kernel
theorem dL_act_221 : decode cL_act 221 = .ok (.ishr, 1) := by decide +kernel
theorem dL_act_222 : decode cL_act 222 = .ok (.iconst 4, 1) := by decide +kernel
theorem dL_act_223 : decode cL_act 223 = .ok (.invokestatic 18, 3) := by decide +kernel
theorem dL_act_226 : decode cL_act 226 = .ok (.ifCond .ne 8, 3) := by decide +kernel
theorem dL_act_229 : decode cL_act 229 = .ok (.bipush 20, 2) := by decide +kernel
theorem dL_act_231 : decode cL_act 231 = .ok (.goto 4, 3) := by decide +kernel
theorem dL_act_234 : decode cL_act 234 = .ok (.iconst 5, 1) := by decide +kernel
theorem dL_act_235 : decode cL_act 235 = .ok (.invokestatic 18, 3) := by decide +kernel
theorem dL_act_238 : decode cL_act 238 = .ok (.iadd, 1) := by decide +kernel
theorem dL_act_239 : decode cL_act 239 = .ok (.istore 9, 2) := by decide +kernel
theorem dL_act_241 : decode cL_act 241 = .ok (.iload 4, 2) := by decide +kernel
theorem dL_act_243 : decode cL_act 243 = .ok (.iload 9, 2) := by decide +kernel
theorem dL_act_245 : decode cL_act 245 = .ok (.iadd, 1) := by decide +kernel
theorem dL_act_246 : decode cL_act 246 = .ok (.bipush 60, 2) := by decide +kernel
theorem dL_act_248 : decode cL_act 248 = .ok (.if_icmp .gt 19, 3) := by decide +kernel
theorem dL_act_251 : decode cL_act 251 = .ok (.aload_n 1, 1) := by decide +kernel
theorem dL_act_252 : decode cL_act 252 = .ok (.getfield 9, 3) := by decide +kernel
theorem dL_act_255 : decode cL_act 255 = .ok (.iload 8, 2) := by decide +kernel
theorem dL_act_257 : decode cL_act 257 = .ok (.aaload, 1) := by decide +kernel
theorem dL_act_258 : decode cL_act 258 = .ok (.iconst 3, 1) := by decide +kernel
theorem dL_act_259 : decode cL_act 259 = .ok (.iaload, 1) := by decide +kernel
theorem dL_act_260 : decode cL_act 260 = .ok (.ifCond .ne 7, 3) := by decide +kernel
theorem dL_act_263 : decode cL_act 263 = .ok (.iconst 1, 1) := by decide +kernel
theorem dL_act_264 : decode cL_act 264 = .ok (.goto 4, 3) := by decide +kernel
theorem dL_act_267 : decode cL_act 267 = .ok (.iconst 0, 1) := by decide +kernel
theorem dL_act_268 : decode cL_act 268 = .ok (.istore 6, 2) := by decide +kernel
theorem dL_act_270 : decode cL_act 270 = .ok (.iconst 0, 1) := by decide +kernel
theorem dL_act_271 : decode cL_act 271 = .ok (.istore 10, 2) := by decide +kernel
theorem dL_act_273 : decode cL_act 273 = .ok (.iload 10, 2) := by decide +kernel
theorem dL_act_275 : decode cL_act 275 = .ok (.iload 9, 2) := by decide +kernel
theorem dL_act_277 : decode cL_act 277 = .ok (.if_icmp .ge 54, 3) := by decide +kernel
theorem dL_act_280 : decode cL_act 280 = .ok (.iload 6, 2) := by decide +kernel
theorem dL_act_282 : decode cL_act 282 = .ok (.ifCond .eq 49, 3) := by decide +kernel
theorem dL_act_285 : decode cL_act 285 = .ok (.aload_n 1, 1) := by decide +kernel
theorem dL_act_286 : decode cL_act 286 = .ok (.aload_n 1, 1) := by decide +kernel
theorem dL_act_287 : decode cL_act 287 = .ok (.getfield 15, 3) := by decide +kernel
theorem dL_act_290 : decode cL_act 290 = .ok (.iconst 4, 1) := by decide +kernel
theorem dL_act_291 : decode cL_act 291 = .ok (.newarray .int, 2) := by decide +kernel
theorem dL_act_293 : decode cL_act 293 = .ok (.dup, 1) := by decide +kernel
theorem dL_act_294 : decode cL_act 294 = .ok (.iconst 0, 1) := by decide +kernel
theorem dL_act_295 : decode cL_act 295 = .ok (.iload 8, 2) := by decide +kernel
theorem dL_act_297 : decode cL_act 297 = .ok (.iastore, 1) := by decide +kernel
theorem dL_act_298 : decode cL_act 298 = .ok (.dup, 1) := by decide +kernel
theorem dL_act_299 : decode cL_act 299 = .ok (.iconst 1, 1) := by decide +kernel
theorem dL_act_300 : decode cL_act 300 = .ok (.iload 5, 2) := by decide +kernel
theorem dL_act_302 : decode cL_act 302 = .ok (.iastore, 1) := by decide +kernel
theorem dL_act_303 : decode cL_act 303 = .ok (.dup, 1) := by decide +kernel
theorem dL_act_304 : decode cL_act 304 = .ok (.iconst 2, 1) := by decide +kernel
theorem dL_act_305 : decode cL_act 305 = .ok (.aload_n 1, 1) := by decide +kernel
theorem dL_act_306 : decode cL_act 306 = .ok (.getfield 9, 3) := by decide +kernel
theorem dL_act_309 : decode cL_act 309 = .ok (.iload 8, 2) := by decide +kernel
theorem dL_act_311 : decode cL_act 311 = .ok (.aaload, 1) := by decide +kernel
theorem dL_act_312 : decode cL_act 312 = .ok (.iconst 0, 1) := by decide +kernel
theorem dL_act_313 : decode cL_act 313 = .ok (.iaload, 1) := by decide +kernel
theorem dL_act_314 : decode cL_act 314 = .ok (.iastore, 1) := by decide +kernel
theorem dL_act_315 : decode cL_act 315 = .ok (.dup, 1) := by decide +kernel
theorem dL_act_316 : decode cL_act 316 = .ok (.iconst 3, 1) := by decide +kernel
theorem dL_act_317 : decode cL_act 317 = .ok (.iconst 0, 1) := by decide +kernel
theorem dL_act_318 : decode cL_act 318 = .ok (.iastore, 1) := by decide +kernel
theorem dL_act_319 : decode cL_act 319 = .ok (.invokestatic 24, 3) := by decide +kernel
theorem dL_act_322 : decode cL_act 322 = .ok (.putfield 15, 3) := by decide +kernel
theorem dL_act_325 : decode cL_act 325 = .ok (.iinc 10 1, 3) := by decide +kernel
theorem dL_act_328 : decode cL_act 328 = .ok (.goto (-55), 3) := by decide +kernel
theorem dL_act_331 : decode cL_act 331 = .ok (.aload_n 0, 1) := by decide +kernel
theorem dL_act_332 : decode cL_act 332 = .ok (.iload 8, 2) := by decide +kernel
theorem dL_act_334 : decode cL_act 334 = .ok (.iload 5, 2) := by decide +kernel
theorem dL_act_336 : decode cL_act 336 = .ok (.iload 9, 2) := by decide +kernel
theorem dL_act_338 : decode cL_act 338 = .ok (.invokevirtual 33, 3) := by decide +kernel
theorem dL_act_341 : decode cL_act 341 = .ok (.iload 4, 2) := by decide +kernel
theorem dL_act_343 : decode cL_act 343 = .ok (.if_icmp .ne 12, 3) := by decide +kernel
theorem dL_act_346 : decode cL_act 346 = .ok (.iload 6, 2) := by decide +kernel
theorem dL_act_348 : decode cL_act 348 = .ok (.ifCond .eq 7, 3) := by decide +kernel
theorem dL_act_351 : decode cL_act 351 = .ok (.iconst 1, 1) := by decide +kernel
theorem dL_act_352 : decode cL_act 352 = .ok (.goto 4, 3) := by decide +kernel
theorem dL_act_355 : decode cL_act 355 = .ok (.iconst 0, 1) := by decide +kernel
theorem dL_act_356 : decode cL_act 356 = .ok (.ireturn, 1) := by decide +kernel
theorem dL_act_357 : decode cL_act 357 = .ok (.iload 4, 2) := by decide +kernel
theorem dL_act_359 : decode cL_act 359 = .ok (.ifCond .ne 5, 3) := by decide +kernel
theorem dL_act_362 : decode cL_act 362 = .ok (.iconst 1, 1) := by decide +kernel
theorem dL_act_363 : decode cL_act 363 = .ok (.ireturn, 1) := by decide +kernel
theorem dL_act_364 : decode cL_act 364 = .ok (.aload_n 1, 1) := by decide +kernel
theorem dL_act_365 : decode cL_act 365 = .ok (.getfield 15, 3) := by decide +kernel
theorem dL_act_368 : decode cL_act 368 = .ok (.iload_n 2, 1) := by decide +kernel
theorem dL_act_369 : decode cL_act 369 = .ok (.bipush 6, 2) := by decide +kernel
theorem dL_act_371 : decode cL_act 371 = .ok (.ishr, 1) := by decide +kernel
theorem dL_act_372 : decode cL_act 372 = .ok (.iload 4, 2) := by decide +kernel
theorem dL_act_374 : decode cL_act 374 = .ok (.invokestatic 18, 3) := by decide +kernel
theorem dL_act_377 : decode cL_act 377 = .ok (.aaload, 1) := by decide +kernel
theorem dL_act_378 : decode cL_act 378 = .ok (.astore 8, 2) := by decide +kernel
theorem dL_act_380 : decode cL_act 380 = .ok (.aload 8, 2) := by decide +kernel
theorem dL_act_382 : decode cL_act 382 = .ok (.iconst 1, 1) := by decide +kernel
theorem dL_act_383 : decode cL_act 383 = .ok (.iaload, 1) := by decide +kernel
theorem dL_act_384 : decode cL_act 384 = .ok (.istore 9, 2) := by decide +kernel
theorem dL_act_386 : decode cL_act 386 = .ok (.aload 8, 2) := by decide +kernel
theorem dL_act_388 : decode cL_act 388 = .ok (.iconst 3, 1) := by decide +kernel
theorem dL_act_389 : decode cL_act 389 = .ok (.iaload, 1) := by decide +kernel
theorem dL_act_390 : decode cL_act 390 = .ok (.ifCond .ne 7, 3) := by decide +kernel
theorem dL_act_393 : decode cL_act 393 = .ok (.iconst 1, 1) := by decide +kernel
theorem dL_act_394 : decode cL_act 394 = .ok (.goto 4, 3) := by decide +kernel
theorem dL_act_397 : decode cL_act 397 = .ok (.iconst 0, 1) := by decide +kernel
theorem dL_act_398 : decode cL_act 398 = .ok (.istore 6, 2) := by decide +kernel
theorem dL_act_400 : decode cL_act 400 = .ok (.iload 6, 2) := by decide +kernel
theorem dL_act_402 : decode cL_act 402 = .ok (.ifCond .eq 9, 3) := by decide +kernel
theorem dL_act_405 : decode cL_act 405 = .ok (.aload 8, 2) := by decide +kernel
theorem dL_act_407 : decode cL_act 407 = .ok (.iconst 1, 1) := by decide +kernel
theorem dL_act_408 : decode cL_act 408 = .ok (.iload 5, 2) := by decide +kernel
theorem dL_act_410 : decode cL_act 410 = .ok (.iastore, 1) := by decide +kernel
theorem dL_act_411 : decode cL_act 411 = .ok (.aload_n 0, 1) := by decide +kernel
theorem dL_act_412 : decode cL_act 412 = .ok (.iload_n 2, 1) := by decide +kernel
theorem dL_act_413 : decode cL_act 413 = .ok (.bipush 6, 2) := by decide +kernel
theorem dL_act_415 : decode cL_act 415 = .ok (.ishr, 1) := by decide +kernel
theorem dL_act_416 : decode cL_act 416 = .ok (.iload 4, 2) := by decide +kernel
theorem dL_act_418 : decode cL_act 418 = .ok (.invokestatic 18, 3) := by decide +kernel
theorem dL_act_421 : decode cL_act 421 = .ok (.iload 5, 2) := by decide +kernel
theorem dL_act_423 : decode cL_act 423 = .ok (.invokevirtual 37, 3) := by decide +kernel
theorem dL_act_426 : decode cL_act 426 = .ok (.iload 9, 2) := by decide +kernel
theorem dL_act_428 : decode cL_act 428 = .ok (.if_icmp .ne 12, 3) := by decide +kernel
theorem dL_act_431 : decode cL_act 431 = .ok (.iload 6, 2) := by decide +kernel
theorem dL_act_433 : decode cL_act 433 = .ok (.ifCond .eq 7, 3) := by decide +kernel
theorem dL_act_436 : decode cL_act 436 = .ok (.iconst 1, 1) := by decide +kernel
theorem dL_act_437 : decode cL_act 437 = .ok (.goto 4, 3) := by decide +kernel
theorem dL_act_440 : decode cL_act 440 = .ok (.iconst 0, 1) := by decide +kernel
theorem dL_act_441 : decode cL_act 441 = .ok (.ireturn, 1) := by decide +kernel
theorem dL_act_442 : decode cL_act 442 = .ok (.aload_n 1, 1) := by decide +kernel
theorem dL_act_443 : decode cL_act 443 = .ok (.getfield 40, 3) := by decide +kernel
theorem dL_act_446 : decode cL_act 446 = .ok (.iload 5, 2) := by decide +kernel
theorem dL_act_448 : decode cL_act 448 = .ok (.iaload, 1) := by decide +kernel
theorem dL_act_449 : decode cL_act 449 = .ok (.istore 8, 2) := by decide +kernel
theorem dL_act_451 : decode cL_act 451 = .ok (.aload_n 1, 1) := by decide +kernel
theorem dL_act_452 : decode cL_act 452 = .ok (.getfield 40, 3) := by decide +kernel
theorem dL_act_455 : decode cL_act 455 = .ok (.iload 5, 2) := by decide +kernel
theorem dL_act_457 : decode cL_act 457 = .ok (.iload_n 2, 1) := by decide +kernel
theorem dL_act_458 : decode cL_act 458 = .ok (.bipush 6, 2) := by decide +kernel
theorem dL_act_460 : decode cL_act 460 = .ok (.ishr, 1) := by decide +kernel
theorem dL_act_461 : decode cL_act 461 = .ok (.iconst 4, 1) := by decide +kernel
theorem dL_act_462 : decode cL_act 462 = .ok (.invokestatic 18, 3) := by decide +kernel
theorem dL_act_465 : decode cL_act 465 = .ok (.iastore, 1) := by decide +kernel
theorem dL_act_466 : decode cL_act 466 = .ok (.aload_n 0, 1) := by decide +kernel
theorem dL_act_467 : decode cL_act 467 = .ok (.iload 5, 2) := by decide +kernel
theorem dL_act_469 : decode cL_act 469 = .ok (.aload_n 1, 1) := by decide +kernel
theorem dL_act_470 : decode cL_act 470 = .ok (.getfield 40, 3) := by decide +kernel
theorem dL_act_473 : decode cL_act 473 = .ok (.iload 5, 2) := by decide +kernel
theorem dL_act_475 : decode cL_act 475 = .ok (.iaload, 1) := by decide +kernel
theorem dL_act_476 : decode cL_act 476 = .ok (.invokevirtual 44, 3) := by decide +kernel
theorem dL_act_479 : decode cL_act 479 = .ok (.iload 8, 2) := by decide +kernel
theorem dL_act_481 : decode cL_act 481 = .ok (.if_icmp .ne 7, 3) := by decide +kernel
theorem dL_act_484 : decode cL_act 484 = .ok (.iconst 1, 1) := by decide +kernel
theorem dL_act_485 : decode cL_act 485 = .ok (.goto 4, 3) := by decide +kernel
theorem dL_act_488 : decode cL_act 488 = .ok (.iconst 0, 1) := by decide +kernel
theorem dL_act_489 : decode cL_act 489 = .ok (.ireturn, 1) := by decide +kernel
theorem dL_act_490 : decode cL_act 490 = .ok (.aload_n 1, 1) := by decide +kernel
theorem dL_act_491 : decode cL_act 491 = .ok (.getfield 47, 3) := by decide +kernel
theorem dL_act_494 : decode cL_act 494 = .ok (.istore 8, 2) := by decide +kernel
theorem dL_act_496 : decode cL_act 496 = .ok (.aload_n 1, 1) := by decide +kernel
theorem dL_act_497 : decode cL_act 497 = .ok (.iload_n 2, 1) := by decide +kernel
theorem dL_act_498 : decode cL_act 498 = .ok (.bipush 6, 2) := by decide +kernel
theorem dL_act_500 : decode cL_act 500 = .ok (.ishr, 1) := by decide +kernel
theorem dL_act_501 : decode cL_act 501 = .ok (.iload_n 2, 1) := by decide +kernel
theorem dL_act_502 : decode cL_act 502 = .ok (.bipush 9, 2) := by decide +kernel
theorem dL_act_504 : decode cL_act 504 = .ok (.ishr, 1) := by decide +kernel
theorem dL_act_505 : decode cL_act 505 = .ok (.iconst 3, 1) := by decide +kernel
theorem dL_act_506 : decode cL_act 506 = .ok (.invokestatic 18, 3) := by decide +kernel
theorem dL_act_509 : decode cL_act 509 = .ok (.ifCond .ne 8, 3) := by decide +kernel
theorem dL_act_512 : decode cL_act 512 = .ok (.bipush 10, 2) := by decide +kernel
theorem dL_act_514 : decode cL_act 514 = .ok (.goto 4, 3) := by decide +kernel
theorem dL_act_517 : decode cL_act 517 = .ok (.iconst 3, 1) := by decide +kernel
theorem dL_act_518 : decode cL_act 518 = .ok (.invokestatic 18, 3) := by decide +kernel
theorem dL_act_521 : decode cL_act 521 = .ok (.putfield 47, 3) := by decide +kernel
theorem dL_act_524 : decode cL_act 524 = .ok (.aload_n 1, 1) := by decide +kernel
theorem dL_act_525 : decode cL_act 525 = .ok (.iload_n 2, 1) := by decide +kernel
theorem dL_act_526 : decode cL_act 526 = .ok (.iconst 5, 1) := by decide +kernel
theorem dL_act_527 : decode cL_act 527 = .ok (.ishr, 1) := by decide +kernel
theorem dL_act_528 : decode cL_act 528 = .ok (.iconst 3, 1) := by decide +kernel
theorem dL_act_529 : decode cL_act 529 = .ok (.invokestatic 18, 3) := by decide +kernel
theorem dL_act_532 : decode cL_act 532 = .ok (.putfield 51, 3) := by decide +kernel
theorem dL_act_535 : decode cL_act 535 = .ok (.aload_n 0, 1) := by decide +kernel
theorem dL_act_536 : decode cL_act 536 = .ok (.aload_n 1, 1) := by decide +kernel
theorem dL_act_537 : decode cL_act 537 = .ok (.getfield 47, 3) := by decide +kernel
theorem dL_act_540 : decode cL_act 540 = .ok (.aload_n 1, 1) := by decide +kernel
theorem dL_act_541 : decode cL_act 541 = .ok (.getfield 51, 3) := by decide +kernel
theorem dL_act_544 : decode cL_act 544 = .ok (.invokevirtual 54, 3) := by decide +kernel
theorem dL_act_547 : decode cL_act 547 = .ok (.iload 8, 2) := by decide +kernel
theorem dL_act_549 : decode cL_act 549 = .ok (.if_icmp .ne 7, 3) := by decide +kernel
theorem dL_act_552 : decode cL_act 552 = .ok (.iconst 1, 1) := by decide +kernel
theorem dL_act_553 : decode cL_act 553 = .ok (.goto 4, 3) := by decide +kernel
theorem dL_act_556 : decode cL_act 556 = .ok (.iconst 0, 1) := by decide +kernel
theorem dL_act_557 : decode cL_act 557 = .ok (.ireturn, 1) := by decide +kernel
theorem dL_act_558 : decode cL_act 558 = .ok (.iload_n 2, 1) := by decide +kernel
theorem dL_act_559 : decode cL_act 559 = .ok (.bipush 7, 2) := by decide +kernel
theorem dL_act_561 : decode cL_act 561 = .ok (.ishr, 1) := by decide +kernel
theorem dL_act_562 : decode cL_act 562 = .ok (.iconst 3, 1) := by decide +kernel
theorem dL_act_563 : decode cL_act 563 = .ok (.invokestatic 18, 3) := by decide +kernel
theorem dL_act_566 : decode cL_act 566 = .ok (.ifCond .le 5, 3) := by decide +kernel
theorem dL_act_569 : decode cL_act 569 = .ok (.iconst 1, 1) := by decide +kernel
theorem dL_act_570 : decode cL_act 570 = .ok (.ireturn, 1) := by decide +kernel
theorem dL_act_571 : decode cL_act 571 = .ok (.iload_n 2, 1) := by decide +kernel
theorem dL_act_572 : decode cL_act 572 = .ok (.iconst 3, 1) := by decide +kernel
theorem dL_act_573 : decode cL_act 573 = .ok (.ishr, 1) := by decide +kernel
theorem dL_act_574 : decode cL_act 574 = .ok (.iload_n 3, 1) := by decide +kernel
theorem dL_act_575 : decode cL_act 575 = .ok (.invokestatic 18, 3) := by decide +kernel
theorem dL_act_578 : decode cL_act 578 = .ok (.istore 8, 2) := by decide +kernel
theorem dL_act_580 : decode cL_act 580 = .ok (.aload_n 1, 1) := by decide +kernel
theorem dL_act_581 : decode cL_act 581 = .ok (.getfield 9, 3) := by decide +kernel
theorem dL_act_584 : decode cL_act 584 = .ok (.iload 8, 2) := by decide +kernel
theorem dL_act_586 : decode cL_act 586 = .ok (.aaload, 1) := by decide +kernel
theorem dL_act_587 : decode cL_act 587 = .ok (.iconst 3, 1) := by decide +kernel
theorem dL_act_588 : decode cL_act 588 = .ok (.iaload, 1) := by decide +kernel
theorem dL_act_589 : decode cL_act 589 = .ok (.ifCond .ne 7, 3) := by decide +kernel
theorem dL_act_592 : decode cL_act 592 = .ok (.iconst 1, 1) := by decide +kernel
theorem dL_act_593 : decode cL_act 593 = .ok (.goto 4, 3) := by decide +kernel
theorem dL_act_596 : decode cL_act 596 = .ok (.iconst 0, 1) := by decide +kernel
theorem dL_act_597 : decode cL_act 597 = .ok (.istore 6, 2) := by decide +kernel
theorem dL_act_599 : decode cL_act 599 = .ok (.aload_n 0, 1) := by decide +kernel
theorem dL_act_600 : decode cL_act 600 = .ok (.iload 8, 2) := by decide +kernel
theorem dL_act_602 : decode cL_act 602 = .ok (.invokevirtual 57, 3) := by decide +kernel
theorem dL_act_605 : decode cL_act 605 = .ok (.aload_n 1, 1) := by decide +kernel
theorem dL_act_606 : decode cL_act 606 = .ok (.iload 8, 2) := by decide +kernel
theorem dL_act_608 : decode cL_act 608 = .ok (.invokevirtual 61, 3) := by decide +kernel
theorem dL_act_611 : decode cL_act 611 = .ok (.if_icmp .ne 12, 3) := by decide +kernel
theorem dL_act_614 : decode cL_act 614 = .ok (.iload 6, 2) := by decide +kernel
theorem dL_act_616 : decode cL_act 616 = .ok (.ifCond .eq 7, 3) := by decide +kernel
theorem dL_act_619 : decode cL_act 619 = .ok (.iconst 1, 1) := by decide +kernel
theorem dL_act_620 : decode cL_act 620 = .ok (.goto 4, 3) := by decide +kernel
theorem dL_act_623 : decode cL_act 623 = .ok (.iconst 0, 1) := by decide +kernel
theorem dL_act_624 : decode cL_act 624 = .ok (.ireturn, 1) := by decide +kernel
theorem dL_act_625 : decode cL_act 625 = .ok (.iconst 1, 1) := by decide +kernel
theorem dL_act_626 : decode cL_act 626 = .ok (.iload_n 2, 1) := by decide +kernel
theorem dL_act_627 : decode cL_act 627 = .ok (.iconst 4, 1) := by decide +kernel
theorem dL_act_628 : decode cL_act 628 = .ok (.ishr, 1) := by decide +kernel
theorem dL_act_629 : decode cL_act 629 = .ok (.iload_n 2, 1) := by decide +kernel
theorem dL_act_630 : decode cL_act 630 = .ok (.bipush 8, 2) := by decide +kernel
theorem dL_act_632 : decode cL_act 632 = .ok (.ishr, 1) := by decide +kernel
theorem dL_act_633 : decode cL_act 633 = .ok (.bipush 8, 2) := by decide +kernel
theorem dL_act_635 : decode cL_act 635 = .ok (.invokestatic 18, 3) := by decide +kernel
theorem dL_act_638 : decode cL_act 638 = .ok (.ifCond .ne 8, 3) := by decide +kernel
theorem dL_act_641 : decode cL_act 641 = .ok (.bipush 60, 2) := by decide +kernel
theorem dL_act_643 : decode cL_act 643 = .ok (.goto 4, 3) := by decide +kernel
theorem dL_act_646 : decode cL_act 646 = .ok (.iconst 4, 1) := by decide +kernel
theorem dL_act_647 : decode cL_act 647 = .ok (.invokestatic 18, 3) := by decide +kernel
theorem dL_act_650 : decode cL_act 650 = .ok (.iadd, 1) := by decide +kernel
theorem dL_act_651 : decode cL_act 651 = .ok (.istore 8, 2) := by decide +kernel
theorem dL_act_653 : decode cL_act 653 = .ok (.aload_n 0, 1) := by decide +kernel
theorem dL_act_654 : decode cL_act 654 = .ok (.iload 8, 2) := by decide +kernel
theorem dL_act_656 : decode cL_act 656 = .ok (.invokevirtual 62, 3) := by decide +kernel
theorem dL_act_659 : decode cL_act 659 = .ok (.aload_n 1, 1) := by decide +kernel
theorem dL_act_660 : decode cL_act 660 = .ok (.iload 8, 2) := by decide +kernel
theorem dL_act_662 : decode cL_act 662 = .ok (.invokevirtual 65, 3) := by decide +kernel
theorem dL_act_665 : decode cL_act 665 = .ok (.if_icmp .ne 7, 3) := by decide +kernel
theorem dL_act_668 : decode cL_act 668 = .ok (.iconst 1, 1) := by decide +kernel
theorem dL_act_669 : decode cL_act 669 = .ok (.goto 4, 3) := by decide +kernel
theorem dL_act_672 : decode cL_act 672 = .ok (.iconst 0, 1) := by decide +kernel
theorem dL_act_673 : decode cL_act 673 = .ok (.ireturn, 1) := by decide +kernel
theorem dL_act_674 : decode cL_act 674 = .ok (.astore 7, 2) := by decide +kernel
theorem dL_act_676 : decode cL_act 676 = .ok (.iload 6, 2) := by decide +kernel
theorem dL_act_678 : decode cL_act 678 = .ok (.ifCond .ne 7, 3) := by decide +kernel
theorem dL_act_681 : decode cL_act 681 = .ok (.iconst 1, 1) := by decide +kernel
theorem dL_act_682 : decode cL_act 682 = .ok (.goto 4, 3) := by decide +kernel
theorem dL_act_685 : decode cL_act 685 = .ok (.iconst 0, 1) := by decide +kernel
theorem dL_act_686 : decode cL_act 686 = .ok (.ireturn, 1) := by decide +kernel
set_option maxRecDepth 20000 in
theorem ggL_build_X3_init : GoodIn wsL_build wsX3_init := goodIn_r _ [6, 7, 8, 9, 10, 11, 12, 13, 14, 210, 211, 212, 213, 214, 215] (by decide +kernel) (by decide +kernel)
set_option maxRecDepth 20000 in
theorem gL_build_X3_init_n68 : GoodIn wsL_build (wsX3_init) := ggL_build_X3_init
set_option maxRecDepth 20000 in
theorem ggL_build_L_cell : GoodIn wsL_build wsL_cell := goodIn_r _ [18, 19] (by decide +kernel) (by decide +kernel)
set_option maxRecDepth 20000 in
theorem gL_build_L_cell : GoodIn wsL_build (va_wsS RL 69 yL_cell wsL_cell) := goodIn_app (goodIn_of _ (by decide +kernel)) ggL_build_L_cell
set_option maxRecDepth 20000 in
theorem ggL_build_L_below : GoodIn wsL_build wsL_below := goodIn_r _ [22, 23] (by decide +kernel) (by decide +kernel)
set_option maxRecDepth 20000 in
theorem gL_build_L_below : GoodIn wsL_build (va_wsS RL 18 yL_below wsL_below) := goodIn_app (goodIn_of _ (by decide +kernel)) ggL_build_L_below
set_option maxRecDepth 20000 in
theorem ggL_build_L_act : GoodIn wsL_build wsL_act := goodIn_ca (goodIn_ca (goodIn_ca (goodIn_c (List.mem_of_getElem? (i := 26) rfl) rfl (goodIn_app (goodIn_app (goodIn_app (goodIn_app (goodIn_app (goodIn_r _ [27, 28, 29, 10, 30, 31, 32, 20, 21, 17, 22, 23, 33, 34, 3, 35, 12, 36, 37, 38, 39, 40, 41, 42] (by decide +kernel) (by decide +kernel)) (goodIn_app (goodIn_r _ [43, 44, 45, 46, 47, 48, 49, 50, 51, 52, 53, 54, 55, 56, 57, 58, 59, 60, 61, 62, 63, 64, 65, 66] (by decide +kernel) (by decide +kernel)) (goodIn_app (goodIn_r _ [67, 68, 69, 70, 71, 72, 73, 74, 75, 76, 77, 78, 79, 80, 81, 82, 83, 84, 85, 86, 87, 88, 89, 90] (by decide +kernel) (by decide +kernel)) (goodIn_app (goodIn_r _ [91, 92, 93, 94, 95, 96, 97, 98, 99, 100, 101, 102, 103, 104, 105, 106, 107, 108, 109, 110, 111, 112, 113, 114] (by decide +kernel) (by decide +kernel)) (goodIn_app (goodIn_r _ [115, 116, 117, 118, 119, 120, 121, 122, 123, 124, 125, 126, 127, 128, 129, 130, 131, 132, 133, 13, 14, 134, 135, 136] (by decide +kernel) (by decide +kernel)) (goodIn_app (goodIn_r _ [137, 138, 139, 140, 141, 142, 143, 144, 145, 146, 147, 148, 149, 150, 151, 152, 153, 154, 155, 156, 157, 158, 159, 160] (by decide +kernel) (by decide +kernel)) (goodIn_app (goodIn_r _ [161, 162, 163, 164, 165, 166, 167, 168, 169, 170, 171, 172, 173, 174, 175, 176, 177, 178, 179, 180, 181, 182, 183, 184] (by decide +kernel) (by decide +kernel)) (goodIn_app (goodIn_r _ [185, 186, 187, 188, 189, 190, 191, 192, 193, 194, 195, 196, 197, 11, 198, 199, 200, 201, 202, 203, 204, 205, 206, 207] (by decide +kernel) (by decide +kernel)) (goodIn_r _ [208, 209] (by decide +kernel) (by decide +kernel)))))))))) (goodIn_r _ [210, 211, 212, 213, 214, 215] (by decide +kernel) (by decide +kernel))) (goodIn_r _ [216, 217] (by decide +kernel) (by decide +kernel))) (goodIn_r _ [218, 219, 220, 221, 222, 223, 224, 225, 226, 227, 228, 229, 230, 231] (by decide +kernel) (by decide +kernel))) (goodIn_r _ [232] (by decide +kernel) (by decide +kernel)))) (goodIn_sub (fun _ h => List.mem_cons_of_mem _ (List.mem_append_left _ (List.mem_append_left _ (List.mem_append_right _ h)))) (by decide +kernel))) (goodIn_sub (fun _ h => List.mem_cons_of_mem _ (List.mem_append_left _ (List.mem_append_right _ h))) (by decide +kernel))) (goodIn_sub (fun _ h => List.mem_cons_of_mem _ (List.mem_append_right _ h)) (by decide +kernel))
set_option maxRecDepth 20000 in
theorem gL_build_L_act : GoodIn wsL_build (va_wsS RL 74 yL_act wsL_act) := goodIn_app (goodIn_of _ (by decide +kernel)) ggL_build_L_act
theorem dL_build_0 : decode cL_build 0 = .ok (.new 10, 3) := by decide +kernel
theorem dL_build_3 : decode cL_build 3 = .ok (.dup, 1) := by decide +kernel
theorem dL_build_4 : decode cL_build 4 = .ok (.invokespecial 68, 3) := by decide +kernel
theorem dL_build_7 : decode cL_build 7 = .ok (.astore_n 2, 1) := by decide +kernel
theorem dL_build_8 : decode cL_build 8 = .ok (.iconst 1, 1) := by decide +kernel
theorem dL_build_9 : decode cL_build 9 = .ok (.aload_n 1, 1) := by decide +kernel
theorem dL_build_10 : decode cL_build 10 = .ok (.iconst 0, 1) := by decide +kernel
theorem dL_build_11 : decode cL_build 11 = .ok (.invokestatic 69, 3) := by decide +kernel
theorem dL_build_14 : decode cL_build 14 = .ok (.iconst 5, 1) := by decide +kernel
theorem dL_build_15 : decode cL_build 15 = .ok (.invokestatic 18, 3) := by decide +kernel
theorem dL_build_18 : decode cL_build 18 = .ok (.iadd, 1) := by decide +kernel
theorem dL_build_19 : decode cL_build 19 = .ok (.istore_n 3, 1) := by decide +kernel
theorem dL_build_20 : decode cL_build 20 = .ok (.iconst 2, 1) := by decide +kernel
theorem dL_build_21 : decode cL_build 21 = .ok (.aload_n 1, 1) := by decide +kernel
theorem dL_build_22 : decode cL_build 22 = .ok (.iconst 1, 1) := by decide +kernel
theorem dL_build_23 : decode cL_build 23 = .ok (.invokestatic 69, 3) := by decide +kernel
theorem dL_build_26 : decode cL_build 26 = .ok (.bipush 7, 2) := by decide +kernel
theorem dL_build_28 : decode cL_build 28 = .ok (.invokestatic 18, 3) := by decide +kernel
theorem dL_build_31 : decode cL_build 31 = .ok (.iadd, 1) := by decide +kernel
theorem dL_build_32 : decode cL_build 32 = .ok (.istore 4, 2) := by decide +kernel
theorem dL_build_34 : decode cL_build 34 = .ok (.iconst 0, 1) := by decide +kernel
theorem dL_build_35 : decode cL_build 35 = .ok (.istore 5, 2) := by decide +kernel
theorem dL_build_37 : decode cL_build 37 = .ok (.iload 5, 2) := by decide +kernel
theorem dL_build_39 : decode cL_build 39 = .ok (.iload_n 3, 1) := by decide +kernel
theorem dL_build_40 : decode cL_build 40 = .ok (.if_icmp .ge 35, 3) := by decide +kernel
theorem dL_build_43 : decode cL_build 43 = .ok (.aload_n 0, 1) := by decide +kernel
theorem dL_build_44 : decode cL_build 44 = .ok (.aload_n 2, 1) := by decide +kernel
theorem dL_build_45 : decode cL_build 45 = .ok (.bipush 14, 2) := by decide +kernel
theorem dL_build_47 : decode cL_build 47 = .ok (.aload_n 1, 1) := by decide +kernel
theorem dL_build_48 : decode cL_build 48 = .ok (.iconst 2, 1) := by decide +kernel
theorem dL_build_49 : decode cL_build 49 = .ok (.iload 5, 2) := by decide +kernel
theorem dL_build_51 : decode cL_build 51 = .ok (.iadd, 1) := by decide +kernel
theorem dL_build_52 : decode cL_build 52 = .ok (.invokestatic 69, 3) := by decide +kernel
theorem dL_build_55 : decode cL_build 55 = .ok (.iconst 5, 1) := by decide +kernel
theorem dL_build_56 : decode cL_build 56 = .ok (.ishr, 1) := by decide +kernel
theorem dL_build_57 : decode cL_build 57 = .ok (.ldc 73, 2) := by decide +kernel
theorem dL_build_59 : decode cL_build 59 = .ok (.iand, 1) := by decide +kernel
theorem dL_build_60 : decode cL_build 60 = .ok (.imul, 1) := by decide +kernel
theorem dL_build_61 : decode cL_build 61 = .ok (.invokestatic 74, 3) := by decide +kernel
theorem dL_build_64 : decode cL_build 64 = .ok (.ifCond .ne 5, 3) := by decide +kernel
theorem dL_build_67 : decode cL_build 67 = .ok (.aconst_null, 1) := by decide +kernel
theorem dL_build_68 : decode cL_build 68 = .ok (.areturn, 1) := by decide +kernel
theorem dL_build_69 : decode cL_build 69 = .ok (.iinc 5 1, 3) := by decide +kernel
theorem dL_build_72 : decode cL_build 72 = .ok (.goto (-35), 3) := by decide +kernel
theorem dL_build_75 : decode cL_build 75 = .ok (.iconst 0, 1) := by decide +kernel
theorem dL_build_76 : decode cL_build 76 = .ok (.istore 5, 2) := by decide +kernel
theorem dL_build_78 : decode cL_build 78 = .ok (.iload 5, 2) := by decide +kernel
theorem dL_build_80 : decode cL_build 80 = .ok (.iload 4, 2) := by decide +kernel
theorem dL_build_82 : decode cL_build 82 = .ok (.if_icmp .ge 41, 3) := by decide +kernel
theorem dL_build_85 : decode cL_build 85 = .ok (.aload_n 0, 1) := by decide +kernel
theorem dL_build_86 : decode cL_build 86 = .ok (.aload_n 2, 1) := by decide +kernel
theorem dL_build_87 : decode cL_build 87 = .ok (.bipush 14, 2) := by decide +kernel
theorem dL_build_89 : decode cL_build 89 = .ok (.aload_n 1, 1) := by decide +kernel
theorem dL_build_90 : decode cL_build 90 = .ok (.iload 5, 2) := by decide +kernel
theorem dL_build_92 : decode cL_build 92 = .ok (.invokestatic 69, 3) := by decide +kernel
theorem dL_build_95 : decode cL_build 95 = .ok (.iconst 4, 1) := by decide +kernel
theorem dL_build_96 : decode cL_build 96 = .ok (.ishr, 1) := by decide +kernel
theorem dL_build_97 : decode cL_build 97 = .ok (.bipush 97, 2) := by decide +kernel
theorem dL_build_99 : decode cL_build 99 = .ok (.iload 5, 2) := by decide +kernel
theorem dL_build_101 : decode cL_build 101 = .ok (.imul, 1) := by decide +kernel
theorem dL_build_102 : decode cL_build 102 = .ok (.iadd, 1) := by decide +kernel
theorem dL_build_103 : decode cL_build 103 = .ok (.ldc 73, 2) := by decide +kernel
theorem dL_build_105 : decode cL_build 105 = .ok (.iand, 1) := by decide +kernel
theorem dL_build_106 : decode cL_build 106 = .ok (.imul, 1) := by decide +kernel
theorem dL_build_107 : decode cL_build 107 = .ok (.iconst 1, 1) := by decide +kernel
theorem dL_build_108 : decode cL_build 108 = .ok (.iadd, 1) := by decide +kernel
theorem dL_build_109 : decode cL_build 109 = .ok (.invokestatic 74, 3) := by decide +kernel
theorem dL_build_112 : decode cL_build 112 = .ok (.ifCond .ne 5, 3) := by decide +kernel
theorem dL_build_115 : decode cL_build 115 = .ok (.aconst_null, 1) := by decide +kernel
theorem dL_build_116 : decode cL_build 116 = .ok (.areturn, 1) := by decide +kernel
theorem dL_build_117 : decode cL_build 117 = .ok (.iinc 5 1, 3) := by decide +kernel
theorem dL_build_120 : decode cL_build 120 = .ok (.goto (-42), 3) := by decide +kernel
theorem dL_build_123 : decode cL_build 123 = .ok (.iconst 0, 1) := by decide +kernel
theorem dL_build_124 : decode cL_build 124 = .ok (.istore 5, 2) := by decide +kernel
theorem dL_build_126 : decode cL_build 126 = .ok (.iload 5, 2) := by decide +kernel
theorem dL_build_128 : decode cL_build 128 = .ok (.bipush 8, 2) := by decide +kernel
theorem dL_build_130 : decode cL_build 130 = .ok (.if_icmp .ge 33, 3) := by decide +kernel
theorem dL_build_133 : decode cL_build 133 = .ok (.aload_n 0, 1) := by decide +kernel
theorem dL_build_134 : decode cL_build 134 = .ok (.aload_n 2, 1) := by decide +kernel
theorem dL_build_135 : decode cL_build 135 = .ok (.aload_n 1, 1) := by decide +kernel
theorem dL_build_136 : decode cL_build 136 = .ok (.iload 5, 2) := by decide +kernel
theorem dL_build_138 : decode cL_build 138 = .ok (.invokestatic 69, 3) := by decide +kernel
theorem dL_build_141 : decode cL_build 141 = .ok (.iconst 2, 1) := by decide +kernel
theorem dL_build_142 : decode cL_build 142 = .ok (.ishr, 1) := by decide +kernel
theorem dL_build_143 : decode cL_build 143 = .ok (.bipush 41, 2) := by decide +kernel
theorem dL_build_145 : decode cL_build 145 = .ok (.iload 5, 2) := by decide +kernel
theorem dL_build_147 : decode cL_build 147 = .ok (.imul, 1) := by decide +kernel
theorem dL_build_148 : decode cL_build 148 = .ok (.iadd, 1) := by decide +kernel
theorem dL_build_149 : decode cL_build 149 = .ok (.invokestatic 74, 3) := by decide +kernel
theorem dL_build_152 : decode cL_build 152 = .ok (.ifCond .ne 5, 3) := by decide +kernel
theorem dL_build_155 : decode cL_build 155 = .ok (.aconst_null, 1) := by decide +kernel
theorem dL_build_156 : decode cL_build 156 = .ok (.areturn, 1) := by decide +kernel
theorem dL_build_157 : decode cL_build 157 = .ok (.iinc 5 1, 3) := by decide +kernel
theorem dL_build_160 : decode cL_build 160 = .ok (.goto (-34), 3) := by decide +kernel
theorem dL_build_163 : decode cL_build 163 = .ok (.aload_n 2, 1) := by decide +kernel
theorem dL_build_164 : decode cL_build 164 = .ok (.areturn, 1) := by decide +kernel
set_option maxRecDepth 20000 in
theorem ggL_law_X2_init : GoodIn wsL_law wsX2_init := goodIn_r _ [16, 17, 18, 19, 20, 21, 22, 23, 24, 25, 26, 27, 28, 29, 30, 31, 32, 33, 34, 35, 36, 37, 38, 39, 40, 41, 42, 43, 44, 45, 11, 12, 13, 6, 46, 445, 446, 447, 448, 449, 450, 451, 452, 453, 454, 455, 456, 457, 458, 437, 438, 459] (by decide +kernel) (by decide +kernel)
set_option maxRecDepth 20000 in
theorem gL_law_X2_init : GoodIn wsL_law (wsX2_init) := ggL_law_X2_init
set_option maxRecDepth 20000 in
theorem ggL_law_L_build : GoodIn wsL_law wsL_build := goodIn_ca (goodIn_ca (goodIn_ca (goodIn_c (List.mem_of_getElem? (i := 50) (by decide +kernel)) rfl (goodIn_app (goodIn_app (goodIn_app (goodIn_app (goodIn_app (goodIn_r _ [51, 52, 53, 54, 55, 56, 57, 18, 19, 6, 58, 59, 60, 61, 62, 63, 49, 64, 65, 66, 67, 68, 69, 70] (by decide +kernel) (by decide +kernel)) (goodIn_app (goodIn_c (List.mem_of_getElem? (i := 71) (by decide +kernel)) rfl (goodIn_c (List.mem_of_getElem? (i := 72) rfl) rfl (goodIn_r _ [73, 7, 8, 9, 4, 5, 74, 75, 76, 77, 78, 79, 2, 80, 81, 82, 83, 84, 23, 85, 86, 87] (by decide +kernel) (by decide +kernel)))) (goodIn_app (goodIn_r _ [88, 89, 90, 22, 91, 92, 32, 33, 93, 94, 95, 30, 96, 46, 97, 98, 99, 100, 101, 102, 103, 104, 105, 106] (by decide +kernel) (by decide +kernel)) (goodIn_app (goodIn_r _ [107, 108, 109, 110, 111, 112, 113, 35, 114, 115, 116, 117, 118, 119, 120, 121, 122, 36, 37, 38, 39, 123, 124, 125] (by decide +kernel) (by decide +kernel)) (goodIn_app (goodIn_r _ [126, 127, 128, 129, 130, 131, 132, 133, 134, 135, 136, 137, 138, 139, 140, 141, 142, 143, 144, 145, 146, 147, 148, 149] (by decide +kernel) (by decide +kernel)) (goodIn_app (goodIn_r _ [150, 151, 152, 153, 154, 155, 156, 157, 158, 159, 160, 161, 162, 163, 164, 165, 166, 167, 168, 169, 170, 171, 172, 173] (by decide +kernel) (by decide +kernel)) (goodIn_app (goodIn_r _ [174, 175, 40, 176, 177, 178, 179, 180, 181, 11, 12, 13, 182, 183, 184, 185, 186, 31, 187, 188, 189, 190, 34, 191] (by decide +kernel) (by decide +kernel)) (goodIn_app (goodIn_r _ [192, 193, 194, 195, 196, 197, 198, 199, 200, 201, 202, 203, 204, 205, 206, 207, 208, 209, 210, 211, 212, 213, 214, 215] (by decide +kernel) (by decide +kernel)) (goodIn_r _ [216, 217, 218, 219, 220, 221, 222, 223, 224, 225, 226, 227, 228, 229, 230, 231, 232] (by decide +kernel) (by decide +kernel)))))))))) (goodIn_r _ [439, 440, 441, 442, 443, 444] (by decide +kernel) (by decide +kernel))) (goodIn_r _ [437, 438] (by decide +kernel) (by decide +kernel))) (goodIn_r _ [445, 446, 447, 448, 449, 450, 451, 452, 453, 454, 455, 456, 457, 458] (by decide +kernel) (by decide +kernel))) (goodIn_r _ [459] (by decide +kernel) (by decide +kernel)))) (goodIn_sub (fun _ h => List.mem_append_left _ (List.mem_append_left _ (List.mem_append_right _ h))) (by decide +kernel))) (goodIn_sub (fun _ h => List.mem_append_left _ (List.mem_append_right _ h)) (by decide +kernel))) (goodIn_sub (fun _ h => List.mem_append_right _ h) (by decide +kernel))
set_option maxRecDepth 20000 in
theorem gL_law_L_build : GoodIn wsL_law (va_wsS RL 79 yL_build wsL_build) := goodIn_app (goodIn_of _ (by decide +kernel)) ggL_law_L_build
set_option maxRecDepth 20000 in
theorem ggL_law_L_cell : GoodIn wsL_law wsL_cell := goodIn_r _ [64, 65] (by decide +kernel) (by decide +kernel)
set_option maxRecDepth 20000 in
theorem gL_law_L_cell : GoodIn wsL_law (va_wsS RL 69 yL_cell wsL_cell) := goodIn_app (goodIn_of _ (by decide +kernel)) ggL_law_L_cell
set_option maxRecDepth 20000 in
theorem ggL_law_L_act : GoodIn wsL_law wsL_act := goodIn_ca (goodIn_ca (goodIn_ca (goodIn_c (List.mem_of_getElem? (i := 72) rfl) rfl (goodIn_app (goodIn_app (goodIn_app (goodIn_app (goodIn_app (goodIn_r _ [73, 7, 8, 6, 9, 4, 5, 66, 67, 49, 68, 69, 74, 75, 53, 76, 59, 77, 78, 79, 2, 80, 81, 82] (by decide +kernel) (by decide +kernel)) (goodIn_app (goodIn_r _ [83, 84, 23, 85, 86, 87, 88, 89, 90, 22, 91, 92, 32, 33, 93, 94, 95, 30, 96, 46, 97, 98, 99, 100] (by decide +kernel) (by decide +kernel)) (goodIn_app (goodIn_r _ [101, 102, 103, 104, 105, 106, 107, 108, 109, 110, 111, 112, 113, 35, 114, 115, 116, 117, 118, 119, 120, 121, 122, 36] (by decide +kernel) (by decide +kernel)) (goodIn_app (goodIn_r _ [37, 38, 39, 123, 124, 125, 126, 127, 128, 129, 130, 131, 132, 133, 134, 135, 136, 137, 138, 139, 140, 141, 142, 143] (by decide +kernel) (by decide +kernel)) (goodIn_app (goodIn_r _ [144, 145, 146, 147, 148, 149, 150, 151, 152, 153, 154, 155, 156, 157, 158, 159, 160, 161, 162, 60, 61, 163, 164, 165] (by decide +kernel) (by decide +kernel)) (goodIn_app (goodIn_r _ [166, 167, 168, 169, 170, 171, 172, 173, 174, 175, 40, 176, 177, 178, 179, 180, 181, 11, 12, 13, 182, 183, 184, 185] (by decide +kernel) (by decide +kernel)) (goodIn_app (goodIn_r _ [186, 31, 187, 188, 189, 190, 34, 191, 192, 193, 194, 195, 196, 197, 198, 199, 200, 201, 202, 203, 204, 205, 206, 207] (by decide +kernel) (by decide +kernel)) (goodIn_app (goodIn_r _ [208, 209, 210, 211, 212, 213, 214, 215, 216, 217, 218, 219, 220, 58, 221, 222, 223, 224, 225, 226, 227, 228, 229, 230] (by decide +kernel) (by decide +kernel)) (goodIn_r _ [231, 232] (by decide +kernel) (by decide +kernel)))))))))) (goodIn_r _ [439, 440, 441, 442, 443, 444] (by decide +kernel) (by decide +kernel))) (goodIn_r _ [437, 438] (by decide +kernel) (by decide +kernel))) (goodIn_r _ [445, 446, 447, 448, 449, 450, 451, 452, 453, 454, 455, 456, 457, 458] (by decide +kernel) (by decide +kernel))) (goodIn_r _ [459] (by decide +kernel) (by decide +kernel)))) (goodIn_sub (fun _ h => List.mem_append_left _ (List.mem_append_left _ (List.mem_append_right _ h))) (by decide +kernel))) (goodIn_sub (fun _ h => List.mem_append_left _ (List.mem_append_right _ h)) (by decide +kernel))) (goodIn_sub (fun _ h => List.mem_append_right _ h) (by decide +kernel))
set_option maxRecDepth 20000 in
theorem gL_law_L_act : GoodIn wsL_law (va_wsS RL 74 yL_act wsL_act) := goodIn_app (goodIn_of _ (by decide +kernel)) ggL_law_L_act
set_option maxRecDepth 20000 in
theorem ggL_law_X2_digest : GoodIn wsL_law wsX2_digest := goodIn_ca (goodIn_ca (goodIn_r _ [236, 237, 238, 239, 240, 2, 241, 23, 242, 243, 244, 245, 246, 247, 248, 249, 250, 251, 252, 253, 254, 255, 256, 257, 167, 168, 169, 22, 170, 122, 39, 114, 115, 116, 30, 117, 46, 258, 259, 260, 261, 262, 263, 264, 265, 266, 267, 268, 269, 135, 270, 271, 272, 273, 148, 149, 150, 81, 82, 85, 86, 87, 274, 198, 199, 200, 182, 132, 133, 134, 201, 202, 203, 204, 38, 31, 37, 275, 276, 277, 278, 279, 280, 281, 282, 24, 283, 284, 285, 286, 32, 33, 34, 35, 92, 36, 175, 40, 176, 287, 288, 289, 290, 291, 171, 172, 173, 174, 177, 178, 179, 180, 181, 11, 12, 13, 183, 184, 185, 186, 93, 94, 95, 96, 187, 188, 189, 190, 191, 192, 193, 194, 195, 111, 112, 113, 196, 156, 157, 158, 197, 205, 206, 207, 208, 292, 293, 294, 295, 296, 297, 298, 299, 300, 301, 302, 303, 107, 108, 109, 105, 106, 304, 305, 306, 307, 308, 309, 310, 311, 312, 313, 314, 315, 316, 317, 318, 319, 101, 102, 103, 104, 320, 321, 322, 323, 324, 325, 326, 327, 110, 328, 329, 330, 331, 332, 333, 334, 335, 336, 337, 338, 339, 127, 128, 129, 130, 131, 340, 341, 342, 343, 344, 345, 346, 347, 348, 349, 350, 351, 352, 353, 354, 355, 356, 357, 358, 359, 360, 361, 362, 363, 364, 365, 366, 367, 368, 369, 370, 437, 438, 445, 446, 447, 448, 449, 450, 451, 452, 453, 454, 455, 456, 457, 458, 459] (by decide +kernel) (by decide +kernel)) (goodIn_sub (fun _ h => List.mem_append_left _ (List.mem_append_left _ (List.mem_append_right _ h))) (by decide +kernel))) (goodIn_sub (fun _ h => List.mem_append_right _ h) (by decide +kernel))
set_option maxRecDepth 20000 in
theorem gL_law_X2_digest : GoodIn wsL_law (wsV RL 83 RX2 yX2_digest wsX2_digest) := goodIn_app (goodIn_of _ (by decide +kernel)) ggL_law_X2_digest
set_option maxRecDepth 20000 in
theorem ggL_law_X2_tins : GoodIn wsL_law wsX2_tins := goodIn_r _ [253, 23, 437, 438, 445, 446, 447, 448, 449, 450, 451, 452, 453, 454, 455, 456, 457, 458] (by decide +kernel) (by decide +kernel)
set_option maxRecDepth 20000 in
theorem gL_law_X2_tins : GoodIn wsL_law (wsV RL 87 RX2 yX2_tins wsX2_tins) := goodIn_app (goodIn_of _ (by decide +kernel)) ggL_law_X2_tins
set_option maxRecDepth 20000 in
theorem ggL_law_X2_inCellar : GoodIn wsL_law wsX2_inCellar := goodIn_r _ [257, 23, 167, 168, 169, 22, 170, 122, 39, 114, 115, 116, 30, 117, 46, 437, 438, 445, 446, 447, 448, 449, 450, 451, 452, 453, 454, 455, 456, 457, 458, 459] (by decide +kernel) (by decide +kernel)
set_option maxRecDepth 20000 in
theorem gL_law_X2_inCellar : GoodIn wsL_law (wsV RL 90 RX2 yX2_inCellar wsX2_inCellar) := goodIn_app (goodIn_of _ (by decide +kernel)) ggL_law_X2_inCellar
set_option maxRecDepth 20000 in
theorem ggL_law_X2_placeBy : GoodIn wsL_law wsX2_placeBy := goodIn_ca (goodIn_ca (goodIn_r _ [351, 23, 127, 128, 129, 2, 130, 105, 106, 85, 86, 87, 148, 149, 150, 81, 82, 131, 132, 133, 22, 134, 39, 114, 115, 116, 30, 117, 46, 352, 353, 354, 355, 122, 201, 202, 203, 204, 38, 31, 37, 182, 437, 438, 445, 446, 447, 448, 449, 450, 451, 452, 453, 454, 455, 456, 457, 458, 459] (by decide +kernel) (by decide +kernel)) (goodIn_sub (fun _ h => List.mem_append_right _ h) (by decide +kernel))) (goodIn_sub (fun _ h => List.mem_append_left _ (List.mem_append_left _ (List.mem_append_right _ h))) (by decide +kernel))
set_option maxRecDepth 20000 in
theorem gL_law_X2_placeBy : GoodIn wsL_law (wsV RL 93 RX2 yX2_placeBy wsX2_placeBy) := goodIn_app (goodIn_of _ (by decide +kernel)) ggL_law_X2_placeBy
set_option maxRecDepth 20000 in
theorem ggL_law_X2_shelfOf : GoodIn wsL_law wsX2_shelfOf := goodIn_ca (goodIn_r _ [339, 23, 127, 128, 129, 2, 130, 105, 106, 85, 86, 87, 131, 132, 133, 22, 134, 39, 114, 115, 116, 30, 117, 46, 135, 437, 438, 445, 446, 447, 448, 449, 450, 451, 452, 453, 454, 455, 456, 457, 458, 459] (by decide +kernel) (by decide +kernel)) (goodIn_sub (fun _ h => List.mem_append_right _ h) (by decide +kernel))
set_option maxRecDepth 20000 in
theorem gL_law_X2_shelfOf : GoodIn wsL_law (wsV RL 96 RX2 yX2_shelfOf wsX2_shelfOf) := goodIn_app (goodIn_of _ (by decide +kernel)) ggL_law_X2_shelfOf
set_option maxRecDepth 20000 in
theorem ggL_law_X2_first : GoodIn wsL_law wsX2_first := goodIn_ca (goodIn_r _ [273, 23, 148, 149, 2, 150, 81, 82, 85, 86, 87, 274, 198, 199, 22, 200, 122, 182, 132, 133, 134, 39, 114, 115, 116, 30, 117, 46, 201, 202, 203, 204, 38, 31, 37, 437, 438, 445, 446, 447, 448, 449, 450, 451, 452, 453, 454, 455, 456, 457, 458, 459] (by decide +kernel) (by decide +kernel)) (goodIn_sub (fun _ h => List.mem_append_left _ (List.mem_append_left _ (List.mem_append_right _ h))) (by decide +kernel))
set_option maxRecDepth 20000 in
theorem gL_law_X2_first : GoodIn wsL_law (wsV RL 99 RX2 yX2_first wsX2_first) := goodIn_app (goodIn_of _ (by decide +kernel)) ggL_law_X2_first
set_option maxRecDepth 20000 in
theorem ggL_law_X2_bestShelf : GoodIn wsL_law wsX2_bestShelf := goodIn_ca (goodIn_r _ [367, 23, 127, 128, 129, 2, 130, 105, 106, 85, 86, 87, 131, 132, 133, 22, 134, 39, 114, 115, 116, 30, 117, 46, 360, 361, 362, 363, 38, 183, 184, 185, 186, 33, 36, 31, 368, 369, 370, 437, 438, 445, 446, 447, 448, 449, 450, 451, 452, 453, 454, 455, 456, 457, 458, 459] (by decide +kernel) (by decide +kernel)) (goodIn_sub (fun _ h => List.mem_append_right _ h) (by decide +kernel))
set_option maxRecDepth 20000 in
theorem gL_law_X2_bestShelf : GoodIn wsL_law (wsV RL 102 RX2 yX2_bestShelf wsX2_bestShelf) := goodIn_app (goodIn_of _ (by decide +kernel)) ggL_law_X2_bestShelf
set_option maxRecDepth 20000 in
theorem ggL_law_L_below : GoodIn wsL_law wsL_below := goodIn_r _ [68, 69] (by decide +kernel) (by decide +kernel)
set_option maxRecDepth 20000 in
theorem gL_law_L_below : GoodIn wsL_law (va_wsS RL 18 yL_below wsL_below) := goodIn_app (goodIn_of _ (by decide +kernel)) ggL_law_L_below
set_option maxRecDepth 20000 in
theorem ggL_law_X2_isShipped : GoodIn wsL_law wsX2_isShipped := goodIn_ca (goodIn_r _ [347, 23, 127, 128, 129, 2, 130, 105, 106, 85, 86, 87, 135, 115, 116, 30, 117, 46, 437, 438, 445, 446, 447, 448, 449, 450, 451, 452, 453, 454, 455, 456, 457, 458, 459] (by decide +kernel) (by decide +kernel)) (goodIn_sub (fun _ h => List.mem_append_right _ h) (by decide +kernel))
set_option maxRecDepth 20000 in
theorem gL_law_X2_isShipped : GoodIn wsL_law (wsV RL 105 RX2 yX2_isShipped wsX2_isShipped) := goodIn_app (goodIn_of _ (by decide +kernel)) ggL_law_X2_isShipped
set_option maxRecDepth 20000 in
theorem ggL_law_X2_isLost : GoodIn wsL_law wsX2_isLost := goodIn_ca (goodIn_r _ [381, 23, 127, 128, 129, 2, 130, 105, 106, 85, 86, 87, 135, 115, 116, 30, 117, 46, 437, 438, 445, 446, 447, 448, 449, 450, 451, 452, 453, 454, 455, 456, 457, 458, 459] (by decide +kernel) (by decide +kernel)) (goodIn_sub (fun _ h => List.mem_append_right _ h) (by decide +kernel))
set_option maxRecDepth 20000 in
theorem gL_law_X2_isLost : GoodIn wsL_law (wsV RL 109 RX2 yX2_isLost wsX2_isLost) := goodIn_app (goodIn_of _ (by decide +kernel)) ggL_law_X2_isLost
set_option maxRecDepth 20000 in
theorem ggL_law_X2_vacuumOf : GoodIn wsL_law wsX2_vacuumOf := goodIn_ca (goodIn_r _ [343, 23, 127, 128, 129, 2, 130, 105, 106, 85, 86, 87, 135, 115, 116, 30, 117, 46, 437, 438, 445, 446, 447, 448, 449, 450, 451, 452, 453, 454, 455, 456, 457, 458, 459] (by decide +kernel) (by decide +kernel)) (goodIn_sub (fun _ h => List.mem_append_right _ h) (by decide +kernel))
set_option maxRecDepth 20000 in
theorem gL_law_X2_vacuumOf : GoodIn wsL_law (wsV RL 112 RX2 yX2_vacuumOf wsX2_vacuumOf) := goodIn_app (goodIn_of _ (by decide +kernel)) ggL_law_X2_vacuumOf
set_option maxRecDepth 20000 in
theorem ggL_law_X2_batchOf : GoodIn wsL_law wsX2_batchOf := goodIn_ca (goodIn_r _ [386, 23, 127, 128, 129, 2, 130, 105, 106, 85, 86, 87, 135, 115, 116, 30, 117, 46, 437, 438, 445, 446, 447, 448, 449, 450, 451, 452, 453, 454, 455, 456, 457, 458, 459] (by decide +kernel) (by decide +kernel)) (goodIn_sub (fun _ h => List.mem_append_right _ h) (by decide +kernel))
set_option maxRecDepth 20000 in
theorem gL_law_X2_batchOf : GoodIn wsL_law (wsV RL 115 RX2 yX2_batchOf wsX2_batchOf) := goodIn_app (goodIn_of _ (by decide +kernel)) ggL_law_X2_batchOf
set_option maxRecDepth 20000 in
theorem ggL_law_X2_isRecalled : GoodIn wsL_law wsX2_isRecalled := goodIn_ca (goodIn_r _ [327, 23, 101, 102, 103, 2, 104, 105, 106, 85, 86, 87, 110, 111, 112, 22, 113, 35, 114, 115, 116, 30, 117, 46, 437, 438, 445, 446, 447, 448, 449, 450, 451, 452, 453, 454, 455, 456, 457, 458, 459] (by decide +kernel) (by decide +kernel)) (goodIn_sub (fun _ h => List.mem_append_right _ h) (by decide +kernel))
set_option maxRecDepth 20000 in
theorem gL_law_X2_isRecalled : GoodIn wsL_law (wsV RL 118 RX2 yX2_isRecalled wsX2_isRecalled) := goodIn_app (goodIn_of _ (by decide +kernel)) ggL_law_X2_isRecalled
set_option maxRecDepth 20000 in
theorem ggL_law_X2_daysOf : GoodIn wsL_law wsX2_daysOf := goodIn_ca (goodIn_r _ [359, 23, 127, 128, 129, 2, 130, 105, 106, 85, 86, 87, 131, 132, 133, 22, 134, 39, 114, 115, 116, 30, 117, 46, 135, 360, 361, 362, 363, 38, 183, 184, 185, 186, 33, 36, 31, 437, 438, 445, 446, 447, 448, 449, 450, 451, 452, 453, 454, 455, 456, 457, 458, 459] (by decide +kernel) (by decide +kernel)) (goodIn_sub (fun _ h => List.mem_append_right _ h) (by decide +kernel))
set_option maxRecDepth 20000 in
theorem gL_law_X2_daysOf : GoodIn wsL_law (wsV RL 121 RX2 yX2_daysOf wsX2_daysOf) := goodIn_app (goodIn_of _ (by decide +kernel)) ggL_law_X2_daysOf
set_option maxRecDepth 20000 in
theorem ggL_law_X3_days : GoodIn wsL_law wsX3_days := goodIn_r _ [392, 60, 61, 58, 439, 440, 441, 442, 443, 444] (by decide +kernel) (by decide +kernel)
set_option maxRecDepth 20000 in
theorem gL_law_X3_days : GoodIn wsL_law (wsV RL 124 RX3 yX3_days wsX3_days) := goodIn_app (goodIn_of _ (by decide +kernel)) ggL_law_X3_days
set_option maxRecDepth 20000 in
theorem ggL_law_X2_batches : GoodIn wsL_law wsX2_batches := goodIn_r _ [249, 23, 437, 438, 445, 446, 447, 448, 449, 450, 451, 452, 453, 454, 455, 456, 457, 458] (by decide +kernel) (by decide +kernel)
set_option maxRecDepth 20000 in
theorem gL_law_X2_batches : GoodIn wsL_law (wsV RL 127 RX2 yX2_batches wsX2_batches) := goodIn_app (goodIn_of _ (by decide +kernel)) ggL_law_X2_batches
set_option maxRecDepth 20000 in
theorem ggL_law_X2_swelledOf : GoodIn wsL_law wsX2_swelledOf := goodIn_ca (goodIn_r _ [319, 23, 101, 102, 103, 2, 104, 105, 106, 85, 86, 87, 135, 115, 116, 30, 117, 46, 437, 438, 445, 446, 447, 448, 449, 450, 451, 452, 453, 454, 455, 456, 457, 458, 459] (by decide +kernel) (by decide +kernel)) (goodIn_sub (fun _ h => List.mem_append_right _ h) (by decide +kernel))
set_option maxRecDepth 20000 in
theorem gL_law_X2_swelledOf : GoodIn wsL_law (wsV RL 129 RX2 yX2_swelledOf wsX2_swelledOf) := goodIn_app (goodIn_of _ (by decide +kernel)) ggL_law_X2_swelledOf
set_option maxRecDepth 20000 in
theorem ggL_law_X2_leftOf : GoodIn wsL_law wsX2_leftOf := goodIn_ca (goodIn_r _ [323, 23, 101, 102, 103, 2, 104, 105, 106, 85, 86, 87, 304, 305, 306, 22, 307, 122, 182, 132, 133, 134, 39, 114, 115, 116, 30, 117, 46, 437, 438, 445, 446, 447, 448, 449, 450, 451, 452, 453, 454, 455, 456, 457, 458, 459] (by decide +kernel) (by decide +kernel)) (goodIn_sub (fun _ h => List.mem_append_right _ h) (by decide +kernel))
set_option maxRecDepth 20000 in
theorem gL_law_X2_leftOf : GoodIn wsL_law (wsV RL 132 RX2 yX2_leftOf wsX2_leftOf) := goodIn_app (goodIn_of _ (by decide +kernel)) ggL_law_X2_leftOf
set_option maxRecDepth 20000 in
theorem ggL_law_X2_daysUntilRecalled : GoodIn wsL_law wsX2_daysUntilRecalled := goodIn_ca (goodIn_r _ [331, 23, 24, 101, 102, 103, 2, 104, 105, 106, 85, 86, 87, 110, 111, 112, 22, 113, 35, 114, 115, 116, 30, 117, 46, 283, 284, 285, 286, 31, 32, 33, 34, 92, 36, 37, 38, 39, 122, 175, 40, 176, 287, 288, 289, 290, 291, 171, 172, 173, 174, 177, 178, 179, 180, 181, 11, 12, 13, 182, 132, 133, 134, 183, 184, 185, 186, 93, 94, 95, 96, 187, 188, 189, 190, 191, 192, 193, 194, 195, 196, 156, 157, 158, 197, 198, 199, 200, 201, 202, 203, 204, 205, 206, 207, 208, 437, 438, 445, 446, 447, 448, 449, 450, 451, 452, 453, 454, 455, 456, 457, 458, 459] (by decide +kernel) (by decide +kernel)) (goodIn_sub (fun _ h => List.mem_append_right _ h) (by decide +kernel))
set_option maxRecDepth 20000 in
theorem gL_law_X2_daysUntilRecalled : GoodIn wsL_law (wsV RL 135 RX2 yX2_daysUntilRecalled wsX2_daysUntilRecalled) := goodIn_app (goodIn_of _ (by decide +kernel)) ggL_law_X2_daysUntilRecalled
set_option maxRecDepth 20000 in
theorem ggL_law_X2_swelled : GoodIn wsL_law wsX2_swelled := goodIn_r _ [269, 23, 135, 115, 116, 30, 117, 46, 437, 438, 445, 446, 447, 448, 449, 450, 451, 452, 453, 454, 455, 456, 457, 458, 459] (by decide +kernel) (by decide +kernel)
set_option maxRecDepth 20000 in
theorem gL_law_X2_swelled : GoodIn wsL_law (wsV RL 138 RX2 yX2_swelled wsX2_swelled) := goodIn_app (goodIn_of _ (by decide +kernel)) ggL_law_X2_swelled
set_option maxRecDepth 20000 in
theorem ggL_law_X2_lost : GoodIn wsL_law wsX2_lost := goodIn_r _ [265, 23, 167, 168, 169, 22, 170, 122, 39, 114, 115, 116, 30, 117, 46, 437, 438, 445, 446, 447, 448, 449, 450, 451, 452, 453, 454, 455, 456, 457, 458, 459] (by decide +kernel) (by decide +kernel)
set_option maxRecDepth 20000 in
theorem gL_law_X2_lost : GoodIn wsL_law (wsV RL 141 RX2 yX2_lost wsX2_lost) := goodIn_app (goodIn_of _ (by decide +kernel)) ggL_law_X2_lost
set_option maxRecDepth 20000 in
theorem ggL_law_X2_shipped : GoodIn wsL_law wsX2_shipped := goodIn_r _ [261, 23, 167, 168, 169, 22, 170, 122, 39, 114, 115, 116, 30, 117, 46, 437, 438, 445, 446, 447, 448, 449, 450, 451, 452, 453, 454, 455, 456, 457, 458, 459] (by decide +kernel) (by decide +kernel)
set_option maxRecDepth 20000 in
theorem gL_law_X2_shipped : GoodIn wsL_law (wsV RL 144 RX2 yX2_shipped wsX2_shipped) := goodIn_app (goodIn_of _ (by decide +kernel)) ggL_law_X2_shipped
set_option maxRecDepth 20000 in
theorem ggL_law_X2_bestOrder : GoodIn wsL_law wsX2_bestOrder := goodIn_r _ [278, 23, 279, 280, 281, 2, 282, 24, 283, 284, 285, 22, 286, 31, 32, 33, 34, 35, 92, 36, 37, 38, 39, 122, 175, 40, 176, 287, 288, 289, 30, 290, 46, 291, 115, 116, 117, 171, 172, 173, 174, 177, 178, 179, 180, 181, 11, 12, 13, 182, 132, 133, 134, 114, 183, 184, 185, 186, 93, 94, 95, 96, 187, 188, 189, 190, 191, 192, 193, 194, 195, 111, 112, 113, 196, 156, 157, 158, 197, 198, 199, 200, 201, 202, 203, 204, 205, 206, 207, 208, 167, 168, 169, 170, 437, 438, 445, 446, 447, 448, 449, 450, 451, 452, 453, 454, 455, 456, 457, 458, 459] (by decide +kernel) (by decide +kernel)
set_option maxRecDepth 20000 in
theorem gL_law_X2_bestOrder : GoodIn wsL_law (wsV RL 147 RX2 yX2_bestOrder wsX2_bestOrder) := goodIn_app (goodIn_of _ (by decide +kernel)) ggL_law_X2_bestOrder
set_option maxRecDepth 20000 in
theorem ggL_law_X2_lostWith : GoodIn wsL_law wsX2_lostWith := goodIn_ca (goodIn_r _ [404, 145, 146, 2, 147, 81, 82, 85, 86, 87, 148, 149, 150, 279, 280, 281, 282, 24, 23, 283, 284, 285, 22, 286, 31, 32, 33, 34, 35, 92, 36, 37, 38, 39, 122, 175, 40, 176, 287, 288, 289, 30, 290, 46, 291, 115, 116, 117, 171, 172, 173, 174, 177, 178, 179, 180, 181, 11, 12, 13, 182, 132, 133, 134, 114, 183, 184, 185, 186, 93, 94, 95, 96, 187, 188, 189, 190, 191, 192, 193, 194, 195, 111, 112, 113, 196, 156, 157, 158, 197, 198, 199, 200, 201, 202, 203, 204, 205, 206, 207, 208, 167, 168, 169, 170, 437, 438, 445, 446, 447, 448, 449, 450, 451, 452, 453, 454, 455, 456, 457, 458, 459] (by decide +kernel) (by decide +kernel)) (goodIn_sub (fun _ h => List.mem_append_left _ (List.mem_append_left _ (List.mem_append_right _ h))) (by decide +kernel))
set_option maxRecDepth 20000 in
theorem gL_law_X2_lostWith : GoodIn wsL_law (wsV RL 150 RX2 yX2_lostWith wsX2_lostWith) := goodIn_app (goodIn_of _ (by decide +kernel)) ggL_law_X2_lostWith
set_option maxRecDepth 20000 in
theorem ggL_law_X2_shippingWanted : GoodIn wsL_law wsX2_shippingWanted := goodIn_r _ [295, 23, 279, 280, 281, 2, 282, 24, 283, 284, 285, 22, 286, 31, 32, 33, 34, 35, 92, 36, 37, 38, 39, 122, 175, 40, 176, 287, 288, 289, 30, 290, 46, 291, 115, 116, 117, 171, 172, 173, 174, 177, 178, 179, 180, 181, 11, 12, 13, 182, 132, 133, 134, 114, 183, 184, 185, 186, 93, 94, 95, 96, 187, 188, 189, 190, 191, 192, 193, 194, 195, 111, 112, 113, 196, 156, 157, 158, 197, 198, 199, 200, 201, 202, 203, 204, 205, 206, 207, 208, 167, 168, 169, 170, 437, 438, 445, 446, 447, 448, 449, 450, 451, 452, 453, 454, 455, 456, 457, 458, 459] (by decide +kernel) (by decide +kernel)
set_option maxRecDepth 20000 in
theorem gL_law_X2_shippingWanted : GoodIn wsL_law (wsV RL 153 RX2 yX2_shippingWanted wsX2_shippingWanted) := goodIn_app (goodIn_of _ (by decide +kernel)) ggL_law_X2_shippingWanted
set_option maxRecDepth 20000 in
theorem ggL_law_X2_pass : GoodIn wsL_law wsX2_pass := goodIn_ca (goodIn_r _ [166, 81, 82, 23, 85, 86, 2, 87, 167, 168, 169, 22, 170, 122, 39, 114, 115, 116, 30, 117, 46, 171, 172, 173, 174, 175, 40, 176, 177, 178, 179, 180, 38, 37, 181, 11, 12, 13, 182, 132, 133, 134, 183, 184, 185, 186, 33, 36, 31, 93, 94, 95, 96, 187, 188, 189, 190, 34, 191, 192, 193, 194, 92, 195, 111, 112, 113, 35, 196, 156, 157, 158, 197, 198, 199, 200, 201, 202, 203, 204, 205, 206, 207, 208, 437, 438, 445, 446, 447, 448, 449, 450, 451, 452, 453, 454, 455, 456, 457, 458, 459] (by decide +kernel) (by decide +kernel)) (goodIn_sub (fun _ h => List.mem_append_left _ (List.mem_append_left _ (List.mem_append_right _ h))) (by decide +kernel))
set_option maxRecDepth 20000 in
theorem gL_law_X2_pass : GoodIn wsL_law (wsV RL 62 RX2 yX2_pass wsX2_pass) := goodIn_app (goodIn_of _ (by decide +kernel)) ggL_law_X2_pass
set_option maxRecDepth 20000 in
theorem ggL_law_X3_pass_ : GoodIn wsL_law wsX3_pass_ := goodIn_r _ [212, 213, 214, 215, 53, 216, 61, 217, 218, 219, 220, 60, 58, 221, 222, 223, 224, 160, 161, 162, 225, 226, 227, 228, 229, 230, 231, 232, 439, 440, 441, 442, 443, 444] (by decide +kernel) (by decide +kernel)
set_option maxRecDepth 20000 in
theorem gL_law_X3_pass_ : GoodIn wsL_law (wsV RL 65 RX3 yX3_pass_ wsX3_pass_) := goodIn_app (goodIn_of _ (by decide +kernel)) ggL_law_X3_pass_
set_option maxRecDepth 20000 in
theorem ggL_law_X3_isAhead : GoodIn wsL_law wsX3_isAhead := goodIn_r _ [232, 58, 439, 440, 441, 442, 443, 444] (by decide +kernel) (by decide +kernel)
set_option maxRecDepth 20000 in
theorem gL_law_X3_isAhead : GoodIn wsL_law (wsV RL 161 RX3 yX3_isAhead wsX3_isAhead) := goodIn_app (goodIn_of _ (by decide +kernel)) ggL_law_X3_isAhead
set_option maxRecDepth 20000 in
theorem ggL_law_X3_isSame : GoodIn wsL_law wsX3_isSame := goodIn_ca (goodIn_ca (goodIn_c (List.mem_of_getElem? (i := 410) rfl) rfl (goodIn_app (goodIn_app (goodIn_app (goodIn_app (goodIn_app (goodIn_r _ [6, 60, 61, 58, 223, 411, 384, 385, 2, 386, 23, 127, 128, 129, 130, 105, 106, 85, 86, 87, 135, 115, 116, 30] (by decide +kernel) (by decide +kernel)) (goodIn_app (goodIn_r _ [117, 46, 412, 337, 338, 339, 131, 132, 133, 22, 134, 39, 114, 413, 341, 342, 343, 414, 345, 346, 347, 415, 379, 380] (by decide +kernel) (by decide +kernel)) (goodIn_app (goodIn_r _ [381, 416, 301, 302, 303, 107, 108, 109, 304, 305, 306, 307, 122, 182, 417, 309, 310, 311, 418, 317, 318, 319, 101, 102] (by decide +kernel) (by decide +kernel)) (goodIn_app (goodIn_r _ [103, 104, 419, 321, 322, 323, 420, 325, 326, 327, 110, 111, 112, 113, 35, 421, 271, 272, 273, 148, 149, 150, 81, 82] (by decide +kernel) (by decide +kernel)) (goodIn_app (goodIn_r _ [274, 198, 199, 200, 201, 202, 203, 204, 38, 31, 37, 225, 226, 227, 53, 228, 229, 230, 231, 232, 213, 214, 215, 216] (by decide +kernel) (by decide +kernel)) (goodIn_app (goodIn_r _ [422, 239, 240, 241, 423, 247, 248, 249, 424, 251, 252, 253, 425, 255, 256, 257, 167, 168, 169, 170, 426, 259, 260, 261] (by decide +kernel) (by decide +kernel)) (goodIn_r _ [427, 263, 264, 265, 428, 267, 268, 269, 429, 430, 431, 432, 433, 434, 435, 436] (by decide +kernel) (by decide +kernel)))))))) (goodIn_r _ [439, 440, 441, 442, 443, 444] (by decide +kernel) (by decide +kernel))) (goodIn_r _ [437, 438] (by decide +kernel) (by decide +kernel))) (goodIn_r _ [445, 446, 447, 448, 449, 450, 451, 452, 453, 454, 455, 456, 457, 458] (by decide +kernel) (by decide +kernel))) (goodIn_r _ [459] (by decide +kernel) (by decide +kernel)))) (goodIn_sub (fun _ h => List.mem_append_right _ h) (by decide +kernel))) (goodIn_sub (fun _ h => List.mem_append_left _ (List.mem_append_left _ (List.mem_append_right _ h))) (by decide +kernel))
set_option maxRecDepth 20000 in
theorem gL_law_X3_isSame : GoodIn wsL_law (wsV RL 165 RX3 yX3_isSame wsX3_isSame) := goodIn_app (goodIn_of _ (by decide +kernel)) ggL_law_X3_isSame
theorem dL_law_0 : decode cL_law 0 = .ok (.new 29, 3) := by decide +kernel
theorem dL_law_3 : decode cL_law 3 = .ok (.dup, 1) := by decide +kernel
theorem dL_law_4 : decode cL_law 4 = .ok (.invokespecial 78, 3) := by decide +kernel
theorem dL_law_7 : decode cL_law 7 = .ok (.astore_n 1, 1) := by decide +kernel
theorem dL_law_8 : decode cL_law 8 = .ok (.aload_n 1, 1) := by decide +kernel
theorem dL_law_9 : decode cL_law 9 = .ok (.aload_n 0, 1) := by decide +kernel
theorem dL_law_10 : decode cL_law 10 = .ok (.invokestatic 79, 3) := by decide +kernel
theorem dL_law_13 : decode cL_law 13 = .ok (.astore_n 2, 1) := by decide +kernel
theorem dL_law_14 : decode cL_law 14 = .ok (.aload_n 2, 1) := by decide +kernel
theorem dL_law_15 : decode cL_law 15 = .ok (.ifnonnull 5, 3) := by decide +kernel
theorem dL_law_18 : decode cL_law 18 = .ok (.iconst 0, 1) := by decide +kernel
theorem dL_law_19 : decode cL_law 19 = .ok (.ireturn, 1) := by decide +kernel
theorem dL_law_20 : decode cL_law 20 = .ok (.iconst 0, 1) := by decide +kernel
theorem dL_law_21 : decode cL_law 21 = .ok (.istore_n 3, 1) := by decide +kernel
theorem dL_law_22 : decode cL_law 22 = .ok (.iload_n 3, 1) := by decide +kernel
theorem dL_law_23 : decode cL_law 23 = .ok (.iconst 5, 1) := by decide +kernel
theorem dL_law_24 : decode cL_law 24 = .ok (.if_icmp .ge 1189, 3) := by decide +kernel
theorem dL_law_27 : decode cL_law 27 = .ok (.aload_n 0, 1) := by decide +kernel
theorem dL_law_28 : decode cL_law 28 = .ok (.iload_n 3, 1) := by decide +kernel
theorem dL_law_29 : decode cL_law 29 = .ok (.iconst 1, 1) := by decide +kernel
theorem dL_law_30 : decode cL_law 30 = .ok (.iadd, 1) := by decide +kernel
theorem dL_law_31 : decode cL_law 31 = .ok (.invokestatic 69, 3) := by decide +kernel
theorem dL_law_34 : decode cL_law 34 = .ok (.iconst 2, 1) := by decide +kernel
theorem dL_law_35 : decode cL_law 35 = .ok (.ishr, 1) := by decide +kernel
theorem dL_law_36 : decode cL_law 36 = .ok (.bipush 53, 2) := by decide +kernel
theorem dL_law_38 : decode cL_law 38 = .ok (.iload_n 3, 1) := by decide +kernel
theorem dL_law_39 : decode cL_law 39 = .ok (.imul, 1) := by decide +kernel
theorem dL_law_40 : decode cL_law 40 = .ok (.iadd, 1) := by decide +kernel
theorem dL_law_41 : decode cL_law 41 = .ok (.istore 4, 2) := by decide +kernel
theorem dL_law_43 : decode cL_law 43 = .ok (.iconst 0, 1) := by decide +kernel
theorem dL_law_44 : decode cL_law 44 = .ok (.istore 5, 2) := by decide +kernel
theorem dL_law_46 : decode cL_law 46 = .ok (.iload 5, 2) := by decide +kernel
theorem dL_law_48 : decode cL_law 48 = .ok (.iconst 3, 1) := by decide +kernel
theorem dL_law_49 : decode cL_law 49 = .ok (.if_icmp .ge 32, 3) := by decide +kernel
theorem dL_law_52 : decode cL_law 52 = .ok (.aload_n 1, 1) := by decide +kernel
theorem dL_law_53 : decode cL_law 53 = .ok (.aload_n 2, 1) := by decide +kernel
theorem dL_law_54 : decode cL_law 54 = .ok (.iload 4, 2) := by decide +kernel
theorem dL_law_56 : decode cL_law 56 = .ok (.iconst 3, 1) := by decide +kernel
theorem dL_law_57 : decode cL_law 57 = .ok (.iload 5, 2) := by decide +kernel
theorem dL_law_59 : decode cL_law 59 = .ok (.imul, 1) := by decide +kernel
theorem dL_law_60 : decode cL_law 60 = .ok (.ishr, 1) := by decide +kernel
theorem dL_law_61 : decode cL_law 61 = .ok (.bipush 29, 2) := by decide +kernel
theorem dL_law_63 : decode cL_law 63 = .ok (.iload 5, 2) := by decide +kernel
theorem dL_law_65 : decode cL_law 65 = .ok (.imul, 1) := by decide +kernel
theorem dL_law_66 : decode cL_law 66 = .ok (.iadd, 1) := by decide +kernel
theorem dL_law_67 : decode cL_law 67 = .ok (.invokestatic 74, 3) := by decide +kernel
theorem dL_law_70 : decode cL_law 70 = .ok (.ifCond .ne 5, 3) := by decide +kernel
theorem dL_law_73 : decode cL_law 73 = .ok (.iconst 0, 1) := by decide +kernel
theorem dL_law_74 : decode cL_law 74 = .ok (.ireturn, 1) := by decide +kernel
theorem dL_law_75 : decode cL_law 75 = .ok (.iinc 5 1, 3) := by decide +kernel
theorem dL_law_78 : decode cL_law 78 = .ok (.goto (-32), 3) := by decide +kernel
theorem dL_law_81 : decode cL_law 81 = .ok (.aload_n 1, 1) := by decide +kernel
theorem dL_law_82 : decode cL_law 82 = .ok (.invokevirtual 83, 3) := by decide +kernel
theorem dL_law_85 : decode cL_law 85 = .ok (.lstore 5, 2) := by decide +kernel
theorem dL_law_87 : decode cL_law 87 = .ok (.aload_n 1, 1) := by decide +kernel
theorem dL_law_88 : decode cL_law 88 = .ok (.invokevirtual 87, 3) := by decide +kernel
theorem dL_law_91 : decode cL_law 91 = .ok (.istore 7, 2) := by decide +kernel
theorem dL_law_93 : decode cL_law 93 = .ok (.aload_n 1, 1) := by decide +kernel
theorem dL_law_94 : decode cL_law 94 = .ok (.invokevirtual 90, 3) := by decide +kernel
theorem dL_law_97 : decode cL_law 97 = .ok (.istore 8, 2) := by decide +kernel
theorem dL_law_99 : decode cL_law 99 = .ok (.iconst 0, 1) := by decide +kernel
theorem dL_law_100 : decode cL_law 100 = .ok (.istore 9, 2) := by decide +kernel
theorem dL_law_102 : decode cL_law 102 = .ok (.iconst 0, 1) := by decide +kernel
theorem dL_law_103 : decode cL_law 103 = .ok (.istore 10, 2) := by decide +kernel
theorem dL_law_105 : decode cL_law 105 = .ok (.iload 10, 2) := by decide +kernel
theorem dL_law_107 : decode cL_law 107 = .ok (.iconst 3, 1) := by decide +kernel
theorem dL_law_108 : decode cL_law 108 = .ok (.if_icmp .ge 139, 3) := by decide +kernel
theorem dL_law_111 : decode cL_law 111 = .ok (.iload 8, 2) := by decide +kernel
theorem dL_law_113 : decode cL_law 113 = .ok (.newarray .boolean, 2) := by decide +kernel
theorem dL_law_115 : decode cL_law 115 = .ok (.astore 11, 2) := by decide +kernel
theorem dL_law_117 : decode cL_law 117 = .ok (.iconst 0, 1) := by decide +kernel
theorem dL_law_118 : decode cL_law 118 = .ok (.istore 12, 2) := by decide +kernel
theorem dL_law_120 : decode cL_law 120 = .ok (.iload 12, 2) := by decide +kernel
theorem dL_law_122 : decode cL_law 122 = .ok (.iload 7, 2) := by decide +kernel
theorem dL_law_124 : decode cL_law 124 = .ok (.if_icmp .ge 117, 3) := by decide +kernel
theorem dL_law_127 : decode cL_law 127 = .ok (.aload_n 1, 1) := by decide +kernel
theorem dL_law_128 : decode cL_law 128 = .ok (.iload 12, 2) := by decide +kernel
theorem dL_law_130 : decode cL_law 130 = .ok (.iload 10, 2) := by decide +kernel
theorem dL_law_132 : decode cL_law 132 = .ok (.invokevirtual 93, 3) := by decide +kernel
theorem dL_law_135 : decode cL_law 135 = .ok (.istore 13, 2) := by decide +kernel
theorem dL_law_137 : decode cL_law 137 = .ok (.aload_n 1, 1) := by decide +kernel
theorem dL_law_138 : decode cL_law 138 = .ok (.iload 12, 2) := by decide +kernel
theorem dL_law_140 : decode cL_law 140 = .ok (.invokevirtual 96, 3) := by decide +kernel
theorem dL_law_143 : decode cL_law 143 = .ok (.ifCond .lt 7, 3) := by decide +kernel
theorem dL_law_146 : decode cL_law 146 = .ok (.iconst 1, 1) := by decide +kernel
theorem dL_law_147 : decode cL_law 147 = .ok (.goto 4, 3) := by decide +kernel
theorem dL_law_150 : decode cL_law 150 = .ok (.iconst 0, 1) := by decide +kernel
theorem dL_law_151 : decode cL_law 151 = .ok (.istore 14, 2) := by decide +kernel
theorem dL_law_153 : decode cL_law 153 = .ok (.iload 14, 2) := by decide +kernel
theorem dL_law_155 : decode cL_law 155 = .ok (.iload 13, 2) := by decide +kernel
theorem dL_law_157 : decode cL_law 157 = .ok (.ifCond .lt 7, 3) := by decide +kernel
theorem dL_law_160 : decode cL_law 160 = .ok (.iconst 1, 1) := by decide +kernel
theorem dL_law_161 : decode cL_law 161 = .ok (.goto 4, 3) := by decide +kernel
theorem dL_law_164 : decode cL_law 164 = .ok (.iconst 0, 1) := by decide +kernel
theorem dL_law_165 : decode cL_law 165 = .ok (.if_icmp .ne 57, 3) := by decide +kernel
theorem dL_law_168 : decode cL_law 168 = .ok (.iload 13, 2) := by decide +kernel
theorem dL_law_170 : decode cL_law 170 = .ok (.iload 8, 2) := by decide +kernel
theorem dL_law_172 : decode cL_law 172 = .ok (.if_icmp .ge 50, 3) := by decide +kernel
theorem dL_law_175 : decode cL_law 175 = .ok (.iload 14, 2) := by decide +kernel
theorem dL_law_177 : decode cL_law 177 = .ok (.ifCond .eq 11, 3) := by decide +kernel
theorem dL_law_180 : decode cL_law 180 = .ok (.aload 11, 2) := by decide +kernel
theorem dL_law_182 : decode cL_law 182 = .ok (.iload 13, 2) := by decide +kernel
theorem dL_law_184 : decode cL_law 184 = .ok (.baload, 1) := by decide +kernel
theorem dL_law_185 : decode cL_law 185 = .ok (.ifCond .ne 37, 3) := by decide +kernel
theorem dL_law_188 : decode cL_law 188 = .ok (.iload 14, 2) := by decide +kernel
theorem dL_law_190 : decode cL_law 190 = .ok (.ifCond .eq 34, 3) := by decide +kernel
theorem dL_law_193 : decode cL_law 193 = .ok (.iload 13, 2) := by decide +kernel
theorem dL_law_195 : decode cL_law 195 = .ok (.ifCond .ne 7, 3) := by decide +kernel
theorem dL_law_198 : decode cL_law 198 = .ok (.iconst 1, 1) := by decide +kernel
theorem dL_law_199 : decode cL_law 199 = .ok (.goto 4, 3) := by decide +kernel
theorem dL_law_202 : decode cL_law 202 = .ok (.iconst 0, 1) := by decide +kernel
theorem dL_law_203 : decode cL_law 203 = .ok (.aload_n 1, 1) := by decide +kernel
theorem dL_law_204 : decode cL_law 204 = .ok (.iload 10, 2) := by decide +kernel
theorem dL_law_206 : decode cL_law 206 = .ok (.invokevirtual 99, 3) := by decide +kernel
theorem dL_law_209 : decode cL_law 209 = .ok (.iload 12, 2) := by decide +kernel
theorem dL_law_211 : decode cL_law 211 = .ok (.if_icmp .ne 7, 3) := by decide +kernel
theorem dL_law_214 : decode cL_law 214 = .ok (.iconst 1, 1) := by decide +kernel
theorem dL_law_215 : decode cL_law 215 = .ok (.goto 4, 3) := by decide +kernel
theorem dL_law_218 : decode cL_law 218 = .ok (.iconst 0, 1) := by decide +kernel
theorem dL_law_219 : decode cL_law 219 = .ok (.if_icmp .eq 5, 3) := by decide +kernel
theorem dL_law_222 : decode cL_law 222 = .ok (.iconst 0, 1) := by decide +kernel
theorem dL_law_223 : decode cL_law 223 = .ok (.ireturn, 1) := by decide +kernel
theorem dL_law_224 : decode cL_law 224 = .ok (.iload 14, 2) := by decide +kernel
theorem dL_law_226 : decode cL_law 226 = .ok (.ifCond .eq 9, 3) := by decide +kernel
theorem dL_law_229 : decode cL_law 229 = .ok (.aload 11, 2) := by decide +kernel
theorem dL_law_231 : decode cL_law 231 = .ok (.iload 13, 2) := by decide +kernel
theorem dL_law_233 : decode cL_law 233 = .ok (.iconst 1, 1) := by decide +kernel
theorem dL_law_234 : decode cL_law 234 = .ok (.bastore, 1) := by decide +kernel
theorem dL_law_235 : decode cL_law 235 = .ok (.iinc 12 1, 3) := by decide +kernel
theorem dL_law_238 : decode cL_law 238 = .ok (.goto (-118), 3) := by decide +kernel
theorem dL_law_241 : decode cL_law 241 = .ok (.iinc 10 1, 3) := by decide +kernel
theorem dL_law_244 : decode cL_law 244 = .ok (.goto (-139), 3) := by decide +kernel
theorem dL_law_247 : decode cL_law 247 = .ok (.iconst 0, 1) := by decide +kernel
theorem dL_law_248 : decode cL_law 248 = .ok (.istore 10, 2) := by decide +kernel
theorem dL_law_250 : decode cL_law 250 = .ok (.iload 10, 2) := by decide +kernel
theorem dL_law_252 : decode cL_law 252 = .ok (.iload 7, 2) := by decide +kernel
theorem dL_law_254 : decode cL_law 254 = .ok (.if_icmp .ge 221, 3) := by decide +kernel
theorem dL_law_257 : decode cL_law 257 = .ok (.aload_n 1, 1) := by decide +kernel
theorem dL_law_258 : decode cL_law 258 = .ok (.iload 10, 2) := by decide +kernel
theorem dL_law_260 : decode cL_law 260 = .ok (.invokevirtual 96, 3) := by decide +kernel
theorem dL_law_263 : decode cL_law 263 = .ok (.ifCond .lt 7, 3) := by decide +kernel
theorem dL_law_266 : decode cL_law 266 = .ok (.iconst 1, 1) := by decide +kernel
theorem dL_law_267 : decode cL_law 267 = .ok (.goto 4, 3) := by decide +kernel
theorem dL_law_270 : decode cL_law 270 = .ok (.iconst 0, 1) := by decide +kernel
theorem dL_law_271 : decode cL_law 271 = .ok (.istore 11, 2) := by decide +kernel
theorem dL_law_273 : decode cL_law 273 = .ok (.aload_n 1, 1) := by decide +kernel
theorem dL_law_274 : decode cL_law 274 = .ok (.iload 10, 2) := by decide +kernel
theorem dL_law_276 : decode cL_law 276 = .ok (.invokevirtual 102, 3) := by decide +kernel
theorem dL_law_279 : decode cL_law 279 = .ok (.istore 12, 2) := by decide +kernel
theorem dL_law_281 : decode cL_law 281 = .ok (.iload 4, 2) := by decide +kernel
theorem dL_law_283 : decode cL_law 283 = .ok (.iconst 3, 1) := by decide +kernel
theorem dL_law_284 : decode cL_law 284 = .ok (.ishr, 1) := by decide +kernel
theorem dL_law_285 : decode cL_law 285 = .ok (.iload 10, 2) := by decide +kernel
theorem dL_law_287 : decode cL_law 287 = .ok (.iadd, 1) := by decide +kernel
theorem dL_law_288 : decode cL_law 288 = .ok (.iconst 4, 1) := by decide +kernel
theorem dL_law_289 : decode cL_law 289 = .ok (.invokestatic 18, 3) := by decide +kernel
theorem dL_law_292 : decode cL_law 292 = .ok (.istore 13, 2) := by decide +kernel
theorem dL_law_294 : decode cL_law 294 = .ok (.iload 11, 2) := by decide +kernel
theorem dL_law_296 : decode cL_law 296 = .ok (.ifCond .eq 7, 3) := by decide +kernel
theorem dL_law_299 : decode cL_law 299 = .ok (.iconst 1, 1) := by decide +kernel
theorem dL_law_300 : decode cL_law 300 = .ok (.goto 4, 3) := by decide +kernel
theorem dL_law_303 : decode cL_law 303 = .ok (.iconst 0, 1) := by decide +kernel
theorem dL_law_304 : decode cL_law 304 = .ok (.aload_n 1, 1) := by decide +kernel
theorem dL_law_305 : decode cL_law 305 = .ok (.iload 10, 2) := by decide +kernel
theorem dL_law_307 : decode cL_law 307 = .ok (.invokevirtual 105, 3) := by decide +kernel
theorem dL_law_310 : decode cL_law 310 = .ok (.ifCond .eq 7, 3) := by decide +kernel
theorem dL_law_313 : decode cL_law 313 = .ok (.iconst 1, 1) := by decide +kernel
theorem dL_law_314 : decode cL_law 314 = .ok (.goto 4, 3) := by decide +kernel
theorem dL_law_317 : decode cL_law 317 = .ok (.iconst 0, 1) := by decide +kernel
theorem dL_law_318 : decode cL_law 318 = .ok (.iadd, 1) := by decide +kernel
theorem dL_law_319 : decode cL_law 319 = .ok (.aload_n 1, 1) := by decide +kernel
theorem dL_law_320 : decode cL_law 320 = .ok (.iload 10, 2) := by decide +kernel
theorem dL_law_322 : decode cL_law 322 = .ok (.invokevirtual 109, 3) := by decide +kernel
theorem dL_law_325 : decode cL_law 325 = .ok (.ifCond .eq 7, 3) := by decide +kernel
theorem dL_law_328 : decode cL_law 328 = .ok (.iconst 1, 1) := by decide +kernel
theorem dL_law_329 : decode cL_law 329 = .ok (.goto 4, 3) := by decide +kernel
theorem dL_law_332 : decode cL_law 332 = .ok (.iconst 0, 1) := by decide +kernel
theorem dL_law_333 : decode cL_law 333 = .ok (.iadd, 1) := by decide +kernel
theorem dL_law_334 : decode cL_law 334 = .ok (.iconst 1, 1) := by decide +kernel
theorem dL_law_335 : decode cL_law 335 = .ok (.if_icmp .ne 80, 3) := by decide +kernel
theorem dL_law_338 : decode cL_law 338 = .ok (.iload 11, 2) := by decide +kernel
theorem dL_law_340 : decode cL_law 340 = .ok (.ifCond .eq 36, 3) := by decide +kernel
theorem dL_law_343 : decode cL_law 343 = .ok (.aload_n 1, 1) := by decide +kernel
theorem dL_law_344 : decode cL_law 344 = .ok (.iload 10, 2) := by decide +kernel
theorem dL_law_346 : decode cL_law 346 = .ok (.invokevirtual 112, 3) := by decide +kernel
theorem dL_law_349 : decode cL_law 349 = .ok (.iconst 1, 1) := by decide +kernel
theorem dL_law_350 : decode cL_law 350 = .ok (.if_icmp .lt 65, 3) := by decide +kernel
theorem dL_law_353 : decode cL_law 353 = .ok (.aload_n 1, 1) := by decide +kernel
theorem dL_law_354 : decode cL_law 354 = .ok (.aload_n 1, 1) := by decide +kernel
theorem dL_law_355 : decode cL_law 355 = .ok (.iload 10, 2) := by decide +kernel
theorem dL_law_357 : decode cL_law 357 = .ok (.invokevirtual 115, 3) := by decide +kernel
theorem dL_law_360 : decode cL_law 360 = .ok (.invokevirtual 118, 3) := by decide +kernel
theorem dL_law_363 : decode cL_law 363 = .ok (.ifCond .ne 52, 3) := by decide +kernel
theorem dL_law_366 : decode cL_law 366 = .ok (.aload_n 1, 1) := by decide +kernel
theorem dL_law_367 : decode cL_law 367 = .ok (.iload 10, 2) := by decide +kernel
theorem dL_law_369 : decode cL_law 369 = .ok (.invokevirtual 96, 3) := by decide +kernel
theorem dL_law_372 : decode cL_law 372 = .ok (.iconst 3, 1) := by decide +kernel
theorem dL_law_373 : decode cL_law 373 = .ok (.if_icmp .gt 42, 3) := by decide +kernel
theorem dL_law_376 : decode cL_law 376 = .ok (.aload_n 1, 1) := by decide +kernel
theorem dL_law_377 : decode cL_law 377 = .ok (.iload 10, 2) := by decide +kernel
theorem dL_law_379 : decode cL_law 379 = .ok (.invokevirtual 112, 3) := by decide +kernel
theorem dL_law_382 : decode cL_law 382 = .ok (.ifCond .lt 33, 3) := by decide +kernel
theorem dL_law_385 : decode cL_law 385 = .ok (.iload 11, 2) := by decide +kernel
theorem dL_law_387 : decode cL_law 387 = .ok (.iload 12, 2) := by decide +kernel
theorem dL_law_389 : decode cL_law 389 = .ok (.ifCond .lt 7, 3) := by decide +kernel
theorem dL_law_392 : decode cL_law 392 = .ok (.iconst 1, 1) := by decide +kernel
theorem dL_law_393 : decode cL_law 393 = .ok (.goto 4, 3) := by decide +kernel
theorem dL_law_396 : decode cL_law 396 = .ok (.iconst 0, 1) := by decide +kernel
theorem dL_law_397 : decode cL_law 397 = .ok (.if_icmp .ne 18, 3) := by decide +kernel
theorem dL_law_400 : decode cL_law 400 = .ok (.iload 11, 2) := by decide +kernel
theorem dL_law_402 : decode cL_law 402 = .ok (.ifCond .ne 15, 3) := by decide +kernel
theorem dL_law_405 : decode cL_law 405 = .ok (.aload_n 1, 1) := by decide +kernel
theorem dL_law_406 : decode cL_law 406 = .ok (.iload 10, 2) := by decide +kernel
theorem dL_law_408 : decode cL_law 408 = .ok (.invokevirtual 121, 3) := by decide +kernel
theorem dL_law_411 : decode cL_law 411 = .ok (.iconst (-1), 1) := by decide +kernel
theorem dL_law_412 : decode cL_law 412 = .ok (.if_icmp .eq 5, 3) := by decide +kernel
theorem dL_law_415 : decode cL_law 415 = .ok (.iconst 0, 1) := by decide +kernel
theorem dL_law_416 : decode cL_law 416 = .ok (.ireturn, 1) := by decide +kernel
theorem dL_law_417 : decode cL_law 417 = .ok (.iload 11, 2) := by decide +kernel
theorem dL_law_419 : decode cL_law 419 = .ok (.ifCond .eq 50, 3) := by decide +kernel
theorem dL_law_422 : decode cL_law 422 = .ok (.aload_n 2, 1) := by decide +kernel
theorem dL_law_423 : decode cL_law 423 = .ok (.iload 10, 2) := by decide +kernel
theorem dL_law_425 : decode cL_law 425 = .ok (.iload 13, 2) := by decide +kernel
theorem dL_law_427 : decode cL_law 427 = .ok (.invokevirtual 124, 3) := by decide +kernel
theorem dL_law_430 : decode cL_law 430 = .ok (.aload_n 2, 1) := by decide +kernel
theorem dL_law_431 : decode cL_law 431 = .ok (.iload 10, 2) := by decide +kernel
theorem dL_law_433 : decode cL_law 433 = .ok (.iload 12, 2) := by decide +kernel
theorem dL_law_435 : decode cL_law 435 = .ok (.invokevirtual 124, 3) := by decide +kernel
theorem dL_law_438 : decode cL_law 438 = .ok (.if_icmp .gt 29, 3) := by decide +kernel
theorem dL_law_441 : decode cL_law 441 = .ok (.aload_n 2, 1) := by decide +kernel
theorem dL_law_442 : decode cL_law 442 = .ok (.iload 10, 2) := by decide +kernel
theorem dL_law_444 : decode cL_law 444 = .ok (.iload 13, 2) := by decide +kernel
theorem dL_law_446 : decode cL_law 446 = .ok (.invokevirtual 124, 3) := by decide +kernel
theorem dL_law_449 : decode cL_law 449 = .ok (.aload_n 2, 1) := by decide +kernel
theorem dL_law_450 : decode cL_law 450 = .ok (.iload 10, 2) := by decide +kernel
theorem dL_law_452 : decode cL_law 452 = .ok (.iload 12, 2) := by decide +kernel
theorem dL_law_454 : decode cL_law 454 = .ok (.invokevirtual 124, 3) := by decide +kernel
theorem dL_law_457 : decode cL_law 457 = .ok (.if_icmp .ne 12, 3) := by decide +kernel
theorem dL_law_460 : decode cL_law 460 = .ok (.iload 13, 2) := by decide +kernel
theorem dL_law_462 : decode cL_law 462 = .ok (.iload 12, 2) := by decide +kernel
theorem dL_law_464 : decode cL_law 464 = .ok (.if_icmp .ge 5, 3) := by decide +kernel
theorem dL_law_467 : decode cL_law 467 = .ok (.iconst 0, 1) := by decide +kernel
theorem dL_law_468 : decode cL_law 468 = .ok (.ireturn, 1) := by decide +kernel
theorem dL_law_469 : decode cL_law 469 = .ok (.iinc 10 1, 3) := by decide +kernel
theorem dL_law_472 : decode cL_law 472 = .ok (.goto (-222), 3) := by decide +kernel
theorem dL_law_475 : decode cL_law 475 = .ok (.iconst 0, 1) := by decide +kernel
theorem dL_law_476 : decode cL_law 476 = .ok (.istore 10, 2) := by decide +kernel
theorem dL_law_478 : decode cL_law 478 = .ok (.iload 10, 2) := by decide +kernel
theorem dL_law_480 : decode cL_law 480 = .ok (.aload_n 1, 1) := by decide +kernel
theorem dL_law_481 : decode cL_law 481 = .ok (.invokevirtual 127, 3) := by decide +kernel
theorem dL_law_484 : decode cL_law 484 = .ok (.if_icmp .ge 82, 3) := by decide +kernel
theorem dL_law_487 : decode cL_law 487 = .ok (.iload 9, 2) := by decide +kernel
theorem dL_law_489 : decode cL_law 489 = .ok (.aload_n 1, 1) := by decide +kernel
theorem dL_law_490 : decode cL_law 490 = .ok (.iload 10, 2) := by decide +kernel
theorem dL_law_492 : decode cL_law 492 = .ok (.invokevirtual 129, 3) := by decide +kernel
theorem dL_law_495 : decode cL_law 495 = .ok (.iadd, 1) := by decide +kernel
theorem dL_law_496 : decode cL_law 496 = .ok (.istore 9, 2) := by decide +kernel
theorem dL_law_498 : decode cL_law 498 = .ok (.aload_n 1, 1) := by decide +kernel
theorem dL_law_499 : decode cL_law 499 = .ok (.iload 10, 2) := by decide +kernel
theorem dL_law_501 : decode cL_law 501 = .ok (.invokevirtual 129, 3) := by decide +kernel
theorem dL_law_504 : decode cL_law 504 = .ok (.iconst 2, 1) := by decide +kernel
theorem dL_law_505 : decode cL_law 505 = .ok (.if_icmp .le 12, 3) := by decide +kernel
theorem dL_law_508 : decode cL_law 508 = .ok (.aload_n 1, 1) := by decide +kernel
theorem dL_law_509 : decode cL_law 509 = .ok (.iload 10, 2) := by decide +kernel
theorem dL_law_511 : decode cL_law 511 = .ok (.invokevirtual 118, 3) := by decide +kernel
theorem dL_law_514 : decode cL_law 514 = .ok (.ifCond .eq 44, 3) := by decide +kernel
theorem dL_law_517 : decode cL_law 517 = .ok (.aload_n 1, 1) := by decide +kernel
theorem dL_law_518 : decode cL_law 518 = .ok (.iload 10, 2) := by decide +kernel
theorem dL_law_520 : decode cL_law 520 = .ok (.invokevirtual 118, 3) := by decide +kernel
theorem dL_law_523 : decode cL_law 523 = .ok (.ifCond .eq 12, 3) := by decide +kernel
theorem dL_law_526 : decode cL_law 526 = .ok (.aload_n 1, 1) := by decide +kernel
theorem dL_law_527 : decode cL_law 527 = .ok (.iload 10, 2) := by decide +kernel
theorem dL_law_529 : decode cL_law 529 = .ok (.invokevirtual 132, 3) := by decide +kernel
theorem dL_law_532 : decode cL_law 532 = .ok (.ifCond .ne 26, 3) := by decide +kernel
theorem dL_law_535 : decode cL_law 535 = .ok (.aload_n 1, 1) := by decide +kernel
theorem dL_law_536 : decode cL_law 536 = .ok (.iload 10, 2) := by decide +kernel
theorem dL_law_538 : decode cL_law 538 = .ok (.invokevirtual 135, 3) := by decide +kernel
theorem dL_law_541 : decode cL_law 541 = .ok (.ifCond .ne 7, 3) := by decide +kernel
theorem dL_law_544 : decode cL_law 544 = .ok (.iconst 1, 1) := by decide +kernel
theorem dL_law_545 : decode cL_law 545 = .ok (.goto 4, 3) := by decide +kernel
theorem dL_law_548 : decode cL_law 548 = .ok (.iconst 0, 1) := by decide +kernel
theorem dL_law_549 : decode cL_law 549 = .ok (.aload_n 1, 1) := by decide +kernel
theorem dL_law_550 : decode cL_law 550 = .ok (.iload 10, 2) := by decide +kernel
theorem dL_law_552 : decode cL_law 552 = .ok (.invokevirtual 118, 3) := by decide +kernel
theorem dL_law_555 : decode cL_law 555 = .ok (.if_icmp .eq 5, 3) := by decide +kernel
theorem dL_law_558 : decode cL_law 558 = .ok (.iconst 0, 1) := by decide +kernel
theorem dL_law_559 : decode cL_law 559 = .ok (.ireturn, 1) := by decide +kernel
theorem dL_law_560 : decode cL_law 560 = .ok (.iinc 10 1, 3) := by decide +kernel
theorem dL_law_563 : decode cL_law 563 = .ok (.goto (-85), 3) := by decide +kernel
theorem dL_law_566 : decode cL_law 566 = .ok (.iload 9, 2) := by decide +kernel
theorem dL_law_568 : decode cL_law 568 = .ok (.aload_n 1, 1) := by decide +kernel
theorem dL_law_569 : decode cL_law 569 = .ok (.invokevirtual 138, 3) := by decide +kernel
theorem dL_law_572 : decode cL_law 572 = .ok (.if_icmp .ne 29, 3) := by decide +kernel
theorem dL_law_575 : decode cL_law 575 = .ok (.iload 9, 2) := by decide +kernel
theorem dL_law_577 : decode cL_law 577 = .ok (.aload_n 1, 1) := by decide +kernel
theorem dL_law_578 : decode cL_law 578 = .ok (.invokevirtual 141, 3) := by decide +kernel
theorem dL_law_581 : decode cL_law 581 = .ok (.if_icmp .gt 20, 3) := by decide +kernel
theorem dL_law_584 : decode cL_law 584 = .ok (.iload 8, 2) := by decide +kernel
theorem dL_law_586 : decode cL_law 586 = .ok (.aload_n 1, 1) := by decide +kernel
theorem dL_law_587 : decode cL_law 587 = .ok (.invokevirtual 144, 3) := by decide +kernel
theorem dL_law_590 : decode cL_law 590 = .ok (.iadd, 1) := by decide +kernel
theorem dL_law_591 : decode cL_law 591 = .ok (.aload_n 1, 1) := by decide +kernel
theorem dL_law_592 : decode cL_law 592 = .ok (.invokevirtual 141, 3) := by decide +kernel
theorem dL_law_595 : decode cL_law 595 = .ok (.iadd, 1) := by decide +kernel
theorem dL_law_596 : decode cL_law 596 = .ok (.iload 7, 2) := by decide +kernel
theorem dL_law_598 : decode cL_law 598 = .ok (.if_icmp .eq 5, 3) := by decide +kernel
theorem dL_law_601 : decode cL_law 601 = .ok (.iconst 0, 1) := by decide +kernel
theorem dL_law_602 : decode cL_law 602 = .ok (.ireturn, 1) := by decide +kernel
theorem dL_law_603 : decode cL_law 603 = .ok (.aload_n 1, 1) := by decide +kernel
theorem dL_law_604 : decode cL_law 604 = .ok (.invokevirtual 147, 3) := by decide +kernel
theorem dL_law_607 : decode cL_law 607 = .ok (.istore 10, 2) := by decide +kernel
theorem dL_law_609 : decode cL_law 609 = .ok (.iload 4, 2) := by decide +kernel
theorem dL_law_611 : decode cL_law 611 = .ok (.iconst 4, 1) := by decide +kernel
theorem dL_law_612 : decode cL_law 612 = .ok (.ishr, 1) := by decide +kernel
theorem dL_law_613 : decode cL_law 613 = .ok (.iconst 3, 1) := by decide +kernel
theorem dL_law_614 : decode cL_law 614 = .ok (.invokestatic 18, 3) := by decide +kernel
theorem dL_law_617 : decode cL_law 617 = .ok (.istore 11, 2) := by decide +kernel
theorem dL_law_619 : decode cL_law 619 = .ok (.aload_n 1, 1) := by decide +kernel
theorem dL_law_620 : decode cL_law 620 = .ok (.aload_n 2, 1) := by decide +kernel
theorem dL_law_621 : decode cL_law 621 = .ok (.getfield 47, 3) := by decide +kernel
theorem dL_law_624 : decode cL_law 624 = .ok (.iload 10, 2) := by decide +kernel
theorem dL_law_626 : decode cL_law 626 = .ok (.invokevirtual 150, 3) := by decide +kernel
theorem dL_law_629 : decode cL_law 629 = .ok (.aload_n 1, 1) := by decide +kernel
theorem dL_law_630 : decode cL_law 630 = .ok (.aload_n 2, 1) := by decide +kernel
theorem dL_law_631 : decode cL_law 631 = .ok (.getfield 47, 3) := by decide +kernel
theorem dL_law_634 : decode cL_law 634 = .ok (.iload 11, 2) := by decide +kernel
theorem dL_law_636 : decode cL_law 636 = .ok (.invokevirtual 150, 3) := by decide +kernel
theorem dL_law_639 : decode cL_law 639 = .ok (.if_icmp .gt 33, 3) := by decide +kernel
theorem dL_law_642 : decode cL_law 642 = .ok (.aload_n 1, 1) := by decide +kernel
theorem dL_law_643 : decode cL_law 643 = .ok (.aload_n 2, 1) := by decide +kernel
theorem dL_law_644 : decode cL_law 644 = .ok (.getfield 47, 3) := by decide +kernel
theorem dL_law_647 : decode cL_law 647 = .ok (.iload 10, 2) := by decide +kernel
theorem dL_law_649 : decode cL_law 649 = .ok (.invokevirtual 150, 3) := by decide +kernel
theorem dL_law_652 : decode cL_law 652 = .ok (.aload_n 1, 1) := by decide +kernel
theorem dL_law_653 : decode cL_law 653 = .ok (.aload_n 2, 1) := by decide +kernel
theorem dL_law_654 : decode cL_law 654 = .ok (.getfield 47, 3) := by decide +kernel
theorem dL_law_657 : decode cL_law 657 = .ok (.iload 11, 2) := by decide +kernel
theorem dL_law_659 : decode cL_law 659 = .ok (.invokevirtual 150, 3) := by decide +kernel
theorem dL_law_662 : decode cL_law 662 = .ok (.if_icmp .ne 12, 3) := by decide +kernel
theorem dL_law_665 : decode cL_law 665 = .ok (.iload 11, 2) := by decide +kernel
theorem dL_law_667 : decode cL_law 667 = .ok (.iload 10, 2) := by decide +kernel
theorem dL_law_669 : decode cL_law 669 = .ok (.if_icmp .ge 5, 3) := by decide +kernel
theorem dL_law_672 : decode cL_law 672 = .ok (.iconst 0, 1) := by decide +kernel
theorem dL_law_673 : decode cL_law 673 = .ok (.ireturn, 1) := by decide +kernel
theorem dL_law_674 : decode cL_law 674 = .ok (.aload_n 1, 1) := by decide +kernel
theorem dL_law_675 : decode cL_law 675 = .ok (.invokevirtual 153, 3) := by decide +kernel
theorem dL_law_678 : decode cL_law 678 = .ok (.istore 12, 2) := by decide +kernel
theorem dL_law_680 : decode cL_law 680 = .ok (.iload 12, 2) := by decide +kernel
theorem dL_law_682 : decode cL_law 682 = .ok (.ifCond .lt 16, 3) := by decide +kernel
theorem dL_law_685 : decode cL_law 685 = .ok (.aload_n 1, 1) := by decide +kernel
theorem dL_law_686 : decode cL_law 686 = .ok (.iload 12, 2) := by decide +kernel
theorem dL_law_688 : decode cL_law 688 = .ok (.aload_n 2, 1) := by decide +kernel
theorem dL_law_689 : decode cL_law 689 = .ok (.getfield 51, 3) := by decide +kernel
theorem dL_law_692 : decode cL_law 692 = .ok (.invokevirtual 150, 3) := by decide +kernel
theorem dL_law_695 : decode cL_law 695 = .ok (.ifCond .ne 41, 3) := by decide +kernel
theorem dL_law_698 : decode cL_law 698 = .ok (.iload 12, 2) := by decide +kernel
theorem dL_law_700 : decode cL_law 700 = .ok (.ifCond .le 18, 3) := by decide +kernel
theorem dL_law_703 : decode cL_law 703 = .ok (.aload_n 1, 1) := by decide +kernel
theorem dL_law_704 : decode cL_law 704 = .ok (.iload 12, 2) := by decide +kernel
theorem dL_law_706 : decode cL_law 706 = .ok (.iconst 1, 1) := by decide +kernel
theorem dL_law_707 : decode cL_law 707 = .ok (.isub, 1) := by decide +kernel
theorem dL_law_708 : decode cL_law 708 = .ok (.aload_n 2, 1) := by decide +kernel
theorem dL_law_709 : decode cL_law 709 = .ok (.getfield 51, 3) := by decide +kernel
theorem dL_law_712 : decode cL_law 712 = .ok (.invokevirtual 150, 3) := by decide +kernel
theorem dL_law_715 : decode cL_law 715 = .ok (.ifCond .eq 21, 3) := by decide +kernel
theorem dL_law_718 : decode cL_law 718 = .ok (.iload 12, 2) := by decide +kernel
theorem dL_law_720 : decode cL_law 720 = .ok (.ifCond .ge 18, 3) := by decide +kernel
theorem dL_law_723 : decode cL_law 723 = .ok (.aload_n 1, 1) := by decide +kernel
theorem dL_law_724 : decode cL_law 724 = .ok (.bipush 9, 2) := by decide +kernel
theorem dL_law_726 : decode cL_law 726 = .ok (.aload_n 2, 1) := by decide +kernel
theorem dL_law_727 : decode cL_law 727 = .ok (.getfield 51, 3) := by decide +kernel
theorem dL_law_730 : decode cL_law 730 = .ok (.invokevirtual 150, 3) := by decide +kernel
theorem dL_law_733 : decode cL_law 733 = .ok (.ifCond .ne 5, 3) := by decide +kernel
theorem dL_law_736 : decode cL_law 736 = .ok (.iconst 0, 1) := by decide +kernel
theorem dL_law_737 : decode cL_law 737 = .ok (.ireturn, 1) := by decide +kernel
theorem dL_law_738 : decode cL_law 738 = .ok (.aload_n 1, 1) := by decide +kernel
theorem dL_law_739 : decode cL_law 739 = .ok (.aload_n 2, 1) := by decide +kernel
theorem dL_law_740 : decode cL_law 740 = .ok (.getfield 47, 3) := by decide +kernel
theorem dL_law_743 : decode cL_law 743 = .ok (.aload_n 2, 1) := by decide +kernel
theorem dL_law_744 : decode cL_law 744 = .ok (.getfield 51, 3) := by decide +kernel
theorem dL_law_747 : decode cL_law 747 = .ok (.invokevirtual 150, 3) := by decide +kernel
theorem dL_law_750 : decode cL_law 750 = .ok (.istore 13, 2) := by decide +kernel
theorem dL_law_752 : decode cL_law 752 = .ok (.aload_n 1, 1) := by decide +kernel
theorem dL_law_753 : decode cL_law 753 = .ok (.invokevirtual 83, 3) := by decide +kernel
theorem dL_law_756 : decode cL_law 756 = .ok (.lload 5, 2) := by decide +kernel
theorem dL_law_758 : decode cL_law 758 = .ok (.lcmp, 1) := by decide +kernel
theorem dL_law_759 : decode cL_law 759 = .ok (.ifCond .eq 5, 3) := by decide +kernel
theorem dL_law_762 : decode cL_law 762 = .ok (.iconst 0, 1) := by decide +kernel
theorem dL_law_763 : decode cL_law 763 = .ok (.ireturn, 1) := by decide +kernel
theorem dL_law_764 : decode cL_law 764 = .ok (.iload 7, 2) := by decide +kernel
theorem dL_law_766 : decode cL_law 766 = .ok (.newarray .int, 2) := by decide +kernel
theorem dL_law_768 : decode cL_law 768 = .ok (.astore 14, 2) := by decide +kernel
theorem dL_law_770 : decode cL_law 770 = .ok (.iload 7, 2) := by decide +kernel
theorem dL_law_772 : decode cL_law 772 = .ok (.newarray .int, 2) := by decide +kernel
theorem dL_law_774 : decode cL_law 774 = .ok (.astore 15, 2) := by decide +kernel
theorem dL_law_776 : decode cL_law 776 = .ok (.iload 7, 2) := by decide +kernel
theorem dL_law_778 : decode cL_law 778 = .ok (.newarray .boolean, 2) := by decide +kernel
theorem dL_law_780 : decode cL_law 780 = .ok (.astore 16, 2) := by decide +kernel
theorem dL_law_782 : decode cL_law 782 = .ok (.iload 7, 2) := by decide +kernel
theorem dL_law_784 : decode cL_law 784 = .ok (.newarray .int, 2) := by decide +kernel
theorem dL_law_786 : decode cL_law 786 = .ok (.astore 17, 2) := by decide +kernel
theorem dL_law_788 : decode cL_law 788 = .ok (.iconst 0, 1) := by decide +kernel
theorem dL_law_789 : decode cL_law 789 = .ok (.istore 18, 2) := by decide +kernel
theorem dL_law_791 : decode cL_law 791 = .ok (.iload 18, 2) := by decide +kernel
theorem dL_law_793 : decode cL_law 793 = .ok (.iload 7, 2) := by decide +kernel
theorem dL_law_795 : decode cL_law 795 = .ok (.if_icmp .ge 98, 3) := by decide +kernel
theorem dL_law_798 : decode cL_law 798 = .ok (.aload 14, 2) := by decide +kernel
theorem dL_law_800 : decode cL_law 800 = .ok (.iload 18, 2) := by decide +kernel
theorem dL_law_802 : decode cL_law 802 = .ok (.aload_n 1, 1) := by decide +kernel
theorem dL_law_803 : decode cL_law 803 = .ok (.iload 18, 2) := by decide +kernel
theorem dL_law_805 : decode cL_law 805 = .ok (.invokevirtual 112, 3) := by decide +kernel
theorem dL_law_808 : decode cL_law 808 = .ok (.iastore, 1) := by decide +kernel
theorem dL_law_809 : decode cL_law 809 = .ok (.aload 15, 2) := by decide +kernel
theorem dL_law_811 : decode cL_law 811 = .ok (.iload 18, 2) := by decide +kernel
theorem dL_law_813 : decode cL_law 813 = .ok (.aload_n 1, 1) := by decide +kernel
theorem dL_law_814 : decode cL_law 814 = .ok (.iload 18, 2) := by decide +kernel
theorem dL_law_816 : decode cL_law 816 = .ok (.invokevirtual 121, 3) := by decide +kernel
theorem dL_law_819 : decode cL_law 819 = .ok (.iastore, 1) := by decide +kernel
theorem dL_law_820 : decode cL_law 820 = .ok (.aload 16, 2) := by decide +kernel
theorem dL_law_822 : decode cL_law 822 = .ok (.iload 18, 2) := by decide +kernel
theorem dL_law_824 : decode cL_law 824 = .ok (.aload_n 1, 1) := by decide +kernel
theorem dL_law_825 : decode cL_law 825 = .ok (.iload 18, 2) := by decide +kernel
theorem dL_law_827 : decode cL_law 827 = .ok (.invokevirtual 96, 3) := by decide +kernel
theorem dL_law_830 : decode cL_law 830 = .ok (.ifCond .ge 7, 3) := by decide +kernel
theorem dL_law_833 : decode cL_law 833 = .ok (.iconst 1, 1) := by decide +kernel
theorem dL_law_834 : decode cL_law 834 = .ok (.goto 4, 3) := by decide +kernel
theorem dL_law_837 : decode cL_law 837 = .ok (.iconst 0, 1) := by decide +kernel
theorem dL_law_838 : decode cL_law 838 = .ok (.bastore, 1) := by decide +kernel
theorem dL_law_839 : decode cL_law 839 = .ok (.aload 17, 2) := by decide +kernel
theorem dL_law_841 : decode cL_law 841 = .ok (.iload 18, 2) := by decide +kernel
theorem dL_law_843 : decode cL_law 843 = .ok (.aload 16, 2) := by decide +kernel
theorem dL_law_845 : decode cL_law 845 = .ok (.iload 18, 2) := by decide +kernel
theorem dL_law_847 : decode cL_law 847 = .ok (.baload, 1) := by decide +kernel
theorem dL_law_848 : decode cL_law 848 = .ok (.ifCond .eq 7, 3) := by decide +kernel
theorem dL_law_851 : decode cL_law 851 = .ok (.iconst 0, 1) := by decide +kernel
theorem dL_law_852 : decode cL_law 852 = .ok (.goto 34, 3) := by decide +kernel
theorem dL_law_855 : decode cL_law 855 = .ok (.aload_n 2, 1) := by decide +kernel
theorem dL_law_856 : decode cL_law 856 = .ok (.getfield 9, 3) := by decide +kernel
theorem dL_law_859 : decode cL_law 859 = .ok (.aload_n 2, 1) := by decide +kernel
theorem dL_law_860 : decode cL_law 860 = .ok (.getfield 15, 3) := by decide +kernel
theorem dL_law_863 : decode cL_law 863 = .ok (.iload 18, 2) := by decide +kernel
theorem dL_law_865 : decode cL_law 865 = .ok (.aaload, 1) := by decide +kernel
theorem dL_law_866 : decode cL_law 866 = .ok (.iconst 0, 1) := by decide +kernel
theorem dL_law_867 : decode cL_law 867 = .ok (.iaload, 1) := by decide +kernel
theorem dL_law_868 : decode cL_law 868 = .ok (.aaload, 1) := by decide +kernel
theorem dL_law_869 : decode cL_law 869 = .ok (.iconst 1, 1) := by decide +kernel
theorem dL_law_870 : decode cL_law 870 = .ok (.iaload, 1) := by decide +kernel
theorem dL_law_871 : decode cL_law 871 = .ok (.aload_n 2, 1) := by decide +kernel
theorem dL_law_872 : decode cL_law 872 = .ok (.getfield 40, 3) := by decide +kernel
theorem dL_law_875 : decode cL_law 875 = .ok (.aload_n 2, 1) := by decide +kernel
theorem dL_law_876 : decode cL_law 876 = .ok (.getfield 15, 3) := by decide +kernel
theorem dL_law_879 : decode cL_law 879 = .ok (.iload 18, 2) := by decide +kernel
theorem dL_law_881 : decode cL_law 881 = .ok (.aaload, 1) := by decide +kernel
theorem dL_law_882 : decode cL_law 882 = .ok (.iconst 1, 1) := by decide +kernel
theorem dL_law_883 : decode cL_law 883 = .ok (.iaload, 1) := by decide +kernel
theorem dL_law_884 : decode cL_law 884 = .ok (.iaload, 1) := by decide +kernel
theorem dL_law_885 : decode cL_law 885 = .ok (.iadd, 1) := by decide +kernel
theorem dL_law_886 : decode cL_law 886 = .ok (.iastore, 1) := by decide +kernel
theorem dL_law_887 : decode cL_law 887 = .ok (.iinc 18 1, 3) := by decide +kernel
theorem dL_law_890 : decode cL_law 890 = .ok (.goto (-99), 3) := by decide +kernel
theorem dL_law_893 : decode cL_law 893 = .ok (.aload_n 1, 1) := by decide +kernel
theorem dL_law_894 : decode cL_law 894 = .ok (.invokevirtual 141, 3) := by decide +kernel
theorem dL_law_897 : decode cL_law 897 = .ok (.istore 18, 2) := by decide +kernel
theorem dL_law_899 : decode cL_law 899 = .ok (.aload_n 1, 1) := by decide +kernel
theorem dL_law_900 : decode cL_law 900 = .ok (.iconst 1, 1) := by decide +kernel
theorem dL_law_901 : decode cL_law 901 = .ok (.invokevirtual 62, 3) := by decide +kernel
theorem dL_law_904 : decode cL_law 904 = .ok (.istore 19, 2) := by decide +kernel
theorem dL_law_906 : decode cL_law 906 = .ok (.iload 19, 2) := by decide +kernel
theorem dL_law_908 : decode cL_law 908 = .ok (.aload_n 2, 1) := by decide +kernel
theorem dL_law_909 : decode cL_law 909 = .ok (.iconst 1, 1) := by decide +kernel
theorem dL_law_910 : decode cL_law 910 = .ok (.invokevirtual 65, 3) := by decide +kernel
theorem dL_law_913 : decode cL_law 913 = .ok (.if_icmp .ne 40, 3) := by decide +kernel
theorem dL_law_916 : decode cL_law 916 = .ok (.iload 19, 2) := by decide +kernel
theorem dL_law_918 : decode cL_law 918 = .ok (.aload_n 2, 1) := by decide +kernel
theorem dL_law_919 : decode cL_law 919 = .ok (.getfield 47, 3) := by decide +kernel
theorem dL_law_922 : decode cL_law 922 = .ok (.if_icmp .gt 31, 3) := by decide +kernel
theorem dL_law_925 : decode cL_law 925 = .ok (.iload 19, 2) := by decide +kernel
theorem dL_law_927 : decode cL_law 927 = .ok (.aload_n 2, 1) := by decide +kernel
theorem dL_law_928 : decode cL_law 928 = .ok (.getfield 47, 3) := by decide +kernel
theorem dL_law_931 : decode cL_law 931 = .ok (.if_icmp .ge 10, 3) := by decide +kernel
theorem dL_law_934 : decode cL_law 934 = .ok (.aload_n 1, 1) := by decide +kernel
theorem dL_law_935 : decode cL_law 935 = .ok (.invokevirtual 90, 3) := by decide +kernel
theorem dL_law_938 : decode cL_law 938 = .ok (.ifCond .gt 15, 3) := by decide +kernel
theorem dL_law_941 : decode cL_law 941 = .ok (.aload_n 1, 1) := by decide +kernel
theorem dL_law_942 : decode cL_law 942 = .ok (.invokevirtual 141, 3) := by decide +kernel
theorem dL_law_945 : decode cL_law 945 = .ok (.iload 18, 2) := by decide +kernel
theorem dL_law_947 : decode cL_law 947 = .ok (.isub, 1) := by decide +kernel
theorem dL_law_948 : decode cL_law 948 = .ok (.iload 13, 2) := by decide +kernel
theorem dL_law_950 : decode cL_law 950 = .ok (.if_icmp .le 5, 3) := by decide +kernel
theorem dL_law_953 : decode cL_law 953 = .ok (.iconst 0, 1) := by decide +kernel
theorem dL_law_954 : decode cL_law 954 = .ok (.ireturn, 1) := by decide +kernel
theorem dL_law_955 : decode cL_law 955 = .ok (.iconst 0, 1) := by decide +kernel
theorem dL_law_956 : decode cL_law 956 = .ok (.istore 20, 2) := by decide +kernel
theorem dL_law_958 : decode cL_law 958 = .ok (.iload 20, 2) := by decide +kernel
theorem dL_law_960 : decode cL_law 960 = .ok (.iload 7, 2) := by decide +kernel
theorem dL_law_962 : decode cL_law 962 = .ok (.if_icmp .ge 245, 3) := by decide +kernel
theorem dL_law_965 : decode cL_law 965 = .ok (.aload 16, 2) := by decide +kernel
theorem dL_law_967 : decode cL_law 967 = .ok (.iload 20, 2) := by decide +kernel
theorem dL_law_969 : decode cL_law 969 = .ok (.baload, 1) := by decide +kernel
theorem dL_law_970 : decode cL_law 970 = .ok (.ifCond .ne 16, 3) := by decide +kernel
theorem dL_law_973 : decode cL_law 973 = .ok (.aload_n 1, 1) := by decide +kernel
theorem dL_law_974 : decode cL_law 974 = .ok (.iload 20, 2) := by decide +kernel
theorem dL_law_976 : decode cL_law 976 = .ok (.invokevirtual 96, 3) := by decide +kernel
theorem dL_law_979 : decode cL_law 979 = .ok (.ifCond .ge 7, 3) := by decide +kernel
theorem dL_law_982 : decode cL_law 982 = .ok (.iconst 1, 1) := by decide +kernel
theorem dL_law_983 : decode cL_law 983 = .ok (.goto 4, 3) := by decide +kernel
theorem dL_law_986 : decode cL_law 986 = .ok (.iconst 0, 1) := by decide +kernel
theorem dL_law_987 : decode cL_law 987 = .ok (.istore 21, 2) := by decide +kernel
theorem dL_law_989 : decode cL_law 989 = .ok (.aload_n 1, 1) := by decide +kernel
theorem dL_law_990 : decode cL_law 990 = .ok (.iload 20, 2) := by decide +kernel
theorem dL_law_992 : decode cL_law 992 = .ok (.invokevirtual 112, 3) := by decide +kernel
theorem dL_law_995 : decode cL_law 995 = .ok (.iconst 0, 1) := by decide +kernel
theorem dL_law_996 : decode cL_law 996 = .ok (.aload 14, 2) := by decide +kernel
theorem dL_law_998 : decode cL_law 998 = .ok (.iload 20, 2) := by decide +kernel
theorem dL_law_1000 : decode cL_law 1000 = .ok (.iaload, 1) := by decide +kernel
theorem dL_law_1001 : decode cL_law 1001 = .ok (.aload 17, 2) := by decide +kernel
theorem dL_law_1003 : decode cL_law 1003 = .ok (.iload 20, 2) := by decide +kernel
theorem dL_law_1005 : decode cL_law 1005 = .ok (.iaload, 1) := by decide +kernel
theorem dL_law_1006 : decode cL_law 1006 = .ok (.isub, 1) := by decide +kernel
theorem dL_law_1007 : decode cL_law 1007 = .ok (.invokestatic 156, 3) := by decide +kernel
theorem dL_law_1010 : decode cL_law 1010 = .ok (.if_icmp .ne 85, 3) := by decide +kernel
theorem dL_law_1013 : decode cL_law 1013 = .ok (.aload 16, 2) := by decide +kernel
theorem dL_law_1015 : decode cL_law 1015 = .ok (.iload 20, 2) := by decide +kernel
theorem dL_law_1017 : decode cL_law 1017 = .ok (.baload, 1) := by decide +kernel
theorem dL_law_1018 : decode cL_law 1018 = .ok (.ifCond .eq 12, 3) := by decide +kernel
theorem dL_law_1021 : decode cL_law 1021 = .ok (.aload_n 1, 1) := by decide +kernel
theorem dL_law_1022 : decode cL_law 1022 = .ok (.iload 20, 2) := by decide +kernel
theorem dL_law_1024 : decode cL_law 1024 = .ok (.invokevirtual 96, 3) := by decide +kernel
theorem dL_law_1027 : decode cL_law 1027 = .ok (.ifCond .ge 68, 3) := by decide +kernel
theorem dL_law_1030 : decode cL_law 1030 = .ok (.aload 16, 2) := by decide +kernel
theorem dL_law_1032 : decode cL_law 1032 = .ok (.iload 20, 2) := by decide +kernel
theorem dL_law_1034 : decode cL_law 1034 = .ok (.baload, 1) := by decide +kernel
theorem dL_law_1035 : decode cL_law 1035 = .ok (.ifCond .ne 34, 3) := by decide +kernel
theorem dL_law_1038 : decode cL_law 1038 = .ok (.aload 15, 2) := by decide +kernel
theorem dL_law_1040 : decode cL_law 1040 = .ok (.iload 20, 2) := by decide +kernel
theorem dL_law_1042 : decode cL_law 1042 = .ok (.iaload, 1) := by decide +kernel
theorem dL_law_1043 : decode cL_law 1043 = .ok (.iconst 1, 1) := by decide +kernel
theorem dL_law_1044 : decode cL_law 1044 = .ok (.if_icmp .ne 7, 3) := by decide +kernel
theorem dL_law_1047 : decode cL_law 1047 = .ok (.iconst 1, 1) := by decide +kernel
theorem dL_law_1048 : decode cL_law 1048 = .ok (.goto 4, 3) := by decide +kernel
theorem dL_law_1051 : decode cL_law 1051 = .ok (.iconst 0, 1) := by decide +kernel
theorem dL_law_1052 : decode cL_law 1052 = .ok (.aload_n 1, 1) := by decide +kernel
theorem dL_law_1053 : decode cL_law 1053 = .ok (.iload 20, 2) := by decide +kernel
theorem dL_law_1055 : decode cL_law 1055 = .ok (.invokevirtual 112, 3) := by decide +kernel
theorem dL_law_1058 : decode cL_law 1058 = .ok (.ifCond .ne 7, 3) := by decide +kernel
theorem dL_law_1061 : decode cL_law 1061 = .ok (.iconst 1, 1) := by decide +kernel
theorem dL_law_1062 : decode cL_law 1062 = .ok (.goto 4, 3) := by decide +kernel
theorem dL_law_1065 : decode cL_law 1065 = .ok (.iconst 0, 1) := by decide +kernel
theorem dL_law_1066 : decode cL_law 1066 = .ok (.if_icmp .ne 29, 3) := by decide +kernel
theorem dL_law_1069 : decode cL_law 1069 = .ok (.aload 16, 2) := by decide +kernel
theorem dL_law_1071 : decode cL_law 1071 = .ok (.iload 20, 2) := by decide +kernel
theorem dL_law_1073 : decode cL_law 1073 = .ok (.baload, 1) := by decide +kernel
theorem dL_law_1074 : decode cL_law 1074 = .ok (.ifCond .ne 23, 3) := by decide +kernel
theorem dL_law_1077 : decode cL_law 1077 = .ok (.aload_n 1, 1) := by decide +kernel
theorem dL_law_1078 : decode cL_law 1078 = .ok (.iload 20, 2) := by decide +kernel
theorem dL_law_1080 : decode cL_law 1080 = .ok (.invokevirtual 112, 3) := by decide +kernel
theorem dL_law_1083 : decode cL_law 1083 = .ok (.ifCond .ne 14, 3) := by decide +kernel
theorem dL_law_1086 : decode cL_law 1086 = .ok (.aload_n 1, 1) := by decide +kernel
theorem dL_law_1087 : decode cL_law 1087 = .ok (.iload 20, 2) := by decide +kernel
theorem dL_law_1089 : decode cL_law 1089 = .ok (.invokevirtual 109, 3) := by decide +kernel
theorem dL_law_1092 : decode cL_law 1092 = .ok (.ifCond .ne 5, 3) := by decide +kernel
theorem dL_law_1095 : decode cL_law 1095 = .ok (.iconst 0, 1) := by decide +kernel
theorem dL_law_1096 : decode cL_law 1096 = .ok (.ireturn, 1) := by decide +kernel
theorem dL_law_1097 : decode cL_law 1097 = .ok (.iload 21, 2) := by decide +kernel
theorem dL_law_1099 : decode cL_law 1099 = .ok (.ifCond .eq 102, 3) := by decide +kernel
theorem dL_law_1102 : decode cL_law 1102 = .ok (.aload_n 1, 1) := by decide +kernel
theorem dL_law_1103 : decode cL_law 1103 = .ok (.iload 20, 2) := by decide +kernel
theorem dL_law_1105 : decode cL_law 1105 = .ok (.invokevirtual 105, 3) := by decide +kernel
theorem dL_law_1108 : decode cL_law 1108 = .ok (.ifCond .ne 6, 3) := by decide +kernel
theorem dL_law_1111 : decode cL_law 1111 = .ok (.goto 90, 3) := by decide +kernel
theorem dL_law_1114 : decode cL_law 1114 = .ok (.iconst 0, 1) := by decide +kernel
theorem dL_law_1115 : decode cL_law 1115 = .ok (.istore 22, 2) := by decide +kernel
theorem dL_law_1117 : decode cL_law 1117 = .ok (.iload 22, 2) := by decide +kernel
theorem dL_law_1119 : decode cL_law 1119 = .ok (.iload 7, 2) := by decide +kernel
theorem dL_law_1121 : decode cL_law 1121 = .ok (.if_icmp .ge 80, 3) := by decide +kernel
theorem dL_law_1124 : decode cL_law 1124 = .ok (.aload_n 1, 1) := by decide +kernel
theorem dL_law_1125 : decode cL_law 1125 = .ok (.iload 22, 2) := by decide +kernel
theorem dL_law_1127 : decode cL_law 1127 = .ok (.invokevirtual 96, 3) := by decide +kernel
theorem dL_law_1130 : decode cL_law 1130 = .ok (.ifCond .lt 65, 3) := by decide +kernel
theorem dL_law_1133 : decode cL_law 1133 = .ok (.iload 20, 2) := by decide +kernel
theorem dL_law_1135 : decode cL_law 1135 = .ok (.iload 22, 2) := by decide +kernel
theorem dL_law_1137 : decode cL_law 1137 = .ok (.if_icmp .ge 31, 3) := by decide +kernel
theorem dL_law_1140 : decode cL_law 1140 = .ok (.aload_n 2, 1) := by decide +kernel
theorem dL_law_1141 : decode cL_law 1141 = .ok (.aload_n 2, 1) := by decide +kernel
theorem dL_law_1142 : decode cL_law 1142 = .ok (.getfield 15, 3) := by decide +kernel
theorem dL_law_1145 : decode cL_law 1145 = .ok (.iload 20, 2) := by decide +kernel
theorem dL_law_1147 : decode cL_law 1147 = .ok (.aaload, 1) := by decide +kernel
theorem dL_law_1148 : decode cL_law 1148 = .ok (.aload_n 2, 1) := by decide +kernel
theorem dL_law_1149 : decode cL_law 1149 = .ok (.getfield 15, 3) := by decide +kernel
theorem dL_law_1152 : decode cL_law 1152 = .ok (.iload 22, 2) := by decide +kernel
theorem dL_law_1154 : decode cL_law 1154 = .ok (.aaload, 1) := by decide +kernel
theorem dL_law_1155 : decode cL_law 1155 = .ok (.aload_n 2, 1) := by decide +kernel
theorem dL_law_1156 : decode cL_law 1156 = .ok (.getfield 51, 3) := by decide +kernel
theorem dL_law_1159 : decode cL_law 1159 = .ok (.invokevirtual 161, 3) := by decide +kernel
theorem dL_law_1162 : decode cL_law 1162 = .ok (.ifCond .eq 31, 3) := by decide +kernel
theorem dL_law_1165 : decode cL_law 1165 = .ok (.goto 30, 3) := by decide +kernel
theorem dL_law_1168 : decode cL_law 1168 = .ok (.aload_n 2, 1) := by decide +kernel
theorem dL_law_1169 : decode cL_law 1169 = .ok (.aload_n 2, 1) := by decide +kernel
theorem dL_law_1170 : decode cL_law 1170 = .ok (.getfield 15, 3) := by decide +kernel
theorem dL_law_1173 : decode cL_law 1173 = .ok (.iload 22, 2) := by decide +kernel
theorem dL_law_1175 : decode cL_law 1175 = .ok (.aaload, 1) := by decide +kernel
theorem dL_law_1176 : decode cL_law 1176 = .ok (.aload_n 2, 1) := by decide +kernel
theorem dL_law_1177 : decode cL_law 1177 = .ok (.getfield 15, 3) := by decide +kernel
theorem dL_law_1180 : decode cL_law 1180 = .ok (.iload 20, 2) := by decide +kernel
theorem dL_law_1182 : decode cL_law 1182 = .ok (.aaload, 1) := by decide +kernel
theorem dL_law_1183 : decode cL_law 1183 = .ok (.aload_n 2, 1) := by decide +kernel
theorem dL_law_1184 : decode cL_law 1184 = .ok (.getfield 51, 3) := by decide +kernel
theorem dL_law_1187 : decode cL_law 1187 = .ok (.invokevirtual 161, 3) := by decide +kernel
theorem dL_law_1190 : decode cL_law 1190 = .ok (.ifCond .eq 5, 3) := by decide +kernel
theorem dL_law_1193 : decode cL_law 1193 = .ok (.iconst 0, 1) := by decide +kernel
theorem dL_law_1194 : decode cL_law 1194 = .ok (.ireturn, 1) := by decide +kernel
theorem dL_law_1195 : decode cL_law 1195 = .ok (.iinc 22 1, 3) := by decide +kernel
theorem dL_law_1198 : decode cL_law 1198 = .ok (.goto (-81), 3) := by decide +kernel
theorem dL_law_1201 : decode cL_law 1201 = .ok (.iinc 20 1, 3) := by decide +kernel
theorem dL_law_1204 : decode cL_law 1204 = .ok (.goto (-246), 3) := by decide +kernel
theorem dL_law_1207 : decode cL_law 1207 = .ok (.iinc 3 1, 3) := by decide +kernel
theorem dL_law_1210 : decode cL_law 1210 = .ok (.goto (-1188), 3) := by decide +kernel
theorem dL_law_1213 : decode cL_law 1213 = .ok (.aload_n 2, 1) := by decide +kernel
theorem dL_law_1214 : decode cL_law 1214 = .ok (.aload_n 1, 1) := by decide +kernel
theorem dL_law_1215 : decode cL_law 1215 = .ok (.invokevirtual 165, 3) := by decide +kernel
theorem dL_law_1218 : decode cL_law 1218 = .ok (.ireturn, 1) := by decide +kernel
