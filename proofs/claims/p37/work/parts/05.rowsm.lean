theorem dX3_init_0 : decode cX3_init 0 = .ok (.aload_n 0, 1) := by decide +kernel
theorem dX3_init_1 : decode cX3_init 1 = .ok (.invokespecial 1, 3) := by decide +kernel
theorem dX3_init_4 : decode cX3_init 4 = .ok (.aload_n 0, 1) := by decide +kernel
theorem dX3_init_5 : decode cX3_init 5 = .ok (.iconst 4, 1) := by decide +kernel
theorem dX3_init_6 : decode cX3_init 6 = .ok (.newarray .int, 2) := by decide +kernel
theorem dX3_init_8 : decode cX3_init 8 = .ok (.putfield 7, 3) := by decide +kernel
theorem dX3_init_11 : decode cX3_init 11 = .ok (.aload_n 0, 1) := by decide +kernel
theorem dX3_init_12 : decode cX3_init 12 = .ok (.iconst 0, 1) := by decide +kernel
theorem dX3_init_13 : decode cX3_init 13 = .ok (.anewarray 13, 3) := by decide +kernel
theorem dX3_init_16 : decode cX3_init 16 = .ok (.putfield 14, 3) := by decide +kernel
theorem dX3_init_19 : decode cX3_init 19 = .ok (.aload_n 0, 1) := by decide +kernel
theorem dX3_init_20 : decode cX3_init 20 = .ok (.iconst 0, 1) := by decide +kernel
theorem dX3_init_21 : decode cX3_init 21 = .ok (.anewarray 13, 3) := by decide +kernel
theorem dX3_init_24 : decode cX3_init 24 = .ok (.putfield 18, 3) := by decide +kernel
theorem dX3_init_27 : decode cX3_init 27 = .ok (.return_, 1) := by decide +kernel
theorem dX3_with_0 : decode cX3_with 0 = .ok (.aload_n 0, 1) := by decide +kernel
theorem dX3_with_1 : decode cX3_with 1 = .ok (.arraylength, 1) := by decide +kernel
theorem dX3_with_2 : decode cX3_with 2 = .ok (.iconst 1, 1) := by decide +kernel
theorem dX3_with_3 : decode cX3_with 3 = .ok (.iadd, 1) := by decide +kernel
theorem dX3_with_4 : decode cX3_with 4 = .ok (.anewarray 13, 3) := by decide +kernel
theorem dX3_with_7 : decode cX3_with 7 = .ok (.astore_n 2, 1) := by decide +kernel
theorem dX3_with_8 : decode cX3_with 8 = .ok (.iconst 0, 1) := by decide +kernel
theorem dX3_with_9 : decode cX3_with 9 = .ok (.istore_n 3, 1) := by decide +kernel
theorem dX3_with_10 : decode cX3_with 10 = .ok (.iload_n 3, 1) := by decide +kernel
theorem dX3_with_11 : decode cX3_with 11 = .ok (.aload_n 0, 1) := by decide +kernel
theorem dX3_with_12 : decode cX3_with 12 = .ok (.arraylength, 1) := by decide +kernel
theorem dX3_with_13 : decode cX3_with 13 = .ok (.if_icmp .ge 15, 3) := by decide +kernel
theorem dX3_with_16 : decode cX3_with 16 = .ok (.aload_n 2, 1) := by decide +kernel
theorem dX3_with_17 : decode cX3_with 17 = .ok (.iload_n 3, 1) := by decide +kernel
theorem dX3_with_18 : decode cX3_with 18 = .ok (.aload_n 0, 1) := by decide +kernel
theorem dX3_with_19 : decode cX3_with 19 = .ok (.iload_n 3, 1) := by decide +kernel
theorem dX3_with_20 : decode cX3_with 20 = .ok (.aaload, 1) := by decide +kernel
theorem dX3_with_21 : decode cX3_with 21 = .ok (.aastore, 1) := by decide +kernel
theorem dX3_with_22 : decode cX3_with 22 = .ok (.iinc 3 1, 3) := by decide +kernel
theorem dX3_with_25 : decode cX3_with 25 = .ok (.goto (-15), 3) := by decide +kernel
theorem dX3_with_28 : decode cX3_with 28 = .ok (.aload_n 2, 1) := by decide +kernel
theorem dX3_with_29 : decode cX3_with 29 = .ok (.aload_n 0, 1) := by decide +kernel
theorem dX3_with_30 : decode cX3_with 30 = .ok (.arraylength, 1) := by decide +kernel
theorem dX3_with_31 : decode cX3_with 31 = .ok (.aload_n 1, 1) := by decide +kernel
theorem dX3_with_32 : decode cX3_with 32 = .ok (.aastore, 1) := by decide +kernel
theorem dX3_with_33 : decode cX3_with 33 = .ok (.aload_n 2, 1) := by decide +kernel
theorem dX3_with_34 : decode cX3_with 34 = .ok (.areturn, 1) := by decide +kernel
theorem dX3_isAhead_0 : decode cX3_isAhead 0 = .ok (.iload_n 3, 1) := by decide +kernel
theorem dX3_isAhead_1 : decode cX3_isAhead 1 = .ok (.ifCond .eq 39, 3) := by decide +kernel
theorem dX3_isAhead_4 : decode cX3_isAhead 4 = .ok (.iload_n 3, 1) := by decide +kernel
theorem dX3_isAhead_5 : decode cX3_isAhead 5 = .ok (.iconst 1, 1) := by decide +kernel
theorem dX3_isAhead_6 : decode cX3_isAhead 6 = .ok (.if_icmp .ne 15, 3) := by decide +kernel
theorem dX3_isAhead_9 : decode cX3_isAhead 9 = .ok (.aload_n 1, 1) := by decide +kernel
theorem dX3_isAhead_10 : decode cX3_isAhead 10 = .ok (.iconst 2, 1) := by decide +kernel
theorem dX3_isAhead_11 : decode cX3_isAhead 11 = .ok (.iaload, 1) := by decide +kernel
theorem dX3_isAhead_12 : decode cX3_isAhead 12 = .ok (.aload_n 2, 1) := by decide +kernel
theorem dX3_isAhead_13 : decode cX3_isAhead 13 = .ok (.iconst 2, 1) := by decide +kernel
theorem dX3_isAhead_14 : decode cX3_isAhead 14 = .ok (.iaload, 1) := by decide +kernel
theorem dX3_isAhead_15 : decode cX3_isAhead 15 = .ok (.if_icmp .gt 29, 3) := by decide +kernel
theorem dX3_isAhead_18 : decode cX3_isAhead 18 = .ok (.goto 22, 3) := by decide +kernel
theorem dX3_isAhead_21 : decode cX3_isAhead 21 = .ok (.aload_n 0, 1) := by decide +kernel
theorem dX3_isAhead_22 : decode cX3_isAhead 22 = .ok (.getfield 7, 3) := by decide +kernel
theorem dX3_isAhead_25 : decode cX3_isAhead 25 = .ok (.aload_n 1, 1) := by decide +kernel
theorem dX3_isAhead_26 : decode cX3_isAhead 26 = .ok (.iconst 1, 1) := by decide +kernel
theorem dX3_isAhead_27 : decode cX3_isAhead 27 = .ok (.iaload, 1) := by decide +kernel
theorem dX3_isAhead_28 : decode cX3_isAhead 28 = .ok (.iaload, 1) := by decide +kernel
theorem dX3_isAhead_29 : decode cX3_isAhead 29 = .ok (.aload_n 0, 1) := by decide +kernel
theorem dX3_isAhead_30 : decode cX3_isAhead 30 = .ok (.getfield 7, 3) := by decide +kernel
theorem dX3_isAhead_33 : decode cX3_isAhead 33 = .ok (.aload_n 2, 1) := by decide +kernel
theorem dX3_isAhead_34 : decode cX3_isAhead 34 = .ok (.iconst 1, 1) := by decide +kernel
theorem dX3_isAhead_35 : decode cX3_isAhead 35 = .ok (.iaload, 1) := by decide +kernel
theorem dX3_isAhead_36 : decode cX3_isAhead 36 = .ok (.iaload, 1) := by decide +kernel
theorem dX3_isAhead_37 : decode cX3_isAhead 37 = .ok (.if_icmp .lt 7, 3) := by decide +kernel
theorem dX3_isAhead_40 : decode cX3_isAhead 40 = .ok (.iconst 1, 1) := by decide +kernel
theorem dX3_isAhead_41 : decode cX3_isAhead 41 = .ok (.goto 4, 3) := by decide +kernel
theorem dX3_isAhead_44 : decode cX3_isAhead 44 = .ok (.iconst 0, 1) := by decide +kernel
theorem dX3_isAhead_45 : decode cX3_isAhead 45 = .ok (.ireturn, 1) := by decide +kernel
set_option maxRecDepth 20000 in
theorem ggX3_first_X3_isAhead : GoodIn wsX3_first wsX3_isAhead := goodIn_r _ [6, 7, 8, 9, 10, 11, 12, 13] (by decide +kernel) (by decide +kernel)
set_option maxRecDepth 20000 in
theorem gX3_first_X3_isAhead : GoodIn wsX3_first (wsV RX3 36 RX3 yX3_isAhead wsX3_isAhead) := goodIn_app (goodIn_of _ (by decide +kernel)) ggX3_first_X3_isAhead
theorem dX3_first_0 : decode cX3_first 0 = .ok (.iconst (-1), 1) := by decide +kernel
theorem dX3_first_1 : decode cX3_first 1 = .ok (.istore_n 2, 1) := by decide +kernel
theorem dX3_first_2 : decode cX3_first 2 = .ok (.iconst 0, 1) := by decide +kernel
theorem dX3_first_3 : decode cX3_first 3 = .ok (.istore_n 3, 1) := by decide +kernel
theorem dX3_first_4 : decode cX3_first 4 = .ok (.iload_n 3, 1) := by decide +kernel
theorem dX3_first_5 : decode cX3_first 5 = .ok (.aload_n 0, 1) := by decide +kernel
theorem dX3_first_6 : decode cX3_first 6 = .ok (.getfield 18, 3) := by decide +kernel
theorem dX3_first_9 : decode cX3_first 9 = .ok (.arraylength, 1) := by decide +kernel
theorem dX3_first_10 : decode cX3_first 10 = .ok (.if_icmp .ge 46, 3) := by decide +kernel
theorem dX3_first_13 : decode cX3_first 13 = .ok (.aload_n 0, 1) := by decide +kernel
theorem dX3_first_14 : decode cX3_first 14 = .ok (.getfield 18, 3) := by decide +kernel
theorem dX3_first_17 : decode cX3_first 17 = .ok (.iload_n 3, 1) := by decide +kernel
theorem dX3_first_18 : decode cX3_first 18 = .ok (.aaload, 1) := by decide +kernel
theorem dX3_first_19 : decode cX3_first 19 = .ok (.iconst 3, 1) := by decide +kernel
theorem dX3_first_20 : decode cX3_first 20 = .ok (.iaload, 1) := by decide +kernel
theorem dX3_first_21 : decode cX3_first 21 = .ok (.ifCond .ne 29, 3) := by decide +kernel
theorem dX3_first_24 : decode cX3_first 24 = .ok (.iload_n 2, 1) := by decide +kernel
theorem dX3_first_25 : decode cX3_first 25 = .ok (.ifCond .lt 23, 3) := by decide +kernel
theorem dX3_first_28 : decode cX3_first 28 = .ok (.aload_n 0, 1) := by decide +kernel
theorem dX3_first_29 : decode cX3_first 29 = .ok (.aload_n 0, 1) := by decide +kernel
theorem dX3_first_30 : decode cX3_first 30 = .ok (.getfield 18, 3) := by decide +kernel
theorem dX3_first_33 : decode cX3_first 33 = .ok (.iload_n 2, 1) := by decide +kernel
theorem dX3_first_34 : decode cX3_first 34 = .ok (.aaload, 1) := by decide +kernel
theorem dX3_first_35 : decode cX3_first 35 = .ok (.aload_n 0, 1) := by decide +kernel
theorem dX3_first_36 : decode cX3_first 36 = .ok (.getfield 18, 3) := by decide +kernel
theorem dX3_first_39 : decode cX3_first 39 = .ok (.iload_n 3, 1) := by decide +kernel
theorem dX3_first_40 : decode cX3_first 40 = .ok (.aaload, 1) := by decide +kernel
theorem dX3_first_41 : decode cX3_first 41 = .ok (.iload_n 1, 1) := by decide +kernel
theorem dX3_first_42 : decode cX3_first 42 = .ok (.invokevirtual 36, 3) := by decide +kernel
theorem dX3_first_45 : decode cX3_first 45 = .ok (.ifCond .ne 5, 3) := by decide +kernel
theorem dX3_first_48 : decode cX3_first 48 = .ok (.iload_n 3, 1) := by decide +kernel
theorem dX3_first_49 : decode cX3_first 49 = .ok (.istore_n 2, 1) := by decide +kernel
theorem dX3_first_50 : decode cX3_first 50 = .ok (.iinc 3 1, 3) := by decide +kernel
theorem dX3_first_53 : decode cX3_first 53 = .ok (.goto (-49), 3) := by decide +kernel
theorem dX3_first_56 : decode cX3_first 56 = .ok (.iload_n 2, 1) := by decide +kernel
theorem dX3_first_57 : decode cX3_first 57 = .ok (.ireturn, 1) := by decide +kernel
theorem dX3_count_0 : decode cX3_count 0 = .ok (.iconst 0, 1) := by decide +kernel
theorem dX3_count_1 : decode cX3_count 1 = .ok (.istore_n 2, 1) := by decide +kernel
theorem dX3_count_2 : decode cX3_count 2 = .ok (.aload_n 0, 1) := by decide +kernel
theorem dX3_count_3 : decode cX3_count 3 = .ok (.getfield 18, 3) := by decide +kernel
theorem dX3_count_6 : decode cX3_count 6 = .ok (.astore_n 3, 1) := by decide +kernel
theorem dX3_count_7 : decode cX3_count 7 = .ok (.aload_n 3, 1) := by decide +kernel
theorem dX3_count_8 : decode cX3_count 8 = .ok (.arraylength, 1) := by decide +kernel
theorem dX3_count_9 : decode cX3_count 9 = .ok (.istore 4, 2) := by decide +kernel
theorem dX3_count_11 : decode cX3_count 11 = .ok (.iconst 0, 1) := by decide +kernel
theorem dX3_count_12 : decode cX3_count 12 = .ok (.istore 5, 2) := by decide +kernel
theorem dX3_count_14 : decode cX3_count 14 = .ok (.iload 5, 2) := by decide +kernel
theorem dX3_count_16 : decode cX3_count 16 = .ok (.iload 4, 2) := by decide +kernel
theorem dX3_count_18 : decode cX3_count 18 = .ok (.if_icmp .ge 31, 3) := by decide +kernel
theorem dX3_count_21 : decode cX3_count 21 = .ok (.aload_n 3, 1) := by decide +kernel
theorem dX3_count_22 : decode cX3_count 22 = .ok (.iload 5, 2) := by decide +kernel
theorem dX3_count_24 : decode cX3_count 24 = .ok (.aaload, 1) := by decide +kernel
theorem dX3_count_25 : decode cX3_count 25 = .ok (.astore 6, 2) := by decide +kernel
theorem dX3_count_27 : decode cX3_count 27 = .ok (.iload_n 2, 1) := by decide +kernel
theorem dX3_count_28 : decode cX3_count 28 = .ok (.aload 6, 2) := by decide +kernel
theorem dX3_count_30 : decode cX3_count 30 = .ok (.iconst 3, 1) := by decide +kernel
theorem dX3_count_31 : decode cX3_count 31 = .ok (.iaload, 1) := by decide +kernel
theorem dX3_count_32 : decode cX3_count 32 = .ok (.iload_n 1, 1) := by decide +kernel
theorem dX3_count_33 : decode cX3_count 33 = .ok (.if_icmp .ne 7, 3) := by decide +kernel
theorem dX3_count_36 : decode cX3_count 36 = .ok (.iconst 1, 1) := by decide +kernel
theorem dX3_count_37 : decode cX3_count 37 = .ok (.goto 4, 3) := by decide +kernel
theorem dX3_count_40 : decode cX3_count 40 = .ok (.iconst 0, 1) := by decide +kernel
theorem dX3_count_41 : decode cX3_count 41 = .ok (.iadd, 1) := by decide +kernel
theorem dX3_count_42 : decode cX3_count 42 = .ok (.istore_n 2, 1) := by decide +kernel
theorem dX3_count_43 : decode cX3_count 43 = .ok (.iinc 5 1, 3) := by decide +kernel
theorem dX3_count_46 : decode cX3_count 46 = .ok (.goto (-32), 3) := by decide +kernel
theorem dX3_count_49 : decode cX3_count 49 = .ok (.iload_n 2, 1) := by decide +kernel
theorem dX3_count_50 : decode cX3_count 50 = .ok (.ireturn, 1) := by decide +kernel
theorem dX3_recall_0 : decode cX3_recall 0 = .ok (.iconst 0, 1) := by decide +kernel
theorem dX3_recall_1 : decode cX3_recall 1 = .ok (.istore_n 2, 1) := by decide +kernel
theorem dX3_recall_2 : decode cX3_recall 2 = .ok (.aload_n 0, 1) := by decide +kernel
theorem dX3_recall_3 : decode cX3_recall 3 = .ok (.getfield 14, 3) := by decide +kernel
theorem dX3_recall_6 : decode cX3_recall 6 = .ok (.iload_n 1, 1) := by decide +kernel
theorem dX3_recall_7 : decode cX3_recall 7 = .ok (.aaload, 1) := by decide +kernel
theorem dX3_recall_8 : decode cX3_recall 8 = .ok (.iconst 3, 1) := by decide +kernel
theorem dX3_recall_9 : decode cX3_recall 9 = .ok (.iconst 1, 1) := by decide +kernel
theorem dX3_recall_10 : decode cX3_recall 10 = .ok (.iastore, 1) := by decide +kernel
theorem dX3_recall_11 : decode cX3_recall 11 = .ok (.aload_n 0, 1) := by decide +kernel
theorem dX3_recall_12 : decode cX3_recall 12 = .ok (.getfield 18, 3) := by decide +kernel
theorem dX3_recall_15 : decode cX3_recall 15 = .ok (.astore_n 3, 1) := by decide +kernel
theorem dX3_recall_16 : decode cX3_recall 16 = .ok (.aload_n 3, 1) := by decide +kernel
theorem dX3_recall_17 : decode cX3_recall 17 = .ok (.arraylength, 1) := by decide +kernel
theorem dX3_recall_18 : decode cX3_recall 18 = .ok (.istore 4, 2) := by decide +kernel
theorem dX3_recall_20 : decode cX3_recall 20 = .ok (.iconst 0, 1) := by decide +kernel
theorem dX3_recall_21 : decode cX3_recall 21 = .ok (.istore 5, 2) := by decide +kernel
theorem dX3_recall_23 : decode cX3_recall 23 = .ok (.iload 5, 2) := by decide +kernel
theorem dX3_recall_25 : decode cX3_recall 25 = .ok (.iload 4, 2) := by decide +kernel
theorem dX3_recall_27 : decode cX3_recall 27 = .ok (.if_icmp .ge 41, 3) := by decide +kernel
theorem dX3_recall_30 : decode cX3_recall 30 = .ok (.aload_n 3, 1) := by decide +kernel
theorem dX3_recall_31 : decode cX3_recall 31 = .ok (.iload 5, 2) := by decide +kernel
theorem dX3_recall_33 : decode cX3_recall 33 = .ok (.aaload, 1) := by decide +kernel
theorem dX3_recall_34 : decode cX3_recall 34 = .ok (.astore 6, 2) := by decide +kernel
theorem dX3_recall_36 : decode cX3_recall 36 = .ok (.aload 6, 2) := by decide +kernel
theorem dX3_recall_38 : decode cX3_recall 38 = .ok (.iconst 0, 1) := by decide +kernel
theorem dX3_recall_39 : decode cX3_recall 39 = .ok (.iaload, 1) := by decide +kernel
theorem dX3_recall_40 : decode cX3_recall 40 = .ok (.iload_n 1, 1) := by decide +kernel
theorem dX3_recall_41 : decode cX3_recall 41 = .ok (.if_icmp .ne 21, 3) := by decide +kernel
theorem dX3_recall_44 : decode cX3_recall 44 = .ok (.aload 6, 2) := by decide +kernel
theorem dX3_recall_46 : decode cX3_recall 46 = .ok (.iconst 3, 1) := by decide +kernel
theorem dX3_recall_47 : decode cX3_recall 47 = .ok (.iaload, 1) := by decide +kernel
theorem dX3_recall_48 : decode cX3_recall 48 = .ok (.ifCond .le 6, 3) := by decide +kernel
theorem dX3_recall_51 : decode cX3_recall 51 = .ok (.goto 11, 3) := by decide +kernel
theorem dX3_recall_54 : decode cX3_recall 54 = .ok (.aload 6, 2) := by decide +kernel
theorem dX3_recall_56 : decode cX3_recall 56 = .ok (.iconst 3, 1) := by decide +kernel
theorem dX3_recall_57 : decode cX3_recall 57 = .ok (.iconst 2, 1) := by decide +kernel
theorem dX3_recall_58 : decode cX3_recall 58 = .ok (.iastore, 1) := by decide +kernel
theorem dX3_recall_59 : decode cX3_recall 59 = .ok (.iinc 2 1, 3) := by decide +kernel
theorem dX3_recall_62 : decode cX3_recall 62 = .ok (.iinc 5 1, 3) := by decide +kernel
theorem dX3_recall_65 : decode cX3_recall 65 = .ok (.goto (-42), 3) := by decide +kernel
theorem dX3_recall_68 : decode cX3_recall 68 = .ok (.iload_n 2, 1) := by decide +kernel
theorem dX3_recall_69 : decode cX3_recall 69 = .ok (.ireturn, 1) := by decide +kernel
set_option maxRecDepth 20000 in
theorem ggX3_pass_X3_recall : GoodIn wsX3_pass wsX3_recall := goodIn_r _ [11, 2, 1, 20, 21, 22, 23, 24, 25] (by decide +kernel) (by decide +kernel)
set_option maxRecDepth 20000 in
theorem gX3_pass_X3_recall : GoodIn wsX3_pass (wsV RX3 40 RX3 yX3_recall wsX3_recall) := goodIn_app (goodIn_of _ (by decide +kernel)) ggX3_pass_X3_recall
set_option maxRecDepth 20000 in
theorem ggX3_pass_X3_first : GoodIn wsX3_pass wsX3_first := goodIn_r _ [15, 1, 16, 17, 18, 10, 19, 3, 20, 21, 22, 23, 24, 25] (by decide +kernel) (by decide +kernel)
set_option maxRecDepth 20000 in
theorem gX3_pass_X3_first : GoodIn wsX3_pass (wsV RX3 44 RX3 yX3_first wsX3_first) := goodIn_app (goodIn_of _ (by decide +kernel)) ggX3_pass_X3_first
theorem dX3_pass_0 : decode cX3_pass 0 = .ok (.aload_n 0, 1) := by decide +kernel
theorem dX3_pass_1 : decode cX3_pass 1 = .ok (.getfield 18, 3) := by decide +kernel
theorem dX3_pass_4 : decode cX3_pass 4 = .ok (.astore_n 1, 1) := by decide +kernel
theorem dX3_pass_5 : decode cX3_pass 5 = .ok (.aload_n 1, 1) := by decide +kernel
theorem dX3_pass_6 : decode cX3_pass 6 = .ok (.arraylength, 1) := by decide +kernel
theorem dX3_pass_7 : decode cX3_pass 7 = .ok (.istore_n 2, 1) := by decide +kernel
theorem dX3_pass_8 : decode cX3_pass 8 = .ok (.iconst 0, 1) := by decide +kernel
theorem dX3_pass_9 : decode cX3_pass 9 = .ok (.istore_n 3, 1) := by decide +kernel
theorem dX3_pass_10 : decode cX3_pass 10 = .ok (.iload_n 3, 1) := by decide +kernel
theorem dX3_pass_11 : decode cX3_pass 11 = .ok (.iload_n 2, 1) := by decide +kernel
theorem dX3_pass_12 : decode cX3_pass 12 = .ok (.if_icmp .ge 87, 3) := by decide +kernel
theorem dX3_pass_15 : decode cX3_pass 15 = .ok (.aload_n 1, 1) := by decide +kernel
theorem dX3_pass_16 : decode cX3_pass 16 = .ok (.iload_n 3, 1) := by decide +kernel
theorem dX3_pass_17 : decode cX3_pass 17 = .ok (.aaload, 1) := by decide +kernel
theorem dX3_pass_18 : decode cX3_pass 18 = .ok (.astore 4, 2) := by decide +kernel
theorem dX3_pass_20 : decode cX3_pass 20 = .ok (.aload 4, 2) := by decide +kernel
theorem dX3_pass_22 : decode cX3_pass 22 = .ok (.iconst 3, 1) := by decide +kernel
theorem dX3_pass_23 : decode cX3_pass 23 = .ok (.iaload, 1) := by decide +kernel
theorem dX3_pass_24 : decode cX3_pass 24 = .ok (.ifCond .le 6, 3) := by decide +kernel
theorem dX3_pass_27 : decode cX3_pass 27 = .ok (.goto 66, 3) := by decide +kernel
theorem dX3_pass_30 : decode cX3_pass 30 = .ok (.aload 4, 2) := by decide +kernel
theorem dX3_pass_32 : decode cX3_pass 32 = .ok (.iconst 2, 1) := by decide +kernel
theorem dX3_pass_33 : decode cX3_pass 33 = .ok (.dup2, 1) := by decide +kernel
theorem dX3_pass_34 : decode cX3_pass 34 = .ok (.iaload, 1) := by decide +kernel
theorem dX3_pass_35 : decode cX3_pass 35 = .ok (.aload_n 0, 1) := by decide +kernel
theorem dX3_pass_36 : decode cX3_pass 36 = .ok (.getfield 14, 3) := by decide +kernel
theorem dX3_pass_39 : decode cX3_pass 39 = .ok (.aload 4, 2) := by decide +kernel
theorem dX3_pass_41 : decode cX3_pass 41 = .ok (.iconst 0, 1) := by decide +kernel
theorem dX3_pass_42 : decode cX3_pass 42 = .ok (.iaload, 1) := by decide +kernel
theorem dX3_pass_43 : decode cX3_pass 43 = .ok (.aaload, 1) := by decide +kernel
theorem dX3_pass_44 : decode cX3_pass 44 = .ok (.iconst 1, 1) := by decide +kernel
theorem dX3_pass_45 : decode cX3_pass 45 = .ok (.iaload, 1) := by decide +kernel
theorem dX3_pass_46 : decode cX3_pass 46 = .ok (.aload_n 0, 1) := by decide +kernel
theorem dX3_pass_47 : decode cX3_pass 47 = .ok (.getfield 7, 3) := by decide +kernel
theorem dX3_pass_50 : decode cX3_pass 50 = .ok (.aload 4, 2) := by decide +kernel
theorem dX3_pass_52 : decode cX3_pass 52 = .ok (.iconst 1, 1) := by decide +kernel
theorem dX3_pass_53 : decode cX3_pass 53 = .ok (.iaload, 1) := by decide +kernel
theorem dX3_pass_54 : decode cX3_pass 54 = .ok (.iaload, 1) := by decide +kernel
theorem dX3_pass_55 : decode cX3_pass 55 = .ok (.iadd, 1) := by decide +kernel
theorem dX3_pass_56 : decode cX3_pass 56 = .ok (.isub, 1) := by decide +kernel
theorem dX3_pass_57 : decode cX3_pass 57 = .ok (.iastore, 1) := by decide +kernel
theorem dX3_pass_58 : decode cX3_pass 58 = .ok (.aload 4, 2) := by decide +kernel
theorem dX3_pass_60 : decode cX3_pass 60 = .ok (.iconst 2, 1) := by decide +kernel
theorem dX3_pass_61 : decode cX3_pass 61 = .ok (.iaload, 1) := by decide +kernel
theorem dX3_pass_62 : decode cX3_pass 62 = .ok (.ifCond .le 6, 3) := by decide +kernel
theorem dX3_pass_65 : decode cX3_pass 65 = .ok (.goto 28, 3) := by decide +kernel
theorem dX3_pass_68 : decode cX3_pass 68 = .ok (.aload 4, 2) := by decide +kernel
theorem dX3_pass_70 : decode cX3_pass 70 = .ok (.iconst 2, 1) := by decide +kernel
theorem dX3_pass_71 : decode cX3_pass 71 = .ok (.iconst 0, 1) := by decide +kernel
theorem dX3_pass_72 : decode cX3_pass 72 = .ok (.iastore, 1) := by decide +kernel
theorem dX3_pass_73 : decode cX3_pass 73 = .ok (.aload 4, 2) := by decide +kernel
theorem dX3_pass_75 : decode cX3_pass 75 = .ok (.iconst 3, 1) := by decide +kernel
theorem dX3_pass_76 : decode cX3_pass 76 = .ok (.iconst 2, 1) := by decide +kernel
theorem dX3_pass_77 : decode cX3_pass 77 = .ok (.iastore, 1) := by decide +kernel
theorem dX3_pass_78 : decode cX3_pass 78 = .ok (.aload_n 0, 1) := by decide +kernel
theorem dX3_pass_79 : decode cX3_pass 79 = .ok (.getfield 14, 3) := by decide +kernel
theorem dX3_pass_82 : decode cX3_pass 82 = .ok (.aload 4, 2) := by decide +kernel
theorem dX3_pass_84 : decode cX3_pass 84 = .ok (.iconst 0, 1) := by decide +kernel
theorem dX3_pass_85 : decode cX3_pass 85 = .ok (.iaload, 1) := by decide +kernel
theorem dX3_pass_86 : decode cX3_pass 86 = .ok (.aaload, 1) := by decide +kernel
theorem dX3_pass_87 : decode cX3_pass 87 = .ok (.iconst 2, 1) := by decide +kernel
theorem dX3_pass_88 : decode cX3_pass 88 = .ok (.dup2, 1) := by decide +kernel
theorem dX3_pass_89 : decode cX3_pass 89 = .ok (.iaload, 1) := by decide +kernel
theorem dX3_pass_90 : decode cX3_pass 90 = .ok (.iconst 1, 1) := by decide +kernel
theorem dX3_pass_91 : decode cX3_pass 91 = .ok (.iadd, 1) := by decide +kernel
theorem dX3_pass_92 : decode cX3_pass 92 = .ok (.iastore, 1) := by decide +kernel
theorem dX3_pass_93 : decode cX3_pass 93 = .ok (.iinc 3 1, 3) := by decide +kernel
theorem dX3_pass_96 : decode cX3_pass 96 = .ok (.goto (-86), 3) := by decide +kernel
theorem dX3_pass_99 : decode cX3_pass 99 = .ok (.iconst 0, 1) := by decide +kernel
theorem dX3_pass_100 : decode cX3_pass 100 = .ok (.istore_n 1, 1) := by decide +kernel
theorem dX3_pass_101 : decode cX3_pass 101 = .ok (.iload_n 1, 1) := by decide +kernel
theorem dX3_pass_102 : decode cX3_pass 102 = .ok (.aload_n 0, 1) := by decide +kernel
theorem dX3_pass_103 : decode cX3_pass 103 = .ok (.getfield 14, 3) := by decide +kernel
theorem dX3_pass_106 : decode cX3_pass 106 = .ok (.arraylength, 1) := by decide +kernel
theorem dX3_pass_107 : decode cX3_pass 107 = .ok (.if_icmp .ge 38, 3) := by decide +kernel
theorem dX3_pass_110 : decode cX3_pass 110 = .ok (.aload_n 0, 1) := by decide +kernel
theorem dX3_pass_111 : decode cX3_pass 111 = .ok (.getfield 14, 3) := by decide +kernel
theorem dX3_pass_114 : decode cX3_pass 114 = .ok (.iload_n 1, 1) := by decide +kernel
theorem dX3_pass_115 : decode cX3_pass 115 = .ok (.aaload, 1) := by decide +kernel
theorem dX3_pass_116 : decode cX3_pass 116 = .ok (.iconst 2, 1) := by decide +kernel
theorem dX3_pass_117 : decode cX3_pass 117 = .ok (.iaload, 1) := by decide +kernel
theorem dX3_pass_118 : decode cX3_pass 118 = .ok (.iconst 2, 1) := by decide +kernel
theorem dX3_pass_119 : decode cX3_pass 119 = .ok (.if_icmp .le 20, 3) := by decide +kernel
theorem dX3_pass_122 : decode cX3_pass 122 = .ok (.aload_n 0, 1) := by decide +kernel
theorem dX3_pass_123 : decode cX3_pass 123 = .ok (.getfield 14, 3) := by decide +kernel
theorem dX3_pass_126 : decode cX3_pass 126 = .ok (.iload_n 1, 1) := by decide +kernel
theorem dX3_pass_127 : decode cX3_pass 127 = .ok (.aaload, 1) := by decide +kernel
theorem dX3_pass_128 : decode cX3_pass 128 = .ok (.iconst 3, 1) := by decide +kernel
theorem dX3_pass_129 : decode cX3_pass 129 = .ok (.iaload, 1) := by decide +kernel
theorem dX3_pass_130 : decode cX3_pass 130 = .ok (.ifCond .ne 9, 3) := by decide +kernel
theorem dX3_pass_133 : decode cX3_pass 133 = .ok (.aload_n 0, 1) := by decide +kernel
theorem dX3_pass_134 : decode cX3_pass 134 = .ok (.iload_n 1, 1) := by decide +kernel
theorem dX3_pass_135 : decode cX3_pass 135 = .ok (.invokevirtual 40, 3) := by decide +kernel
theorem dX3_pass_138 : decode cX3_pass 138 = .ok (.pop, 1) := by decide +kernel
theorem dX3_pass_139 : decode cX3_pass 139 = .ok (.iinc 1 1, 3) := by decide +kernel
theorem dX3_pass_142 : decode cX3_pass 142 = .ok (.goto (-41), 3) := by decide +kernel
theorem dX3_pass_145 : decode cX3_pass 145 = .ok (.iconst 0, 1) := by decide +kernel
theorem dX3_pass_146 : decode cX3_pass 146 = .ok (.istore_n 1, 1) := by decide +kernel
theorem dX3_pass_147 : decode cX3_pass 147 = .ok (.iload_n 1, 1) := by decide +kernel
theorem dX3_pass_148 : decode cX3_pass 148 = .ok (.aload_n 0, 1) := by decide +kernel
theorem dX3_pass_149 : decode cX3_pass 149 = .ok (.getfield 26, 3) := by decide +kernel
theorem dX3_pass_152 : decode cX3_pass 152 = .ok (.if_icmp .ge 31, 3) := by decide +kernel
theorem dX3_pass_155 : decode cX3_pass 155 = .ok (.aload_n 0, 1) := by decide +kernel
theorem dX3_pass_156 : decode cX3_pass 156 = .ok (.aload_n 0, 1) := by decide +kernel
theorem dX3_pass_157 : decode cX3_pass 157 = .ok (.getfield 30, 3) := by decide +kernel
theorem dX3_pass_160 : decode cX3_pass 160 = .ok (.invokevirtual 44, 3) := by decide +kernel
theorem dX3_pass_163 : decode cX3_pass 163 = .ok (.istore_n 2, 1) := by decide +kernel
theorem dX3_pass_164 : decode cX3_pass 164 = .ok (.iload_n 2, 1) := by decide +kernel
theorem dX3_pass_165 : decode cX3_pass 165 = .ok (.ifCond .lt 12, 3) := by decide +kernel
theorem dX3_pass_168 : decode cX3_pass 168 = .ok (.aload_n 0, 1) := by decide +kernel
theorem dX3_pass_169 : decode cX3_pass 169 = .ok (.getfield 18, 3) := by decide +kernel
theorem dX3_pass_172 : decode cX3_pass 172 = .ok (.iload_n 2, 1) := by decide +kernel
theorem dX3_pass_173 : decode cX3_pass 173 = .ok (.aaload, 1) := by decide +kernel
theorem dX3_pass_174 : decode cX3_pass 174 = .ok (.iconst 3, 1) := by decide +kernel
theorem dX3_pass_175 : decode cX3_pass 175 = .ok (.iconst 1, 1) := by decide +kernel
theorem dX3_pass_176 : decode cX3_pass 176 = .ok (.iastore, 1) := by decide +kernel
theorem dX3_pass_177 : decode cX3_pass 177 = .ok (.iinc 1 1, 3) := by decide +kernel
theorem dX3_pass_180 : decode cX3_pass 180 = .ok (.goto (-33), 3) := by decide +kernel
theorem dX3_pass_183 : decode cX3_pass 183 = .ok (.aload_n 0, 1) := by decide +kernel
theorem dX3_pass_184 : decode cX3_pass 184 = .ok (.dup, 1) := by decide +kernel
theorem dX3_pass_185 : decode cX3_pass 185 = .ok (.getfield 33, 3) := by decide +kernel
theorem dX3_pass_188 : decode cX3_pass 188 = .ok (.iconst 1, 1) := by decide +kernel
theorem dX3_pass_189 : decode cX3_pass 189 = .ok (.iadd, 1) := by decide +kernel
theorem dX3_pass_190 : decode cX3_pass 190 = .ok (.putfield 33, 3) := by decide +kernel
theorem dX3_pass_193 : decode cX3_pass 193 = .ok (.return_, 1) := by decide +kernel
set_option maxRecDepth 20000 in
theorem ggX3_pass__X3_count : GoodIn wsX3_pass_ wsX3_count := goodIn_r _ [5, 6, 28, 29, 30, 31, 32, 33] (by decide +kernel) (by decide +kernel)
set_option maxRecDepth 20000 in
theorem gX3_pass__X3_count : GoodIn wsX3_pass_ (wsV RX3 47 RX3 yX3_count wsX3_count) := goodIn_app (goodIn_of _ (by decide +kernel)) ggX3_pass__X3_count
set_option maxRecDepth 20000 in
theorem ggX3_pass__X3_pass : GoodIn wsX3_pass_ wsX3_pass := goodIn_r _ [10, 6, 11, 12, 13, 14, 15, 16, 17, 18, 4, 19, 20, 21, 22, 23, 24, 25, 26, 27, 28, 29, 30, 31, 32, 33] (by decide +kernel) (by decide +kernel)
set_option maxRecDepth 20000 in
theorem gX3_pass__X3_pass : GoodIn wsX3_pass_ (wsV RX3 50 RX3 yX3_pass wsX3_pass) := goodIn_app (goodIn_of _ (by decide +kernel)) ggX3_pass__X3_pass
theorem dX3_pass__0 : decode cX3_pass_ 0 = .ok (.aload_n 0, 1) := by decide +kernel
theorem dX3_pass__1 : decode cX3_pass_ 1 = .ok (.iconst 1, 1) := by decide +kernel
theorem dX3_pass__2 : decode cX3_pass_ 2 = .ok (.invokevirtual 47, 3) := by decide +kernel
theorem dX3_pass__5 : decode cX3_pass_ 5 = .ok (.istore_n 2, 1) := by decide +kernel
theorem dX3_pass__6 : decode cX3_pass_ 6 = .ok (.iconst 0, 1) := by decide +kernel
theorem dX3_pass__7 : decode cX3_pass_ 7 = .ok (.istore_n 3, 1) := by decide +kernel
theorem dX3_pass__8 : decode cX3_pass_ 8 = .ok (.iload_n 3, 1) := by decide +kernel
theorem dX3_pass__9 : decode cX3_pass_ 9 = .ok (.iload_n 1, 1) := by decide +kernel
theorem dX3_pass__10 : decode cX3_pass_ 10 = .ok (.if_icmp .ge 13, 3) := by decide +kernel
theorem dX3_pass__13 : decode cX3_pass_ 13 = .ok (.aload_n 0, 1) := by decide +kernel
theorem dX3_pass__14 : decode cX3_pass_ 14 = .ok (.invokevirtual 50, 3) := by decide +kernel
theorem dX3_pass__17 : decode cX3_pass_ 17 = .ok (.iinc 3 1, 3) := by decide +kernel
theorem dX3_pass__20 : decode cX3_pass_ 20 = .ok (.goto (-12), 3) := by decide +kernel
theorem dX3_pass__23 : decode cX3_pass_ 23 = .ok (.aload_n 0, 1) := by decide +kernel
theorem dX3_pass__24 : decode cX3_pass_ 24 = .ok (.iconst 1, 1) := by decide +kernel
theorem dX3_pass__25 : decode cX3_pass_ 25 = .ok (.invokevirtual 47, 3) := by decide +kernel
theorem dX3_pass__28 : decode cX3_pass_ 28 = .ok (.iload_n 2, 1) := by decide +kernel
theorem dX3_pass__29 : decode cX3_pass_ 29 = .ok (.isub, 1) := by decide +kernel
theorem dX3_pass__30 : decode cX3_pass_ 30 = .ok (.ireturn, 1) := by decide +kernel
theorem dX3_days_0 : decode cX3_days 0 = .ok (.aload_n 0, 1) := by decide +kernel
theorem dX3_days_1 : decode cX3_days 1 = .ok (.getfield 14, 3) := by decide +kernel
theorem dX3_days_4 : decode cX3_days 4 = .ok (.aload_n 0, 1) := by decide +kernel
theorem dX3_days_5 : decode cX3_days 5 = .ok (.getfield 18, 3) := by decide +kernel
theorem dX3_days_8 : decode cX3_days 8 = .ok (.iload_n 1, 1) := by decide +kernel
theorem dX3_days_9 : decode cX3_days 9 = .ok (.aaload, 1) := by decide +kernel
theorem dX3_days_10 : decode cX3_days 10 = .ok (.iconst 0, 1) := by decide +kernel
theorem dX3_days_11 : decode cX3_days 11 = .ok (.iaload, 1) := by decide +kernel
theorem dX3_days_12 : decode cX3_days 12 = .ok (.aaload, 1) := by decide +kernel
theorem dX3_days_13 : decode cX3_days 13 = .ok (.iconst 1, 1) := by decide +kernel
theorem dX3_days_14 : decode cX3_days 14 = .ok (.iaload, 1) := by decide +kernel
theorem dX3_days_15 : decode cX3_days 15 = .ok (.aload_n 0, 1) := by decide +kernel
theorem dX3_days_16 : decode cX3_days 16 = .ok (.getfield 7, 3) := by decide +kernel
theorem dX3_days_19 : decode cX3_days 19 = .ok (.iload_n 2, 1) := by decide +kernel
theorem dX3_days_20 : decode cX3_days 20 = .ok (.iaload, 1) := by decide +kernel
theorem dX3_days_21 : decode cX3_days 21 = .ok (.iadd, 1) := by decide +kernel
theorem dX3_days_22 : decode cX3_days 22 = .ok (.istore_n 3, 1) := by decide +kernel
theorem dX3_days_23 : decode cX3_days 23 = .ok (.iconst 0, 1) := by decide +kernel
theorem dX3_days_24 : decode cX3_days 24 = .ok (.istore 4, 2) := by decide +kernel
theorem dX3_days_26 : decode cX3_days 26 = .ok (.aload_n 0, 1) := by decide +kernel
theorem dX3_days_27 : decode cX3_days 27 = .ok (.getfield 18, 3) := by decide +kernel
theorem dX3_days_30 : decode cX3_days 30 = .ok (.iload_n 1, 1) := by decide +kernel
theorem dX3_days_31 : decode cX3_days 31 = .ok (.aaload, 1) := by decide +kernel
theorem dX3_days_32 : decode cX3_days 32 = .ok (.iconst 2, 1) := by decide +kernel
theorem dX3_days_33 : decode cX3_days 33 = .ok (.iaload, 1) := by decide +kernel
theorem dX3_days_34 : decode cX3_days 34 = .ok (.istore 5, 2) := by decide +kernel
theorem dX3_days_36 : decode cX3_days 36 = .ok (.iload 5, 2) := by decide +kernel
theorem dX3_days_38 : decode cX3_days 38 = .ok (.ifCond .le 23, 3) := by decide +kernel
theorem dX3_days_41 : decode cX3_days 41 = .ok (.iload 4, 2) := by decide +kernel
theorem dX3_days_43 : decode cX3_days 43 = .ok (.sipush 999, 3) := by decide +kernel
theorem dX3_days_46 : decode cX3_days 46 = .ok (.if_icmp .ge 15, 3) := by decide +kernel
theorem dX3_days_49 : decode cX3_days 49 = .ok (.iinc 4 1, 3) := by decide +kernel
theorem dX3_days_52 : decode cX3_days 52 = .ok (.iload 5, 2) := by decide +kernel
theorem dX3_days_54 : decode cX3_days 54 = .ok (.iload_n 3, 1) := by decide +kernel
theorem dX3_days_55 : decode cX3_days 55 = .ok (.isub, 1) := by decide +kernel
theorem dX3_days_56 : decode cX3_days 56 = .ok (.istore 5, 2) := by decide +kernel
theorem dX3_days_58 : decode cX3_days 58 = .ok (.goto (-22), 3) := by decide +kernel
theorem dX3_days_61 : decode cX3_days 61 = .ok (.iload 4, 2) := by decide +kernel
theorem dX3_days_63 : decode cX3_days 63 = .ok (.ireturn, 1) := by decide +kernel
set_option maxRecDepth 20000 in
theorem ggX3_isSame_X2_batchOf : GoodIn wsX3_isSame wsX2_batchOf := goodIn_ca (goodIn_r _ [10, 11, 12, 13, 14, 9, 15, 16, 17, 18, 19, 20, 21, 22, 23, 24, 25, 26, 167, 168, 169, 170, 171, 172, 173, 174, 175, 176, 177, 178, 179, 180, 181, 182, 183] (by decide +kernel) (by decide +kernel)) (goodIn_sub (fun _ h => List.mem_cons_of_mem _ (List.mem_append_left _ (List.mem_append_right _ h))) (by decide +kernel))
set_option maxRecDepth 20000 in
theorem gX3_isSame_X2_batchOf : GoodIn wsX3_isSame (wsV RX3 59 RX2 yX2_batchOf wsX2_batchOf) := goodIn_app (goodIn_of _ (by decide +kernel)) ggX3_isSame_X2_batchOf
set_option maxRecDepth 20000 in
theorem ggX3_isSame_X2_shelfOf : GoodIn wsX3_isSame wsX2_shelfOf := goodIn_ca (goodIn_r _ [30, 11, 12, 13, 14, 9, 15, 16, 17, 18, 19, 20, 31, 32, 33, 34, 35, 36, 37, 22, 23, 24, 25, 26, 21, 167, 168, 169, 170, 171, 172, 173, 174, 175, 176, 177, 178, 179, 180, 181, 182, 183] (by decide +kernel) (by decide +kernel)) (goodIn_sub (fun _ h => List.mem_cons_of_mem _ (List.mem_append_left _ (List.mem_append_right _ h))) (by decide +kernel))
set_option maxRecDepth 20000 in
theorem gX3_isSame_X2_shelfOf : GoodIn wsX3_isSame (wsV RX3 64 RX2 yX2_shelfOf wsX2_shelfOf) := goodIn_app (goodIn_of _ (by decide +kernel)) ggX3_isSame_X2_shelfOf
set_option maxRecDepth 20000 in
theorem ggX3_isSame_X2_vacuumOf : GoodIn wsX3_isSame wsX2_vacuumOf := goodIn_ca (goodIn_r _ [41, 11, 12, 13, 14, 9, 15, 16, 17, 18, 19, 20, 21, 22, 23, 24, 25, 26, 167, 168, 169, 170, 171, 172, 173, 174, 175, 176, 177, 178, 179, 180, 181, 182, 183] (by decide +kernel) (by decide +kernel)) (goodIn_sub (fun _ h => List.mem_cons_of_mem _ (List.mem_append_left _ (List.mem_append_right _ h))) (by decide +kernel))
set_option maxRecDepth 20000 in
theorem gX3_isSame_X2_vacuumOf : GoodIn wsX3_isSame (wsV RX3 67 RX2 yX2_vacuumOf wsX2_vacuumOf) := goodIn_app (goodIn_of _ (by decide +kernel)) ggX3_isSame_X2_vacuumOf
set_option maxRecDepth 20000 in
theorem ggX3_isSame_X2_isShipped : GoodIn wsX3_isSame wsX2_isShipped := goodIn_ca (goodIn_r _ [45, 11, 12, 13, 14, 9, 15, 16, 17, 18, 19, 20, 21, 22, 23, 24, 25, 26, 167, 168, 169, 170, 171, 172, 173, 174, 175, 176, 177, 178, 179, 180, 181, 182, 183] (by decide +kernel) (by decide +kernel)) (goodIn_sub (fun _ h => List.mem_cons_of_mem _ (List.mem_append_left _ (List.mem_append_right _ h))) (by decide +kernel))
set_option maxRecDepth 20000 in
theorem gX3_isSame_X2_isShipped : GoodIn wsX3_isSame (wsV RX3 70 RX2 yX2_isShipped wsX2_isShipped) := goodIn_app (goodIn_of _ (by decide +kernel)) ggX3_isSame_X2_isShipped
set_option maxRecDepth 20000 in
theorem ggX3_isSame_X2_isLost : GoodIn wsX3_isSame wsX2_isLost := goodIn_ca (goodIn_r _ [49, 11, 12, 13, 14, 9, 15, 16, 17, 18, 19, 20, 21, 22, 23, 24, 25, 26, 167, 168, 169, 170, 171, 172, 173, 174, 175, 176, 177, 178, 179, 180, 181, 182, 183] (by decide +kernel) (by decide +kernel)) (goodIn_sub (fun _ h => List.mem_cons_of_mem _ (List.mem_append_left _ (List.mem_append_right _ h))) (by decide +kernel))
set_option maxRecDepth 20000 in
theorem gX3_isSame_X2_isLost : GoodIn wsX3_isSame (wsV RX3 74 RX2 yX2_isLost wsX2_isLost) := goodIn_app (goodIn_of _ (by decide +kernel)) ggX3_isSame_X2_isLost
set_option maxRecDepth 20000 in
theorem ggX3_isSame_X2_standOn : GoodIn wsX3_isSame wsX2_standOn := goodIn_ca (goodIn_r _ [53, 11, 54, 55, 9, 56, 16, 17, 18, 19, 20, 57, 58, 59, 34, 60, 61, 62, 32, 33, 35, 36, 37, 22, 23, 24, 25, 26, 167, 168, 169, 170, 171, 172, 173, 174, 175, 176, 177, 178, 179, 180, 181, 182, 183] (by decide +kernel) (by decide +kernel)) (goodIn_sub (fun _ h => List.mem_cons_of_mem _ (List.mem_append_left _ (List.mem_append_right _ h))) (by decide +kernel))
set_option maxRecDepth 20000 in
theorem gX3_isSame_X2_standOn : GoodIn wsX3_isSame (wsV RX3 77 RX2 yX2_standOn wsX2_standOn) := goodIn_app (goodIn_of _ (by decide +kernel)) ggX3_isSame_X2_standOn
set_option maxRecDepth 20000 in
theorem ggX3_isSame_X2_warmOf : GoodIn wsX3_isSame wsX2_warmOf := goodIn_ca (goodIn_r _ [66, 11, 54, 55, 9, 56, 16, 17, 18, 19, 20, 21, 22, 23, 24, 25, 26, 167, 168, 169, 170, 171, 172, 173, 174, 175, 176, 177, 178, 179, 180, 181, 182, 183] (by decide +kernel) (by decide +kernel)) (goodIn_sub (fun _ h => List.mem_cons_of_mem _ (List.mem_append_left _ (List.mem_append_right _ h))) (by decide +kernel))
set_option maxRecDepth 20000 in
theorem gX3_isSame_X2_warmOf : GoodIn wsX3_isSame (wsV RX3 80 RX2 yX2_warmOf wsX2_warmOf) := goodIn_app (goodIn_of _ (by decide +kernel)) ggX3_isSame_X2_warmOf
set_option maxRecDepth 20000 in
theorem ggX3_isSame_X2_swelledOf : GoodIn wsX3_isSame wsX2_swelledOf := goodIn_ca (goodIn_r _ [70, 11, 71, 72, 73, 9, 74, 16, 17, 18, 19, 20, 21, 22, 23, 24, 25, 26, 167, 168, 169, 170, 171, 172, 173, 174, 175, 176, 177, 178, 179, 180, 181, 182, 183] (by decide +kernel) (by decide +kernel)) (goodIn_sub (fun _ h => List.mem_cons_of_mem _ (List.mem_append_left _ (List.mem_append_right _ h))) (by decide +kernel))
set_option maxRecDepth 20000 in
theorem gX3_isSame_X2_swelledOf : GoodIn wsX3_isSame (wsV RX3 83 RX2 yX2_swelledOf wsX2_swelledOf) := goodIn_app (goodIn_of _ (by decide +kernel)) ggX3_isSame_X2_swelledOf
set_option maxRecDepth 20000 in
theorem ggX3_isSame_X2_leftOf : GoodIn wsX3_isSame wsX2_leftOf := goodIn_ca (goodIn_r _ [78, 11, 71, 72, 73, 9, 74, 16, 17, 18, 19, 20, 57, 58, 59, 34, 60, 61, 62, 32, 33, 35, 36, 37, 22, 23, 24, 25, 26, 167, 168, 169, 170, 171, 172, 173, 174, 175, 176, 177, 178, 179, 180, 181, 182, 183] (by decide +kernel) (by decide +kernel)) (goodIn_sub (fun _ h => List.mem_cons_of_mem _ (List.mem_append_left _ (List.mem_append_right _ h))) (by decide +kernel))
set_option maxRecDepth 20000 in
theorem gX3_isSame_X2_leftOf : GoodIn wsX3_isSame (wsV RX3 86 RX2 yX2_leftOf wsX2_leftOf) := goodIn_app (goodIn_of _ (by decide +kernel)) ggX3_isSame_X2_leftOf
set_option maxRecDepth 20000 in
theorem ggX3_isSame_X2_isRecalled : GoodIn wsX3_isSame wsX2_isRecalled := goodIn_ca (goodIn_r _ [82, 11, 71, 72, 73, 9, 74, 16, 17, 18, 19, 20, 83, 84, 85, 34, 86, 87, 37, 22, 23, 24, 25, 26, 167, 168, 169, 170, 171, 172, 173, 174, 175, 176, 177, 178, 179, 180, 181, 182, 183] (by decide +kernel) (by decide +kernel)) (goodIn_sub (fun _ h => List.mem_cons_of_mem _ (List.mem_append_left _ (List.mem_append_right _ h))) (by decide +kernel))
set_option maxRecDepth 20000 in
theorem gX3_isSame_X2_isRecalled : GoodIn wsX3_isSame (wsV RX3 89 RX2 yX2_isRecalled wsX2_isRecalled) := goodIn_app (goodIn_of _ (by decide +kernel)) ggX3_isSame_X2_isRecalled
set_option maxRecDepth 20000 in
theorem ggX3_isSame_X2_first : GoodIn wsX3_isSame wsX2_first := goodIn_ca (goodIn_r _ [91, 11, 92, 93, 9, 94, 95, 96, 18, 19, 20, 97, 98, 99, 34, 100, 61, 62, 32, 33, 35, 36, 37, 22, 23, 24, 25, 26, 101, 102, 103, 104, 105, 106, 107, 167, 168, 169, 170, 171, 172, 173, 174, 175, 176, 177, 178, 179, 180, 181, 182, 183] (by decide +kernel) (by decide +kernel)) (goodIn_sub (fun _ h => List.mem_cons_of_mem _ (List.mem_append_right _ h)) (by decide +kernel))
set_option maxRecDepth 20000 in
theorem gX3_isSame_X2_first : GoodIn wsX3_isSame (wsV RX3 92 RX2 yX2_first wsX2_first) := goodIn_app (goodIn_of _ (by decide +kernel)) ggX3_isSame_X2_first
set_option maxRecDepth 20000 in
theorem ggX3_isSame_X3_first : GoodIn wsX3_isSame wsX3_first := goodIn_r _ [112, 3, 113, 114, 115, 111, 116, 4, 161, 162, 163, 164, 165, 166] (by decide +kernel) (by decide +kernel)
set_option maxRecDepth 20000 in
theorem gX3_isSame_X3_first : GoodIn wsX3_isSame (wsV RX3 44 RX3 yX3_first wsX3_first) := goodIn_app (goodIn_of _ (by decide +kernel)) ggX3_isSame_X3_first
set_option maxRecDepth 20000 in
theorem ggX3_isSame_X3_count : GoodIn wsX3_isSame wsX3_count := goodIn_r _ [120, 3, 161, 162, 163, 164, 165, 166] (by decide +kernel) (by decide +kernel)
set_option maxRecDepth 20000 in
theorem gX3_isSame_X3_count : GoodIn wsX3_isSame (wsV RX3 47 RX3 yX3_count wsX3_count) := goodIn_app (goodIn_of _ (by decide +kernel)) ggX3_isSame_X3_count
set_option maxRecDepth 20000 in
theorem ggX3_isSame_X2_day : GoodIn wsX3_isSame wsX2_day := goodIn_r _ [124, 11, 167, 168, 169, 170, 171, 172, 173, 174, 175, 176, 177, 178, 179, 180, 181, 182] (by decide +kernel) (by decide +kernel)
set_option maxRecDepth 20000 in
theorem gX3_isSame_X2_day : GoodIn wsX3_isSame (wsV RX3 93 RX2 yX2_day wsX2_day) := goodIn_app (goodIn_of _ (by decide +kernel)) ggX3_isSame_X2_day
set_option maxRecDepth 20000 in
theorem ggX3_isSame_X2_batches : GoodIn wsX3_isSame wsX2_batches := goodIn_r _ [128, 11, 167, 168, 169, 170, 171, 172, 173, 174, 175, 176, 177, 178, 179, 180, 181, 182] (by decide +kernel) (by decide +kernel)
set_option maxRecDepth 20000 in
theorem gX3_isSame_X2_batches : GoodIn wsX3_isSame (wsV RX3 96 RX2 yX2_batches wsX2_batches) := goodIn_app (goodIn_of _ (by decide +kernel)) ggX3_isSame_X2_batches
set_option maxRecDepth 20000 in
theorem ggX3_isSame_X2_tins : GoodIn wsX3_isSame wsX2_tins := goodIn_r _ [132, 11, 167, 168, 169, 170, 171, 172, 173, 174, 175, 176, 177, 178, 179, 180, 181, 182] (by decide +kernel) (by decide +kernel)
set_option maxRecDepth 20000 in
theorem gX3_isSame_X2_tins : GoodIn wsX3_isSame (wsV RX3 98 RX2 yX2_tins wsX2_tins) := goodIn_app (goodIn_of _ (by decide +kernel)) ggX3_isSame_X2_tins
set_option maxRecDepth 20000 in
theorem ggX3_isSame_X2_inCellar : GoodIn wsX3_isSame wsX2_inCellar := goodIn_r _ [136, 11, 137, 138, 139, 34, 140, 61, 36, 37, 22, 23, 24, 25, 26, 167, 168, 169, 170, 171, 172, 173, 174, 175, 176, 177, 178, 179, 180, 181, 182, 183] (by decide +kernel) (by decide +kernel)
set_option maxRecDepth 20000 in
theorem gX3_isSame_X2_inCellar : GoodIn wsX3_isSame (wsV RX3 100 RX2 yX2_inCellar wsX2_inCellar) := goodIn_app (goodIn_of _ (by decide +kernel)) ggX3_isSame_X2_inCellar
set_option maxRecDepth 20000 in
theorem ggX3_isSame_X2_shipped : GoodIn wsX3_isSame wsX2_shipped := goodIn_r _ [144, 11, 137, 138, 139, 34, 140, 61, 36, 37, 22, 23, 24, 25, 26, 167, 168, 169, 170, 171, 172, 173, 174, 175, 176, 177, 178, 179, 180, 181, 182, 183] (by decide +kernel) (by decide +kernel)
set_option maxRecDepth 20000 in
theorem gX3_isSame_X2_shipped : GoodIn wsX3_isSame (wsV RX3 103 RX2 yX2_shipped wsX2_shipped) := goodIn_app (goodIn_of _ (by decide +kernel)) ggX3_isSame_X2_shipped
set_option maxRecDepth 20000 in
theorem ggX3_isSame_X2_lost : GoodIn wsX3_isSame wsX2_lost := goodIn_r _ [148, 11, 137, 138, 139, 34, 140, 61, 36, 37, 22, 23, 24, 25, 26, 167, 168, 169, 170, 171, 172, 173, 174, 175, 176, 177, 178, 179, 180, 181, 182, 183] (by decide +kernel) (by decide +kernel)
set_option maxRecDepth 20000 in
theorem gX3_isSame_X2_lost : GoodIn wsX3_isSame (wsV RX3 106 RX2 yX2_lost wsX2_lost) := goodIn_app (goodIn_of _ (by decide +kernel)) ggX3_isSame_X2_lost
set_option maxRecDepth 20000 in
theorem ggX3_isSame_X2_swelled : GoodIn wsX3_isSame wsX2_swelled := goodIn_r _ [152, 11, 21, 22, 23, 24, 25, 26, 167, 168, 169, 170, 171, 172, 173, 174, 175, 176, 177, 178, 179, 180, 181, 182, 183] (by decide +kernel) (by decide +kernel)
set_option maxRecDepth 20000 in
theorem gX3_isSame_X2_swelled : GoodIn wsX3_isSame (wsV RX3 109 RX2 yX2_swelled wsX2_swelled) := goodIn_app (goodIn_of _ (by decide +kernel)) ggX3_isSame_X2_swelled
set_option maxRecDepth 20000 in
theorem ggX3_isSame_X2_meanVacuum : GoodIn wsX3_isSame wsX2_meanVacuum := goodIn_r _ [156, 11, 137, 138, 139, 34, 140, 61, 36, 37, 22, 23, 24, 25, 26, 157, 158, 159, 160, 105, 62, 32, 33, 35, 167, 168, 169, 170, 171, 172, 173, 174, 175, 176, 177, 178, 179, 180, 181, 182, 183] (by decide +kernel) (by decide +kernel)
set_option maxRecDepth 20000 in
theorem gX3_isSame_X2_meanVacuum : GoodIn wsX3_isSame (wsV RX3 112 RX2 yX2_meanVacuum wsX2_meanVacuum) := goodIn_app (goodIn_of _ (by decide +kernel)) ggX3_isSame_X2_meanVacuum
theorem dX3_isSame_0 : decode cX3_isSame 0 = .ok (.iconst 0, 1) := by decide +kernel
theorem dX3_isSame_1 : decode cX3_isSame 1 = .ok (.istore_n 2, 1) := by decide +kernel
theorem dX3_isSame_2 : decode cX3_isSame 2 = .ok (.iconst 0, 1) := by decide +kernel
theorem dX3_isSame_3 : decode cX3_isSame 3 = .ok (.istore_n 3, 1) := by decide +kernel
theorem dX3_isSame_4 : decode cX3_isSame 4 = .ok (.iconst 4, 1) := by decide +kernel
theorem dX3_isSame_5 : decode cX3_isSame 5 = .ok (.newarray .int, 2) := by decide +kernel
theorem dX3_isSame_7 : decode cX3_isSame 7 = .ok (.astore 4, 2) := by decide +kernel
theorem dX3_isSame_9 : decode cX3_isSame 9 = .ok (.aload_n 0, 1) := by decide +kernel
theorem dX3_isSame_10 : decode cX3_isSame 10 = .ok (.getfield 14, 3) := by decide +kernel
theorem dX3_isSame_13 : decode cX3_isSame 13 = .ok (.arraylength, 1) := by decide +kernel
theorem dX3_isSame_14 : decode cX3_isSame 14 = .ok (.newarray .int, 2) := by decide +kernel
theorem dX3_isSame_16 : decode cX3_isSame 16 = .ok (.astore 5, 2) := by decide +kernel
theorem dX3_isSame_18 : decode cX3_isSame 18 = .ok (.iconst 0, 1) := by decide +kernel
theorem dX3_isSame_19 : decode cX3_isSame 19 = .ok (.istore 6, 2) := by decide +kernel
theorem dX3_isSame_21 : decode cX3_isSame 21 = .ok (.iload 6, 2) := by decide +kernel
theorem dX3_isSame_23 : decode cX3_isSame 23 = .ok (.aload_n 0, 1) := by decide +kernel
theorem dX3_isSame_24 : decode cX3_isSame 24 = .ok (.getfield 18, 3) := by decide +kernel
theorem dX3_isSame_27 : decode cX3_isSame 27 = .ok (.arraylength, 1) := by decide +kernel
theorem dX3_isSame_28 : decode cX3_isSame 28 = .ok (.if_icmp .ge 160, 3) := by decide +kernel
theorem dX3_isSame_31 : decode cX3_isSame 31 = .ok (.aload_n 0, 1) := by decide +kernel
theorem dX3_isSame_32 : decode cX3_isSame 32 = .ok (.getfield 18, 3) := by decide +kernel
theorem dX3_isSame_35 : decode cX3_isSame 35 = .ok (.iload 6, 2) := by decide +kernel
theorem dX3_isSame_37 : decode cX3_isSame 37 = .ok (.aaload, 1) := by decide +kernel
theorem dX3_isSame_38 : decode cX3_isSame 38 = .ok (.astore 7, 2) := by decide +kernel
theorem dX3_isSame_40 : decode cX3_isSame 40 = .ok (.aload 7, 2) := by decide +kernel
theorem dX3_isSame_42 : decode cX3_isSame 42 = .ok (.iconst 3, 1) := by decide +kernel
theorem dX3_isSame_43 : decode cX3_isSame 43 = .ok (.iaload, 1) := by decide +kernel
theorem dX3_isSame_44 : decode cX3_isSame 44 = .ok (.ifCond .ne 7, 3) := by decide +kernel
theorem dX3_isSame_47 : decode cX3_isSame 47 = .ok (.iconst 1, 1) := by decide +kernel
theorem dX3_isSame_48 : decode cX3_isSame 48 = .ok (.goto 4, 3) := by decide +kernel
theorem dX3_isSame_51 : decode cX3_isSame 51 = .ok (.iconst 0, 1) := by decide +kernel
theorem dX3_isSame_52 : decode cX3_isSame 52 = .ok (.istore 8, 2) := by decide +kernel
theorem dX3_isSame_54 : decode cX3_isSame 54 = .ok (.iload 8, 2) := by decide +kernel
theorem dX3_isSame_56 : decode cX3_isSame 56 = .ok (.ifCond .eq 32, 3) := by decide +kernel
theorem dX3_isSame_59 : decode cX3_isSame 59 = .ok (.aload 4, 2) := by decide +kernel
theorem dX3_isSame_61 : decode cX3_isSame 61 = .ok (.aload 7, 2) := by decide +kernel
theorem dX3_isSame_63 : decode cX3_isSame 63 = .ok (.iconst 1, 1) := by decide +kernel
theorem dX3_isSame_64 : decode cX3_isSame 64 = .ok (.iaload, 1) := by decide +kernel
theorem dX3_isSame_65 : decode cX3_isSame 65 = .ok (.dup2, 1) := by decide +kernel
theorem dX3_isSame_66 : decode cX3_isSame 66 = .ok (.iaload, 1) := by decide +kernel
theorem dX3_isSame_67 : decode cX3_isSame 67 = .ok (.iconst 1, 1) := by decide +kernel
theorem dX3_isSame_68 : decode cX3_isSame 68 = .ok (.iadd, 1) := by decide +kernel
theorem dX3_isSame_69 : decode cX3_isSame 69 = .ok (.iastore, 1) := by decide +kernel
theorem dX3_isSame_70 : decode cX3_isSame 70 = .ok (.aload 5, 2) := by decide +kernel
theorem dX3_isSame_72 : decode cX3_isSame 72 = .ok (.aload 7, 2) := by decide +kernel
theorem dX3_isSame_74 : decode cX3_isSame 74 = .ok (.iconst 0, 1) := by decide +kernel
theorem dX3_isSame_75 : decode cX3_isSame 75 = .ok (.iaload, 1) := by decide +kernel
theorem dX3_isSame_76 : decode cX3_isSame 76 = .ok (.dup2, 1) := by decide +kernel
theorem dX3_isSame_77 : decode cX3_isSame 77 = .ok (.iaload, 1) := by decide +kernel
theorem dX3_isSame_78 : decode cX3_isSame 78 = .ok (.iconst 1, 1) := by decide +kernel
theorem dX3_isSame_79 : decode cX3_isSame 79 = .ok (.iadd, 1) := by decide +kernel
theorem dX3_isSame_80 : decode cX3_isSame 80 = .ok (.iastore, 1) := by decide +kernel
theorem dX3_isSame_81 : decode cX3_isSame 81 = .ok (.iload_n 3, 1) := by decide +kernel
theorem dX3_isSame_82 : decode cX3_isSame 82 = .ok (.aload 7, 2) := by decide +kernel
theorem dX3_isSame_84 : decode cX3_isSame 84 = .ok (.iconst 2, 1) := by decide +kernel
theorem dX3_isSame_85 : decode cX3_isSame 85 = .ok (.iaload, 1) := by decide +kernel
theorem dX3_isSame_86 : decode cX3_isSame 86 = .ok (.iadd, 1) := by decide +kernel
theorem dX3_isSame_87 : decode cX3_isSame 87 = .ok (.istore_n 3, 1) := by decide +kernel
theorem dX3_isSame_88 : decode cX3_isSame 88 = .ok (.aload_n 1, 1) := by decide +kernel
theorem dX3_isSame_89 : decode cX3_isSame 89 = .ok (.iload 6, 2) := by decide +kernel
theorem dX3_isSame_91 : decode cX3_isSame 91 = .ok (.invokevirtual 59, 3) := by decide +kernel
theorem dX3_isSame_94 : decode cX3_isSame 94 = .ok (.aload 7, 2) := by decide +kernel
theorem dX3_isSame_96 : decode cX3_isSame 96 = .ok (.iconst 0, 1) := by decide +kernel
theorem dX3_isSame_97 : decode cX3_isSame 97 = .ok (.iaload, 1) := by decide +kernel
theorem dX3_isSame_98 : decode cX3_isSame 98 = .ok (.if_icmp .ne 82, 3) := by decide +kernel
theorem dX3_isSame_101 : decode cX3_isSame 101 = .ok (.aload_n 1, 1) := by decide +kernel
theorem dX3_isSame_102 : decode cX3_isSame 102 = .ok (.iload 6, 2) := by decide +kernel
theorem dX3_isSame_104 : decode cX3_isSame 104 = .ok (.invokevirtual 64, 3) := by decide +kernel
theorem dX3_isSame_107 : decode cX3_isSame 107 = .ok (.iload 8, 2) := by decide +kernel
theorem dX3_isSame_109 : decode cX3_isSame 109 = .ok (.ifCond .eq 10, 3) := by decide +kernel
theorem dX3_isSame_112 : decode cX3_isSame 112 = .ok (.aload 7, 2) := by decide +kernel
theorem dX3_isSame_114 : decode cX3_isSame 114 = .ok (.iconst 1, 1) := by decide +kernel
theorem dX3_isSame_115 : decode cX3_isSame 115 = .ok (.iaload, 1) := by decide +kernel
theorem dX3_isSame_116 : decode cX3_isSame 116 = .ok (.goto 4, 3) := by decide +kernel
theorem dX3_isSame_119 : decode cX3_isSame 119 = .ok (.iconst (-1), 1) := by decide +kernel
theorem dX3_isSame_120 : decode cX3_isSame 120 = .ok (.if_icmp .ne 60, 3) := by decide +kernel
theorem dX3_isSame_123 : decode cX3_isSame 123 = .ok (.aload_n 1, 1) := by decide +kernel
theorem dX3_isSame_124 : decode cX3_isSame 124 = .ok (.iload 6, 2) := by decide +kernel
theorem dX3_isSame_126 : decode cX3_isSame 126 = .ok (.invokevirtual 67, 3) := by decide +kernel
theorem dX3_isSame_129 : decode cX3_isSame 129 = .ok (.aload 7, 2) := by decide +kernel
theorem dX3_isSame_131 : decode cX3_isSame 131 = .ok (.iconst 2, 1) := by decide +kernel
theorem dX3_isSame_132 : decode cX3_isSame 132 = .ok (.iaload, 1) := by decide +kernel
theorem dX3_isSame_133 : decode cX3_isSame 133 = .ok (.if_icmp .ne 47, 3) := by decide +kernel
theorem dX3_isSame_136 : decode cX3_isSame 136 = .ok (.aload_n 1, 1) := by decide +kernel
theorem dX3_isSame_137 : decode cX3_isSame 137 = .ok (.iload 6, 2) := by decide +kernel
theorem dX3_isSame_139 : decode cX3_isSame 139 = .ok (.invokevirtual 70, 3) := by decide +kernel
theorem dX3_isSame_142 : decode cX3_isSame 142 = .ok (.aload 7, 2) := by decide +kernel
theorem dX3_isSame_144 : decode cX3_isSame 144 = .ok (.iconst 3, 1) := by decide +kernel
theorem dX3_isSame_145 : decode cX3_isSame 145 = .ok (.iaload, 1) := by decide +kernel
theorem dX3_isSame_146 : decode cX3_isSame 146 = .ok (.iconst 1, 1) := by decide +kernel
theorem dX3_isSame_147 : decode cX3_isSame 147 = .ok (.if_icmp .ne 7, 3) := by decide +kernel
theorem dX3_isSame_150 : decode cX3_isSame 150 = .ok (.iconst 1, 1) := by decide +kernel
theorem dX3_isSame_151 : decode cX3_isSame 151 = .ok (.goto 4, 3) := by decide +kernel
theorem dX3_isSame_154 : decode cX3_isSame 154 = .ok (.iconst 0, 1) := by decide +kernel
theorem dX3_isSame_155 : decode cX3_isSame 155 = .ok (.if_icmp .ne 25, 3) := by decide +kernel
theorem dX3_isSame_158 : decode cX3_isSame 158 = .ok (.aload_n 1, 1) := by decide +kernel
theorem dX3_isSame_159 : decode cX3_isSame 159 = .ok (.iload 6, 2) := by decide +kernel
theorem dX3_isSame_161 : decode cX3_isSame 161 = .ok (.invokevirtual 74, 3) := by decide +kernel
theorem dX3_isSame_164 : decode cX3_isSame 164 = .ok (.aload 7, 2) := by decide +kernel
theorem dX3_isSame_166 : decode cX3_isSame 166 = .ok (.iconst 3, 1) := by decide +kernel
theorem dX3_isSame_167 : decode cX3_isSame 167 = .ok (.iaload, 1) := by decide +kernel
theorem dX3_isSame_168 : decode cX3_isSame 168 = .ok (.iconst 2, 1) := by decide +kernel
theorem dX3_isSame_169 : decode cX3_isSame 169 = .ok (.if_icmp .ne 7, 3) := by decide +kernel
theorem dX3_isSame_172 : decode cX3_isSame 172 = .ok (.iconst 1, 1) := by decide +kernel
theorem dX3_isSame_173 : decode cX3_isSame 173 = .ok (.goto 4, 3) := by decide +kernel
theorem dX3_isSame_176 : decode cX3_isSame 176 = .ok (.iconst 0, 1) := by decide +kernel
theorem dX3_isSame_177 : decode cX3_isSame 177 = .ok (.if_icmp .eq 5, 3) := by decide +kernel
theorem dX3_isSame_180 : decode cX3_isSame 180 = .ok (.iconst 0, 1) := by decide +kernel
theorem dX3_isSame_181 : decode cX3_isSame 181 = .ok (.ireturn, 1) := by decide +kernel
theorem dX3_isSame_182 : decode cX3_isSame 182 = .ok (.iinc 6 1, 3) := by decide +kernel
theorem dX3_isSame_185 : decode cX3_isSame 185 = .ok (.goto (-164), 3) := by decide +kernel
theorem dX3_isSame_188 : decode cX3_isSame 188 = .ok (.iconst 0, 1) := by decide +kernel
theorem dX3_isSame_189 : decode cX3_isSame 189 = .ok (.istore 6, 2) := by decide +kernel
theorem dX3_isSame_191 : decode cX3_isSame 191 = .ok (.iload 6, 2) := by decide +kernel
theorem dX3_isSame_193 : decode cX3_isSame 193 = .ok (.iconst 4, 1) := by decide +kernel
theorem dX3_isSame_194 : decode cX3_isSame 194 = .ok (.if_icmp .ge 41, 3) := by decide +kernel
theorem dX3_isSame_197 : decode cX3_isSame 197 = .ok (.aload_n 1, 1) := by decide +kernel
theorem dX3_isSame_198 : decode cX3_isSame 198 = .ok (.iload 6, 2) := by decide +kernel
theorem dX3_isSame_200 : decode cX3_isSame 200 = .ok (.invokevirtual 77, 3) := by decide +kernel
theorem dX3_isSame_203 : decode cX3_isSame 203 = .ok (.aload 4, 2) := by decide +kernel
theorem dX3_isSame_205 : decode cX3_isSame 205 = .ok (.iload 6, 2) := by decide +kernel
theorem dX3_isSame_207 : decode cX3_isSame 207 = .ok (.iaload, 1) := by decide +kernel
theorem dX3_isSame_208 : decode cX3_isSame 208 = .ok (.if_icmp .ne 19, 3) := by decide +kernel
theorem dX3_isSame_211 : decode cX3_isSame 211 = .ok (.aload_n 1, 1) := by decide +kernel
theorem dX3_isSame_212 : decode cX3_isSame 212 = .ok (.iload 6, 2) := by decide +kernel
theorem dX3_isSame_214 : decode cX3_isSame 214 = .ok (.invokevirtual 80, 3) := by decide +kernel
theorem dX3_isSame_217 : decode cX3_isSame 217 = .ok (.aload_n 0, 1) := by decide +kernel
theorem dX3_isSame_218 : decode cX3_isSame 218 = .ok (.getfield 7, 3) := by decide +kernel
theorem dX3_isSame_221 : decode cX3_isSame 221 = .ok (.iload 6, 2) := by decide +kernel
theorem dX3_isSame_223 : decode cX3_isSame 223 = .ok (.iaload, 1) := by decide +kernel
theorem dX3_isSame_224 : decode cX3_isSame 224 = .ok (.if_icmp .eq 5, 3) := by decide +kernel
theorem dX3_isSame_227 : decode cX3_isSame 227 = .ok (.iconst 0, 1) := by decide +kernel
theorem dX3_isSame_228 : decode cX3_isSame 228 = .ok (.ireturn, 1) := by decide +kernel
theorem dX3_isSame_229 : decode cX3_isSame 229 = .ok (.iinc 6 1, 3) := by decide +kernel
theorem dX3_isSame_232 : decode cX3_isSame 232 = .ok (.goto (-41), 3) := by decide +kernel
theorem dX3_isSame_235 : decode cX3_isSame 235 = .ok (.iconst 0, 1) := by decide +kernel
theorem dX3_isSame_236 : decode cX3_isSame 236 = .ok (.istore 6, 2) := by decide +kernel
theorem dX3_isSame_238 : decode cX3_isSame 238 = .ok (.iload 6, 2) := by decide +kernel
theorem dX3_isSame_240 : decode cX3_isSame 240 = .ok (.aload_n 0, 1) := by decide +kernel
theorem dX3_isSame_241 : decode cX3_isSame 241 = .ok (.getfield 14, 3) := by decide +kernel
theorem dX3_isSame_244 : decode cX3_isSame 244 = .ok (.arraylength, 1) := by decide +kernel
theorem dX3_isSame_245 : decode cX3_isSame 245 = .ok (.if_icmp .ge 82, 3) := by decide +kernel
theorem dX3_isSame_248 : decode cX3_isSame 248 = .ok (.iload_n 2, 1) := by decide +kernel
theorem dX3_isSame_249 : decode cX3_isSame 249 = .ok (.aload_n 0, 1) := by decide +kernel
theorem dX3_isSame_250 : decode cX3_isSame 250 = .ok (.getfield 14, 3) := by decide +kernel
theorem dX3_isSame_253 : decode cX3_isSame 253 = .ok (.iload 6, 2) := by decide +kernel
theorem dX3_isSame_255 : decode cX3_isSame 255 = .ok (.aaload, 1) := by decide +kernel
theorem dX3_isSame_256 : decode cX3_isSame 256 = .ok (.iconst 2, 1) := by decide +kernel
theorem dX3_isSame_257 : decode cX3_isSame 257 = .ok (.iaload, 1) := by decide +kernel
theorem dX3_isSame_258 : decode cX3_isSame 258 = .ok (.iadd, 1) := by decide +kernel
theorem dX3_isSame_259 : decode cX3_isSame 259 = .ok (.istore_n 2, 1) := by decide +kernel
theorem dX3_isSame_260 : decode cX3_isSame 260 = .ok (.aload_n 1, 1) := by decide +kernel
theorem dX3_isSame_261 : decode cX3_isSame 261 = .ok (.iload 6, 2) := by decide +kernel
theorem dX3_isSame_263 : decode cX3_isSame 263 = .ok (.invokevirtual 83, 3) := by decide +kernel
theorem dX3_isSame_266 : decode cX3_isSame 266 = .ok (.aload_n 0, 1) := by decide +kernel
theorem dX3_isSame_267 : decode cX3_isSame 267 = .ok (.getfield 14, 3) := by decide +kernel
theorem dX3_isSame_270 : decode cX3_isSame 270 = .ok (.iload 6, 2) := by decide +kernel
theorem dX3_isSame_272 : decode cX3_isSame 272 = .ok (.aaload, 1) := by decide +kernel
theorem dX3_isSame_273 : decode cX3_isSame 273 = .ok (.iconst 2, 1) := by decide +kernel
theorem dX3_isSame_274 : decode cX3_isSame 274 = .ok (.iaload, 1) := by decide +kernel
theorem dX3_isSame_275 : decode cX3_isSame 275 = .ok (.if_icmp .ne 44, 3) := by decide +kernel
theorem dX3_isSame_278 : decode cX3_isSame 278 = .ok (.aload_n 1, 1) := by decide +kernel
theorem dX3_isSame_279 : decode cX3_isSame 279 = .ok (.iload 6, 2) := by decide +kernel
theorem dX3_isSame_281 : decode cX3_isSame 281 = .ok (.invokevirtual 86, 3) := by decide +kernel
theorem dX3_isSame_284 : decode cX3_isSame 284 = .ok (.aload 5, 2) := by decide +kernel
theorem dX3_isSame_286 : decode cX3_isSame 286 = .ok (.iload 6, 2) := by decide +kernel
theorem dX3_isSame_288 : decode cX3_isSame 288 = .ok (.iaload, 1) := by decide +kernel
theorem dX3_isSame_289 : decode cX3_isSame 289 = .ok (.if_icmp .ne 30, 3) := by decide +kernel
theorem dX3_isSame_292 : decode cX3_isSame 292 = .ok (.aload_n 1, 1) := by decide +kernel
theorem dX3_isSame_293 : decode cX3_isSame 293 = .ok (.iload 6, 2) := by decide +kernel
theorem dX3_isSame_295 : decode cX3_isSame 295 = .ok (.invokevirtual 89, 3) := by decide +kernel
theorem dX3_isSame_298 : decode cX3_isSame 298 = .ok (.aload_n 0, 1) := by decide +kernel
theorem dX3_isSame_299 : decode cX3_isSame 299 = .ok (.getfield 14, 3) := by decide +kernel
theorem dX3_isSame_302 : decode cX3_isSame 302 = .ok (.iload 6, 2) := by decide +kernel
theorem dX3_isSame_304 : decode cX3_isSame 304 = .ok (.aaload, 1) := by decide +kernel
theorem dX3_isSame_305 : decode cX3_isSame 305 = .ok (.iconst 3, 1) := by decide +kernel
theorem dX3_isSame_306 : decode cX3_isSame 306 = .ok (.iaload, 1) := by decide +kernel
theorem dX3_isSame_307 : decode cX3_isSame 307 = .ok (.iconst 1, 1) := by decide +kernel
theorem dX3_isSame_308 : decode cX3_isSame 308 = .ok (.if_icmp .ne 7, 3) := by decide +kernel
theorem dX3_isSame_311 : decode cX3_isSame 311 = .ok (.iconst 1, 1) := by decide +kernel
theorem dX3_isSame_312 : decode cX3_isSame 312 = .ok (.goto 4, 3) := by decide +kernel
theorem dX3_isSame_315 : decode cX3_isSame 315 = .ok (.iconst 0, 1) := by decide +kernel
theorem dX3_isSame_316 : decode cX3_isSame 316 = .ok (.if_icmp .eq 5, 3) := by decide +kernel
theorem dX3_isSame_319 : decode cX3_isSame 319 = .ok (.iconst 0, 1) := by decide +kernel
theorem dX3_isSame_320 : decode cX3_isSame 320 = .ok (.ireturn, 1) := by decide +kernel
theorem dX3_isSame_321 : decode cX3_isSame 321 = .ok (.iinc 6 1, 3) := by decide +kernel
theorem dX3_isSame_324 : decode cX3_isSame 324 = .ok (.goto (-86), 3) := by decide +kernel
theorem dX3_isSame_327 : decode cX3_isSame 327 = .ok (.iconst 0, 1) := by decide +kernel
theorem dX3_isSame_328 : decode cX3_isSame 328 = .ok (.istore 6, 2) := by decide +kernel
theorem dX3_isSame_330 : decode cX3_isSame 330 = .ok (.iload 6, 2) := by decide +kernel
theorem dX3_isSame_332 : decode cX3_isSame 332 = .ok (.iconst 3, 1) := by decide +kernel
theorem dX3_isSame_333 : decode cX3_isSame 333 = .ok (.if_icmp .ge 26, 3) := by decide +kernel
theorem dX3_isSame_336 : decode cX3_isSame 336 = .ok (.aload_n 1, 1) := by decide +kernel
theorem dX3_isSame_337 : decode cX3_isSame 337 = .ok (.iload 6, 2) := by decide +kernel
theorem dX3_isSame_339 : decode cX3_isSame 339 = .ok (.invokevirtual 92, 3) := by decide +kernel
theorem dX3_isSame_342 : decode cX3_isSame 342 = .ok (.aload_n 0, 1) := by decide +kernel
theorem dX3_isSame_343 : decode cX3_isSame 343 = .ok (.iload 6, 2) := by decide +kernel
theorem dX3_isSame_345 : decode cX3_isSame 345 = .ok (.invokevirtual 44, 3) := by decide +kernel
theorem dX3_isSame_348 : decode cX3_isSame 348 = .ok (.if_icmp .eq 5, 3) := by decide +kernel
theorem dX3_isSame_351 : decode cX3_isSame 351 = .ok (.iconst 0, 1) := by decide +kernel
theorem dX3_isSame_352 : decode cX3_isSame 352 = .ok (.ireturn, 1) := by decide +kernel
theorem dX3_isSame_353 : decode cX3_isSame 353 = .ok (.iinc 6 1, 3) := by decide +kernel
theorem dX3_isSame_356 : decode cX3_isSame 356 = .ok (.goto (-26), 3) := by decide +kernel
theorem dX3_isSame_359 : decode cX3_isSame 359 = .ok (.aload_n 0, 1) := by decide +kernel
theorem dX3_isSame_360 : decode cX3_isSame 360 = .ok (.iconst 0, 1) := by decide +kernel
theorem dX3_isSame_361 : decode cX3_isSame 361 = .ok (.invokevirtual 47, 3) := by decide +kernel
theorem dX3_isSame_364 : decode cX3_isSame 364 = .ok (.istore 6, 2) := by decide +kernel
theorem dX3_isSame_366 : decode cX3_isSame 366 = .ok (.aload_n 1, 1) := by decide +kernel
theorem dX3_isSame_367 : decode cX3_isSame 367 = .ok (.invokevirtual 93, 3) := by decide +kernel
theorem dX3_isSame_370 : decode cX3_isSame 370 = .ok (.aload_n 0, 1) := by decide +kernel
theorem dX3_isSame_371 : decode cX3_isSame 371 = .ok (.getfield 33, 3) := by decide +kernel
theorem dX3_isSame_374 : decode cX3_isSame 374 = .ok (.if_icmp .ne 95, 3) := by decide +kernel
theorem dX3_isSame_377 : decode cX3_isSame 377 = .ok (.aload_n 1, 1) := by decide +kernel
theorem dX3_isSame_378 : decode cX3_isSame 378 = .ok (.invokevirtual 96, 3) := by decide +kernel
theorem dX3_isSame_381 : decode cX3_isSame 381 = .ok (.aload_n 0, 1) := by decide +kernel
theorem dX3_isSame_382 : decode cX3_isSame 382 = .ok (.getfield 14, 3) := by decide +kernel
theorem dX3_isSame_385 : decode cX3_isSame 385 = .ok (.arraylength, 1) := by decide +kernel
theorem dX3_isSame_386 : decode cX3_isSame 386 = .ok (.if_icmp .ne 83, 3) := by decide +kernel
theorem dX3_isSame_389 : decode cX3_isSame 389 = .ok (.aload_n 1, 1) := by decide +kernel
theorem dX3_isSame_390 : decode cX3_isSame 390 = .ok (.invokevirtual 98, 3) := by decide +kernel
theorem dX3_isSame_393 : decode cX3_isSame 393 = .ok (.aload_n 0, 1) := by decide +kernel
theorem dX3_isSame_394 : decode cX3_isSame 394 = .ok (.getfield 18, 3) := by decide +kernel
theorem dX3_isSame_397 : decode cX3_isSame 397 = .ok (.arraylength, 1) := by decide +kernel
theorem dX3_isSame_398 : decode cX3_isSame 398 = .ok (.if_icmp .ne 71, 3) := by decide +kernel
theorem dX3_isSame_401 : decode cX3_isSame 401 = .ok (.aload_n 1, 1) := by decide +kernel
theorem dX3_isSame_402 : decode cX3_isSame 402 = .ok (.invokevirtual 100, 3) := by decide +kernel
theorem dX3_isSame_405 : decode cX3_isSame 405 = .ok (.iload 6, 2) := by decide +kernel
theorem dX3_isSame_407 : decode cX3_isSame 407 = .ok (.if_icmp .ne 62, 3) := by decide +kernel
theorem dX3_isSame_410 : decode cX3_isSame 410 = .ok (.aload_n 1, 1) := by decide +kernel
theorem dX3_isSame_411 : decode cX3_isSame 411 = .ok (.invokevirtual 103, 3) := by decide +kernel
theorem dX3_isSame_414 : decode cX3_isSame 414 = .ok (.aload_n 0, 1) := by decide +kernel
theorem dX3_isSame_415 : decode cX3_isSame 415 = .ok (.iconst 1, 1) := by decide +kernel
theorem dX3_isSame_416 : decode cX3_isSame 416 = .ok (.invokevirtual 47, 3) := by decide +kernel
theorem dX3_isSame_419 : decode cX3_isSame 419 = .ok (.if_icmp .ne 50, 3) := by decide +kernel
theorem dX3_isSame_422 : decode cX3_isSame 422 = .ok (.aload_n 1, 1) := by decide +kernel
theorem dX3_isSame_423 : decode cX3_isSame 423 = .ok (.invokevirtual 106, 3) := by decide +kernel
theorem dX3_isSame_426 : decode cX3_isSame 426 = .ok (.aload_n 0, 1) := by decide +kernel
theorem dX3_isSame_427 : decode cX3_isSame 427 = .ok (.iconst 2, 1) := by decide +kernel
theorem dX3_isSame_428 : decode cX3_isSame 428 = .ok (.invokevirtual 47, 3) := by decide +kernel
theorem dX3_isSame_431 : decode cX3_isSame 431 = .ok (.if_icmp .ne 38, 3) := by decide +kernel
theorem dX3_isSame_434 : decode cX3_isSame 434 = .ok (.aload_n 1, 1) := by decide +kernel
theorem dX3_isSame_435 : decode cX3_isSame 435 = .ok (.invokevirtual 109, 3) := by decide +kernel
theorem dX3_isSame_438 : decode cX3_isSame 438 = .ok (.iload_n 2, 1) := by decide +kernel
theorem dX3_isSame_439 : decode cX3_isSame 439 = .ok (.if_icmp .ne 30, 3) := by decide +kernel
theorem dX3_isSame_442 : decode cX3_isSame 442 = .ok (.aload_n 1, 1) := by decide +kernel
theorem dX3_isSame_443 : decode cX3_isSame 443 = .ok (.invokevirtual 112, 3) := by decide +kernel
theorem dX3_isSame_446 : decode cX3_isSame 446 = .ok (.iload 6, 2) := by decide +kernel
theorem dX3_isSame_448 : decode cX3_isSame 448 = .ok (.ifCond .ne 7, 3) := by decide +kernel
theorem dX3_isSame_451 : decode cX3_isSame 451 = .ok (.dconst 0, 1) := by decide +kernel
theorem dX3_isSame_452 : decode cX3_isSame 452 = .ok (.goto 9, 3) := by decide +kernel
theorem dX3_isSame_455 : decode cX3_isSame 455 = .ok (.iload_n 3, 1) := by decide +kernel
theorem dX3_isSame_456 : decode cX3_isSame 456 = .ok (.i2d, 1) := by decide +kernel
theorem dX3_isSame_457 : decode cX3_isSame 457 = .ok (.iload 6, 2) := by decide +kernel
theorem dX3_isSame_459 : decode cX3_isSame 459 = .ok (.i2d, 1) := by decide +kernel
theorem dX3_isSame_460 : decode cX3_isSame 460 = .ok (.ddiv, 1) := by decide +kernel
theorem dX3_isSame_461 : decode cX3_isSame 461 = .ok (.dcmp .l, 1) := by decide +kernel
theorem dX3_isSame_462 : decode cX3_isSame 462 = .ok (.ifCond .ne 7, 3) := by decide +kernel
theorem dX3_isSame_465 : decode cX3_isSame 465 = .ok (.iconst 1, 1) := by decide +kernel
theorem dX3_isSame_466 : decode cX3_isSame 466 = .ok (.goto 4, 3) := by decide +kernel
theorem dX3_isSame_469 : decode cX3_isSame 469 = .ok (.iconst 0, 1) := by decide +kernel
theorem dX3_isSame_470 : decode cX3_isSame 470 = .ok (.ireturn, 1) := by decide +kernel
theorem dJ9_max_7cf53_0 : decode cJ9_max_7cf53 0 = .ok (.iload_n 0, 1) := by decide +kernel
theorem dJ9_max_7cf53_1 : decode cJ9_max_7cf53 1 = .ok (.iload_n 1, 1) := by decide +kernel
theorem dJ9_max_7cf53_2 : decode cJ9_max_7cf53 2 = .ok (.if_icmp .lt 7, 3) := by decide +kernel
theorem dJ9_max_7cf53_5 : decode cJ9_max_7cf53 5 = .ok (.iload_n 0, 1) := by decide +kernel
theorem dJ9_max_7cf53_6 : decode cJ9_max_7cf53 6 = .ok (.goto 4, 3) := by decide +kernel
theorem dJ9_max_7cf53_9 : decode cJ9_max_7cf53 9 = .ok (.iload_n 1, 1) := by decide +kernel
theorem dJ9_max_7cf53_10 : decode cJ9_max_7cf53 10 = .ok (.ireturn, 1) := by decide +kernel
