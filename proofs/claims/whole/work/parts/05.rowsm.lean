theorem dX3_init_0 : decode cX3_init 0 = .ok (.aload_n 0, 1) := by decide +kernel
theorem dX3_init_1 : decode cX3_init 1 = .ok (.invokespecial 3, 3) := by decide +kernel
theorem dX3_init_4 : decode cX3_init 4 = .ok (.aload_n 0, 1) := by decide +kernel
theorem dX3_init_5 : decode cX3_init 5 = .ok (.bipush 6, 2) := by decide +kernel
theorem dX3_init_7 : decode cX3_init 7 = .ok (.newarray .int, 2) := by decide +kernel
theorem dX3_init_9 : decode cX3_init 9 = .ok (.putfield 9, 3) := by decide +kernel
theorem dX3_init_12 : decode cX3_init 12 = .ok (.aload_n 0, 1) := by decide +kernel
theorem dX3_init_13 : decode cX3_init 13 = .ok (.bipush 6, 2) := by decide +kernel
theorem dX3_init_15 : decode cX3_init 15 = .ok (.newarray .int, 2) := by decide +kernel
theorem dX3_init_17 : decode cX3_init 17 = .ok (.putfield 13, 3) := by decide +kernel
theorem dX3_init_20 : decode cX3_init 20 = .ok (.aload_n 0, 1) := by decide +kernel
theorem dX3_init_21 : decode cX3_init 21 = .ok (.iconst 4, 1) := by decide +kernel
theorem dX3_init_22 : decode cX3_init 22 = .ok (.newarray .int, 2) := by decide +kernel
theorem dX3_init_24 : decode cX3_init 24 = .ok (.putfield 16, 3) := by decide +kernel
theorem dX3_init_27 : decode cX3_init 27 = .ok (.aload_n 0, 1) := by decide +kernel
theorem dX3_init_28 : decode cX3_init 28 = .ok (.bipush 60, 2) := by decide +kernel
theorem dX3_init_30 : decode cX3_init 30 = .ok (.newarray .int, 2) := by decide +kernel
theorem dX3_init_32 : decode cX3_init 32 = .ok (.putfield 19, 3) := by decide +kernel
theorem dX3_init_35 : decode cX3_init 35 = .ok (.aload_n 0, 1) := by decide +kernel
theorem dX3_init_36 : decode cX3_init 36 = .ok (.bipush 60, 2) := by decide +kernel
theorem dX3_init_38 : decode cX3_init 38 = .ok (.newarray .int, 2) := by decide +kernel
theorem dX3_init_40 : decode cX3_init 40 = .ok (.putfield 22, 3) := by decide +kernel
theorem dX3_init_43 : decode cX3_init 43 = .ok (.aload_n 0, 1) := by decide +kernel
theorem dX3_init_44 : decode cX3_init 44 = .ok (.sipush 133, 3) := by decide +kernel
theorem dX3_init_47 : decode cX3_init 47 = .ok (.newarray .int, 2) := by decide +kernel
theorem dX3_init_49 : decode cX3_init 49 = .ok (.putfield 25, 3) := by decide +kernel
theorem dX3_init_52 : decode cX3_init 52 = .ok (.aload_n 0, 1) := by decide +kernel
theorem dX3_init_53 : decode cX3_init 53 = .ok (.sipush 133, 3) := by decide +kernel
theorem dX3_init_56 : decode cX3_init 56 = .ok (.newarray .int, 2) := by decide +kernel
theorem dX3_init_58 : decode cX3_init 58 = .ok (.putfield 28, 3) := by decide +kernel
theorem dX3_init_61 : decode cX3_init 61 = .ok (.return_, 1) := by decide +kernel
theorem dX3_thrown_0 : decode cX3_thrown 0 = .ok (.aload_n 0, 1) := by decide +kernel
theorem dX3_thrown_1 : decode cX3_thrown 1 = .ok (.getfield 31, 3) := by decide +kernel
theorem dX3_thrown_4 : decode cX3_thrown 4 = .ok (.ireturn, 1) := by decide +kernel
theorem dX3_no_0 : decode cX3_no 0 = .ok (.aload_n 0, 1) := by decide +kernel
theorem dX3_no_1 : decode cX3_no 1 = .ok (.iload_n 1, 1) := by decide +kernel
theorem dX3_no_2 : decode cX3_no 2 = .ok (.putfield 31, 3) := by decide +kernel
theorem dX3_no_5 : decode cX3_no 5 = .ok (.iconst 0, 1) := by decide +kernel
theorem dX3_no_6 : decode cX3_no 6 = .ok (.ireturn, 1) := by decide +kernel
theorem dX3_isNot_0 : decode cX3_isNot 0 = .ok (.aload_n 0, 1) := by decide +kernel
theorem dX3_isNot_1 : decode cX3_isNot 1 = .ok (.iload_n 1, 1) := by decide +kernel
theorem dX3_isNot_2 : decode cX3_isNot 2 = .ok (.putfield 31, 3) := by decide +kernel
theorem dX3_isNot_5 : decode cX3_isNot 5 = .ok (.iconst 0, 1) := by decide +kernel
theorem dX3_isNot_6 : decode cX3_isNot 6 = .ok (.ireturn, 1) := by decide +kernel
theorem dX3_ok_0 : decode cX3_ok 0 = .ok (.aload_n 0, 1) := by decide +kernel
theorem dX3_ok_1 : decode cX3_ok 1 = .ok (.iconst 0, 1) := by decide +kernel
theorem dX3_ok_2 : decode cX3_ok 2 = .ok (.putfield 31, 3) := by decide +kernel
theorem dX3_ok_5 : decode cX3_ok 5 = .ok (.iload_n 1, 1) := by decide +kernel
theorem dX3_ok_6 : decode cX3_ok 6 = .ok (.ireturn, 1) := by decide +kernel
theorem dX3_isIn_0 : decode cX3_isIn 0 = .ok (.iload_n 0, 1) := by decide +kernel
theorem dX3_isIn_1 : decode cX3_isIn 1 = .ok (.iload_n 1, 1) := by decide +kernel
theorem dX3_isIn_2 : decode cX3_isIn 2 = .ok (.if_icmp .lt 12, 3) := by decide +kernel
theorem dX3_isIn_5 : decode cX3_isIn 5 = .ok (.iload_n 0, 1) := by decide +kernel
theorem dX3_isIn_6 : decode cX3_isIn 6 = .ok (.iload_n 2, 1) := by decide +kernel
theorem dX3_isIn_7 : decode cX3_isIn 7 = .ok (.if_icmp .gt 7, 3) := by decide +kernel
theorem dX3_isIn_10 : decode cX3_isIn 10 = .ok (.iconst 1, 1) := by decide +kernel
theorem dX3_isIn_11 : decode cX3_isIn 11 = .ok (.goto 4, 3) := by decide +kernel
theorem dX3_isIn_14 : decode cX3_isIn 14 = .ok (.iconst 0, 1) := by decide +kernel
theorem dX3_isIn_15 : decode cX3_isIn 15 = .ok (.ireturn, 1) := by decide +kernel
set_option maxRecDepth 20000 in
theorem ggX3_isShelf_X3_isIn : GoodIn wsX3_isShelf wsX3_isIn := goodIn_r _ [4] (by decide +kernel) (by decide +kernel)
set_option maxRecDepth 20000 in
theorem gX3_isShelf_X3_isIn : GoodIn wsX3_isShelf (va_wsS RX3 35 yX3_isIn wsX3_isIn) := goodIn_app (goodIn_of _ (by decide +kernel)) ggX3_isShelf_X3_isIn
theorem dX3_isShelf_0 : decode cX3_isShelf 0 = .ok (.iload_n 0, 1) := by decide +kernel
theorem dX3_isShelf_1 : decode cX3_isShelf 1 = .ok (.iconst 0, 1) := by decide +kernel
theorem dX3_isShelf_2 : decode cX3_isShelf 2 = .ok (.iconst 3, 1) := by decide +kernel
theorem dX3_isShelf_3 : decode cX3_isShelf 3 = .ok (.invokestatic 35, 3) := by decide +kernel
theorem dX3_isShelf_6 : decode cX3_isShelf 6 = .ok (.ireturn, 1) := by decide +kernel
set_option maxRecDepth 20000 in
theorem ggX3_isOrder_X3_isIn : GoodIn wsX3_isOrder wsX3_isIn := goodIn_r _ [4] (by decide +kernel) (by decide +kernel)
set_option maxRecDepth 20000 in
theorem gX3_isOrder_X3_isIn : GoodIn wsX3_isOrder (va_wsS RX3 35 yX3_isIn wsX3_isIn) := goodIn_app (goodIn_of _ (by decide +kernel)) ggX3_isOrder_X3_isIn
theorem dX3_isOrder_0 : decode cX3_isOrder 0 = .ok (.iload_n 0, 1) := by decide +kernel
theorem dX3_isOrder_1 : decode cX3_isOrder 1 = .ok (.iconst 0, 1) := by decide +kernel
theorem dX3_isOrder_2 : decode cX3_isOrder 2 = .ok (.iconst 2, 1) := by decide +kernel
theorem dX3_isOrder_3 : decode cX3_isOrder 3 = .ok (.invokestatic 35, 3) := by decide +kernel
theorem dX3_isOrder_6 : decode cX3_isOrder 6 = .ok (.ireturn, 1) := by decide +kernel
set_option maxRecDepth 20000 in
theorem ggX3_isBatch_X3_isIn : GoodIn wsX3_isBatch wsX3_isIn := goodIn_r _ [5] (by decide +kernel) (by decide +kernel)
set_option maxRecDepth 20000 in
theorem gX3_isBatch_X3_isIn : GoodIn wsX3_isBatch (va_wsS RX3 35 yX3_isIn wsX3_isIn) := goodIn_app (goodIn_of _ (by decide +kernel)) ggX3_isBatch_X3_isIn
theorem dX3_isBatch_0 : decode cX3_isBatch 0 = .ok (.iload_n 1, 1) := by decide +kernel
theorem dX3_isBatch_1 : decode cX3_isBatch 1 = .ok (.iconst 0, 1) := by decide +kernel
theorem dX3_isBatch_2 : decode cX3_isBatch 2 = .ok (.aload_n 0, 1) := by decide +kernel
theorem dX3_isBatch_3 : decode cX3_isBatch 3 = .ok (.getfield 39, 3) := by decide +kernel
theorem dX3_isBatch_6 : decode cX3_isBatch 6 = .ok (.iconst 1, 1) := by decide +kernel
theorem dX3_isBatch_7 : decode cX3_isBatch 7 = .ok (.isub, 1) := by decide +kernel
theorem dX3_isBatch_8 : decode cX3_isBatch 8 = .ok (.invokestatic 35, 3) := by decide +kernel
theorem dX3_isBatch_11 : decode cX3_isBatch 11 = .ok (.ireturn, 1) := by decide +kernel
set_option maxRecDepth 20000 in
theorem ggX3_isTin_X3_isIn : GoodIn wsX3_isTin wsX3_isIn := goodIn_r _ [5] (by decide +kernel) (by decide +kernel)
set_option maxRecDepth 20000 in
theorem gX3_isTin_X3_isIn : GoodIn wsX3_isTin (va_wsS RX3 35 yX3_isIn wsX3_isIn) := goodIn_app (goodIn_of _ (by decide +kernel)) ggX3_isTin_X3_isIn
theorem dX3_isTin_0 : decode cX3_isTin 0 = .ok (.iload_n 1, 1) := by decide +kernel
theorem dX3_isTin_1 : decode cX3_isTin 1 = .ok (.iconst 0, 1) := by decide +kernel
theorem dX3_isTin_2 : decode cX3_isTin 2 = .ok (.aload_n 0, 1) := by decide +kernel
theorem dX3_isTin_3 : decode cX3_isTin 3 = .ok (.getfield 42, 3) := by decide +kernel
theorem dX3_isTin_6 : decode cX3_isTin 6 = .ok (.iconst 1, 1) := by decide +kernel
theorem dX3_isTin_7 : decode cX3_isTin 7 = .ok (.isub, 1) := by decide +kernel
theorem dX3_isTin_8 : decode cX3_isTin 8 = .ok (.invokestatic 35, 3) := by decide +kernel
theorem dX3_isTin_11 : decode cX3_isTin 11 = .ok (.ireturn, 1) := by decide +kernel
theorem dX3_keep_0 : decode cX3_keep 0 = .ok (.aload_n 0, 1) := by decide +kernel
theorem dX3_keep_1 : decode cX3_keep 1 = .ok (.getfield 25, 3) := by decide +kernel
theorem dX3_keep_4 : decode cX3_keep 4 = .ok (.iconst 0, 1) := by decide +kernel
theorem dX3_keep_5 : decode cX3_keep 5 = .ok (.aload_n 0, 1) := by decide +kernel
theorem dX3_keep_6 : decode cX3_keep 6 = .ok (.getfield 28, 3) := by decide +kernel
theorem dX3_keep_9 : decode cX3_keep 9 = .ok (.iconst 0, 1) := by decide +kernel
theorem dX3_keep_10 : decode cX3_keep 10 = .ok (.sipush 133, 3) := by decide +kernel
theorem dX3_keep_13 : decode cX3_keep 13 = .ok (.invokestatic 45, 3) := by decide +kernel
theorem dX3_keep_16 : decode cX3_keep 16 = .ok (.return_, 1) := by decide +kernel
theorem dX3_bringBack_0 : decode cX3_bringBack 0 = .ok (.aload_n 0, 1) := by decide +kernel
theorem dX3_bringBack_1 : decode cX3_bringBack 1 = .ok (.getfield 28, 3) := by decide +kernel
theorem dX3_bringBack_4 : decode cX3_bringBack 4 = .ok (.iconst 0, 1) := by decide +kernel
theorem dX3_bringBack_5 : decode cX3_bringBack 5 = .ok (.aload_n 0, 1) := by decide +kernel
theorem dX3_bringBack_6 : decode cX3_bringBack 6 = .ok (.getfield 25, 3) := by decide +kernel
theorem dX3_bringBack_9 : decode cX3_bringBack 9 = .ok (.iconst 0, 1) := by decide +kernel
theorem dX3_bringBack_10 : decode cX3_bringBack 10 = .ok (.sipush 133, 3) := by decide +kernel
theorem dX3_bringBack_13 : decode cX3_bringBack 13 = .ok (.invokestatic 45, 3) := by decide +kernel
theorem dX3_bringBack_16 : decode cX3_bringBack 16 = .ok (.return_, 1) := by decide +kernel
theorem dX3_isHere_0 : decode cX3_isHere 0 = .ok (.aload_n 0, 1) := by decide +kernel
theorem dX3_isHere_1 : decode cX3_isHere 1 = .ok (.getfield 25, 3) := by decide +kernel
theorem dX3_isHere_4 : decode cX3_isHere 4 = .ok (.bipush 13, 2) := by decide +kernel
theorem dX3_isHere_6 : decode cX3_isHere 6 = .ok (.iload_n 1, 1) := by decide +kernel
theorem dX3_isHere_7 : decode cX3_isHere 7 = .ok (.iadd, 1) := by decide +kernel
theorem dX3_isHere_8 : decode cX3_isHere 8 = .ok (.iaload, 1) := by decide +kernel
theorem dX3_isHere_9 : decode cX3_isHere 9 = .ok (.ifCond .ne 7, 3) := by decide +kernel
theorem dX3_isHere_12 : decode cX3_isHere 12 = .ok (.iconst 1, 1) := by decide +kernel
theorem dX3_isHere_13 : decode cX3_isHere 13 = .ok (.goto 4, 3) := by decide +kernel
theorem dX3_isHere_16 : decode cX3_isHere 16 = .ok (.iconst 0, 1) := by decide +kernel
theorem dX3_isHere_17 : decode cX3_isHere 17 = .ok (.ireturn, 1) := by decide +kernel
theorem dX3_rate_0 : decode cX3_rate 0 = .ok (.aload_n 0, 1) := by decide +kernel
theorem dX3_rate_1 : decode cX3_rate 1 = .ok (.getfield 13, 3) := by decide +kernel
theorem dX3_rate_4 : decode cX3_rate 4 = .ok (.aload_n 0, 1) := by decide +kernel
theorem dX3_rate_5 : decode cX3_rate 5 = .ok (.getfield 19, 3) := by decide +kernel
theorem dX3_rate_8 : decode cX3_rate 8 = .ok (.iload_n 1, 1) := by decide +kernel
theorem dX3_rate_9 : decode cX3_rate 9 = .ok (.iaload, 1) := by decide +kernel
theorem dX3_rate_10 : decode cX3_rate 10 = .ok (.iaload, 1) := by decide +kernel
theorem dX3_rate_11 : decode cX3_rate 11 = .ok (.aload_n 0, 1) := by decide +kernel
theorem dX3_rate_12 : decode cX3_rate 12 = .ok (.getfield 16, 3) := by decide +kernel
theorem dX3_rate_15 : decode cX3_rate 15 = .ok (.iload_n 2, 1) := by decide +kernel
theorem dX3_rate_16 : decode cX3_rate 16 = .ok (.iaload, 1) := by decide +kernel
theorem dX3_rate_17 : decode cX3_rate 17 = .ok (.iadd, 1) := by decide +kernel
theorem dX3_rate_18 : decode cX3_rate 18 = .ok (.ireturn, 1) := by decide +kernel
theorem dX3_key_0 : decode cX3_key 0 = .ok (.iload_n 2, 1) := by decide +kernel
theorem dX3_key_1 : decode cX3_key 1 = .ok (.ifCond .ne 7, 3) := by decide +kernel
theorem dX3_key_4 : decode cX3_key 4 = .ok (.iload_n 1, 1) := by decide +kernel
theorem dX3_key_5 : decode cX3_key 5 = .ok (.goto 43, 3) := by decide +kernel
theorem dX3_key_8 : decode cX3_key 8 = .ok (.iload_n 2, 1) := by decide +kernel
theorem dX3_key_9 : decode cX3_key 9 = .ok (.iconst 1, 1) := by decide +kernel
theorem dX3_key_10 : decode cX3_key 10 = .ok (.if_icmp .ne 20, 3) := by decide +kernel
theorem dX3_key_13 : decode cX3_key 13 = .ok (.bipush 60, 2) := by decide +kernel
theorem dX3_key_15 : decode cX3_key 15 = .ok (.aload_n 0, 1) := by decide +kernel
theorem dX3_key_16 : decode cX3_key 16 = .ok (.getfield 25, 3) := by decide +kernel
theorem dX3_key_19 : decode cX3_key 19 = .ok (.bipush 73, 2) := by decide +kernel
theorem dX3_key_21 : decode cX3_key 21 = .ok (.iload_n 1, 1) := by decide +kernel
theorem dX3_key_22 : decode cX3_key 22 = .ok (.iadd, 1) := by decide +kernel
theorem dX3_key_23 : decode cX3_key 23 = .ok (.iaload, 1) := by decide +kernel
theorem dX3_key_24 : decode cX3_key 24 = .ok (.imul, 1) := by decide +kernel
theorem dX3_key_25 : decode cX3_key 25 = .ok (.iload_n 1, 1) := by decide +kernel
theorem dX3_key_26 : decode cX3_key 26 = .ok (.iadd, 1) := by decide +kernel
theorem dX3_key_27 : decode cX3_key 27 = .ok (.goto 21, 3) := by decide +kernel
theorem dX3_key_30 : decode cX3_key 30 = .ok (.bipush 60, 2) := by decide +kernel
theorem dX3_key_32 : decode cX3_key 32 = .ok (.iconst 3, 1) := by decide +kernel
theorem dX3_key_33 : decode cX3_key 33 = .ok (.aload_n 0, 1) := by decide +kernel
theorem dX3_key_34 : decode cX3_key 34 = .ok (.getfield 16, 3) := by decide +kernel
theorem dX3_key_37 : decode cX3_key 37 = .ok (.aload_n 0, 1) := by decide +kernel
theorem dX3_key_38 : decode cX3_key 38 = .ok (.getfield 22, 3) := by decide +kernel
theorem dX3_key_41 : decode cX3_key 41 = .ok (.iload_n 1, 1) := by decide +kernel
theorem dX3_key_42 : decode cX3_key 42 = .ok (.iaload, 1) := by decide +kernel
theorem dX3_key_43 : decode cX3_key 43 = .ok (.iaload, 1) := by decide +kernel
theorem dX3_key_44 : decode cX3_key 44 = .ok (.isub, 1) := by decide +kernel
theorem dX3_key_45 : decode cX3_key 45 = .ok (.imul, 1) := by decide +kernel
theorem dX3_key_46 : decode cX3_key 46 = .ok (.iload_n 1, 1) := by decide +kernel
theorem dX3_key_47 : decode cX3_key 47 = .ok (.iadd, 1) := by decide +kernel
theorem dX3_key_48 : decode cX3_key 48 = .ok (.ireturn, 1) := by decide +kernel
set_option maxRecDepth 20000 in
theorem ggX3_firstBy_X3_isHere : GoodIn wsX3_firstBy wsX3_isHere := goodIn_r _ [6, 7, 14, 15, 16, 17, 18, 19, 20, 21, 22, 23, 24, 25] (by decide +kernel) (by decide +kernel)
set_option maxRecDepth 20000 in
theorem gX3_firstBy_X3_isHere : GoodIn wsX3_firstBy (wsV RX3 51 RX3 yX3_isHere wsX3_isHere) := goodIn_app (goodIn_of _ (by decide +kernel)) ggX3_firstBy_X3_isHere
set_option maxRecDepth 20000 in
theorem ggX3_firstBy_X3_key : GoodIn wsX3_firstBy wsX3_key := goodIn_r _ [11, 7, 12, 13, 14, 15, 16, 17, 18, 19, 20, 21, 22, 23, 24, 25] (by decide +kernel) (by decide +kernel)
set_option maxRecDepth 20000 in
theorem gX3_firstBy_X3_key : GoodIn wsX3_firstBy (wsV RX3 55 RX3 yX3_key wsX3_key) := goodIn_app (goodIn_of _ (by decide +kernel)) ggX3_firstBy_X3_key
theorem dX3_firstBy_0 : decode cX3_firstBy 0 = .ok (.iconst (-1), 1) := by decide +kernel
theorem dX3_firstBy_1 : decode cX3_firstBy 1 = .ok (.istore_n 2, 1) := by decide +kernel
theorem dX3_firstBy_2 : decode cX3_firstBy 2 = .ok (.iconst 0, 1) := by decide +kernel
theorem dX3_firstBy_3 : decode cX3_firstBy 3 = .ok (.istore_n 3, 1) := by decide +kernel
theorem dX3_firstBy_4 : decode cX3_firstBy 4 = .ok (.iload_n 3, 1) := by decide +kernel
theorem dX3_firstBy_5 : decode cX3_firstBy 5 = .ok (.aload_n 0, 1) := by decide +kernel
theorem dX3_firstBy_6 : decode cX3_firstBy 6 = .ok (.getfield 42, 3) := by decide +kernel
theorem dX3_firstBy_9 : decode cX3_firstBy 9 = .ok (.if_icmp .ge 39, 3) := by decide +kernel
theorem dX3_firstBy_12 : decode cX3_firstBy 12 = .ok (.aload_n 0, 1) := by decide +kernel
theorem dX3_firstBy_13 : decode cX3_firstBy 13 = .ok (.iload_n 3, 1) := by decide +kernel
theorem dX3_firstBy_14 : decode cX3_firstBy 14 = .ok (.invokevirtual 51, 3) := by decide +kernel
theorem dX3_firstBy_17 : decode cX3_firstBy 17 = .ok (.ifCond .eq 25, 3) := by decide +kernel
theorem dX3_firstBy_20 : decode cX3_firstBy 20 = .ok (.iload_n 2, 1) := by decide +kernel
theorem dX3_firstBy_21 : decode cX3_firstBy 21 = .ok (.iconst (-1), 1) := by decide +kernel
theorem dX3_firstBy_22 : decode cX3_firstBy 22 = .ok (.if_icmp .eq 18, 3) := by decide +kernel
theorem dX3_firstBy_25 : decode cX3_firstBy 25 = .ok (.aload_n 0, 1) := by decide +kernel
theorem dX3_firstBy_26 : decode cX3_firstBy 26 = .ok (.iload_n 3, 1) := by decide +kernel
theorem dX3_firstBy_27 : decode cX3_firstBy 27 = .ok (.iload_n 1, 1) := by decide +kernel
theorem dX3_firstBy_28 : decode cX3_firstBy 28 = .ok (.invokevirtual 55, 3) := by decide +kernel
theorem dX3_firstBy_31 : decode cX3_firstBy 31 = .ok (.aload_n 0, 1) := by decide +kernel
theorem dX3_firstBy_32 : decode cX3_firstBy 32 = .ok (.iload_n 2, 1) := by decide +kernel
theorem dX3_firstBy_33 : decode cX3_firstBy 33 = .ok (.iload_n 1, 1) := by decide +kernel
theorem dX3_firstBy_34 : decode cX3_firstBy 34 = .ok (.invokevirtual 55, 3) := by decide +kernel
theorem dX3_firstBy_37 : decode cX3_firstBy 37 = .ok (.if_icmp .ge 5, 3) := by decide +kernel
theorem dX3_firstBy_40 : decode cX3_firstBy 40 = .ok (.iload_n 3, 1) := by decide +kernel
theorem dX3_firstBy_41 : decode cX3_firstBy 41 = .ok (.istore_n 2, 1) := by decide +kernel
theorem dX3_firstBy_42 : decode cX3_firstBy 42 = .ok (.iinc 3 1, 3) := by decide +kernel
theorem dX3_firstBy_45 : decode cX3_firstBy 45 = .ok (.goto (-41), 3) := by decide +kernel
theorem dX3_firstBy_48 : decode cX3_firstBy 48 = .ok (.iload_n 2, 1) := by decide +kernel
theorem dX3_firstBy_49 : decode cX3_firstBy 49 = .ok (.ireturn, 1) := by decide +kernel
set_option maxRecDepth 20000 in
theorem ggX3_leak_X3_rate : GoodIn wsX3_leak wsX3_rate := goodIn_r _ [12, 13, 7, 14, 15, 16, 17, 18, 19, 20, 21, 22, 23, 24, 25, 26] (by decide +kernel) (by decide +kernel)
set_option maxRecDepth 20000 in
theorem gX3_leak_X3_rate : GoodIn wsX3_leak (wsV RX3 59 RX3 yX3_rate wsX3_rate) := goodIn_app (goodIn_of _ (by decide +kernel)) ggX3_leak_X3_rate
theorem dX3_leak_0 : decode cX3_leak 0 = .ok (.aload_n 0, 1) := by decide +kernel
theorem dX3_leak_1 : decode cX3_leak 1 = .ok (.getfield 25, 3) := by decide +kernel
theorem dX3_leak_4 : decode cX3_leak 4 = .ok (.bipush 73, 2) := by decide +kernel
theorem dX3_leak_6 : decode cX3_leak 6 = .ok (.iload_n 1, 1) := by decide +kernel
theorem dX3_leak_7 : decode cX3_leak 7 = .ok (.iadd, 1) := by decide +kernel
theorem dX3_leak_8 : decode cX3_leak 8 = .ok (.iconst 0, 1) := by decide +kernel
theorem dX3_leak_9 : decode cX3_leak 9 = .ok (.aload_n 0, 1) := by decide +kernel
theorem dX3_leak_10 : decode cX3_leak 10 = .ok (.getfield 25, 3) := by decide +kernel
theorem dX3_leak_13 : decode cX3_leak 13 = .ok (.bipush 73, 2) := by decide +kernel
theorem dX3_leak_15 : decode cX3_leak 15 = .ok (.iload_n 1, 1) := by decide +kernel
theorem dX3_leak_16 : decode cX3_leak 16 = .ok (.iadd, 1) := by decide +kernel
theorem dX3_leak_17 : decode cX3_leak 17 = .ok (.iaload, 1) := by decide +kernel
theorem dX3_leak_18 : decode cX3_leak 18 = .ok (.aload_n 0, 1) := by decide +kernel
theorem dX3_leak_19 : decode cX3_leak 19 = .ok (.iload_n 1, 1) := by decide +kernel
theorem dX3_leak_20 : decode cX3_leak 20 = .ok (.aload_n 0, 1) := by decide +kernel
theorem dX3_leak_21 : decode cX3_leak 21 = .ok (.getfield 22, 3) := by decide +kernel
theorem dX3_leak_24 : decode cX3_leak 24 = .ok (.iload_n 1, 1) := by decide +kernel
theorem dX3_leak_25 : decode cX3_leak 25 = .ok (.iaload, 1) := by decide +kernel
theorem dX3_leak_26 : decode cX3_leak 26 = .ok (.invokevirtual 59, 3) := by decide +kernel
theorem dX3_leak_29 : decode cX3_leak 29 = .ok (.isub, 1) := by decide +kernel
theorem dX3_leak_30 : decode cX3_leak 30 = .ok (.invokestatic 62, 3) := by decide +kernel
theorem dX3_leak_33 : decode cX3_leak 33 = .ok (.iastore, 1) := by decide +kernel
theorem dX3_leak_34 : decode cX3_leak 34 = .ok (.aload_n 0, 1) := by decide +kernel
theorem dX3_leak_35 : decode cX3_leak 35 = .ok (.getfield 25, 3) := by decide +kernel
theorem dX3_leak_38 : decode cX3_leak 38 = .ok (.bipush 73, 2) := by decide +kernel
theorem dX3_leak_40 : decode cX3_leak 40 = .ok (.iload_n 1, 1) := by decide +kernel
theorem dX3_leak_41 : decode cX3_leak 41 = .ok (.iadd, 1) := by decide +kernel
theorem dX3_leak_42 : decode cX3_leak 42 = .ok (.iaload, 1) := by decide +kernel
theorem dX3_leak_43 : decode cX3_leak 43 = .ok (.ifCond .le 4, 3) := by decide +kernel
theorem dX3_leak_46 : decode cX3_leak 46 = .ok (.return_, 1) := by decide +kernel
theorem dX3_leak_47 : decode cX3_leak 47 = .ok (.aload_n 0, 1) := by decide +kernel
theorem dX3_leak_48 : decode cX3_leak 48 = .ok (.getfield 25, 3) := by decide +kernel
theorem dX3_leak_51 : decode cX3_leak 51 = .ok (.bipush 13, 2) := by decide +kernel
theorem dX3_leak_53 : decode cX3_leak 53 = .ok (.iload_n 1, 1) := by decide +kernel
theorem dX3_leak_54 : decode cX3_leak 54 = .ok (.iadd, 1) := by decide +kernel
theorem dX3_leak_55 : decode cX3_leak 55 = .ok (.iconst 2, 1) := by decide +kernel
theorem dX3_leak_56 : decode cX3_leak 56 = .ok (.iastore, 1) := by decide +kernel
theorem dX3_leak_57 : decode cX3_leak 57 = .ok (.aload_n 0, 1) := by decide +kernel
theorem dX3_leak_58 : decode cX3_leak 58 = .ok (.getfield 25, 3) := by decide +kernel
theorem dX3_leak_61 : decode cX3_leak 61 = .ok (.iconst 1, 1) := by decide +kernel
theorem dX3_leak_62 : decode cX3_leak 62 = .ok (.aload_n 0, 1) := by decide +kernel
theorem dX3_leak_63 : decode cX3_leak 63 = .ok (.getfield 19, 3) := by decide +kernel
theorem dX3_leak_66 : decode cX3_leak 66 = .ok (.iload_n 1, 1) := by decide +kernel
theorem dX3_leak_67 : decode cX3_leak 67 = .ok (.iaload, 1) := by decide +kernel
theorem dX3_leak_68 : decode cX3_leak 68 = .ok (.iadd, 1) := by decide +kernel
theorem dX3_leak_69 : decode cX3_leak 69 = .ok (.dup2, 1) := by decide +kernel
theorem dX3_leak_70 : decode cX3_leak 70 = .ok (.iaload, 1) := by decide +kernel
theorem dX3_leak_71 : decode cX3_leak 71 = .ok (.iconst 1, 1) := by decide +kernel
theorem dX3_leak_72 : decode cX3_leak 72 = .ok (.iadd, 1) := by decide +kernel
theorem dX3_leak_73 : decode cX3_leak 73 = .ok (.iastore, 1) := by decide +kernel
theorem dX3_leak_74 : decode cX3_leak 74 = .ok (.return_, 1) := by decide +kernel
set_option maxRecDepth 20000 in
theorem ggX3_takeBack_X3_isHere : GoodIn wsX3_takeBack wsX3_isHere := goodIn_r _ [8, 1, 9, 10, 11, 12, 13, 14, 15, 16, 17, 18, 19, 20] (by decide +kernel) (by decide +kernel)
set_option maxRecDepth 20000 in
theorem gX3_takeBack_X3_isHere : GoodIn wsX3_takeBack (wsV RX3 51 RX3 yX3_isHere wsX3_isHere) := goodIn_app (goodIn_of _ (by decide +kernel)) ggX3_takeBack_X3_isHere
theorem dX3_takeBack_0 : decode cX3_takeBack 0 = .ok (.aload_n 0, 1) := by decide +kernel
theorem dX3_takeBack_1 : decode cX3_takeBack 1 = .ok (.getfield 25, 3) := by decide +kernel
theorem dX3_takeBack_4 : decode cX3_takeBack 4 = .ok (.bipush 7, 2) := by decide +kernel
theorem dX3_takeBack_6 : decode cX3_takeBack 6 = .ok (.iload_n 1, 1) := by decide +kernel
theorem dX3_takeBack_7 : decode cX3_takeBack 7 = .ok (.iadd, 1) := by decide +kernel
theorem dX3_takeBack_8 : decode cX3_takeBack 8 = .ok (.iconst 1, 1) := by decide +kernel
theorem dX3_takeBack_9 : decode cX3_takeBack 9 = .ok (.iastore, 1) := by decide +kernel
theorem dX3_takeBack_10 : decode cX3_takeBack 10 = .ok (.iconst 0, 1) := by decide +kernel
theorem dX3_takeBack_11 : decode cX3_takeBack 11 = .ok (.istore_n 2, 1) := by decide +kernel
theorem dX3_takeBack_12 : decode cX3_takeBack 12 = .ok (.iconst 0, 1) := by decide +kernel
theorem dX3_takeBack_13 : decode cX3_takeBack 13 = .ok (.istore_n 3, 1) := by decide +kernel
theorem dX3_takeBack_14 : decode cX3_takeBack 14 = .ok (.iload_n 3, 1) := by decide +kernel
theorem dX3_takeBack_15 : decode cX3_takeBack 15 = .ok (.aload_n 0, 1) := by decide +kernel
theorem dX3_takeBack_16 : decode cX3_takeBack 16 = .ok (.getfield 42, 3) := by decide +kernel
theorem dX3_takeBack_19 : decode cX3_takeBack 19 = .ok (.if_icmp .ge 43, 3) := by decide +kernel
theorem dX3_takeBack_22 : decode cX3_takeBack 22 = .ok (.aload_n 0, 1) := by decide +kernel
theorem dX3_takeBack_23 : decode cX3_takeBack 23 = .ok (.iload_n 3, 1) := by decide +kernel
theorem dX3_takeBack_24 : decode cX3_takeBack 24 = .ok (.invokevirtual 51, 3) := by decide +kernel
theorem dX3_takeBack_27 : decode cX3_takeBack 27 = .ok (.ifCond .eq 29, 3) := by decide +kernel
theorem dX3_takeBack_30 : decode cX3_takeBack 30 = .ok (.aload_n 0, 1) := by decide +kernel
theorem dX3_takeBack_31 : decode cX3_takeBack 31 = .ok (.getfield 19, 3) := by decide +kernel
theorem dX3_takeBack_34 : decode cX3_takeBack 34 = .ok (.iload_n 3, 1) := by decide +kernel
theorem dX3_takeBack_35 : decode cX3_takeBack 35 = .ok (.iaload, 1) := by decide +kernel
theorem dX3_takeBack_36 : decode cX3_takeBack 36 = .ok (.iload_n 1, 1) := by decide +kernel
theorem dX3_takeBack_37 : decode cX3_takeBack 37 = .ok (.if_icmp .eq 6, 3) := by decide +kernel
theorem dX3_takeBack_40 : decode cX3_takeBack 40 = .ok (.goto 16, 3) := by decide +kernel
theorem dX3_takeBack_43 : decode cX3_takeBack 43 = .ok (.aload_n 0, 1) := by decide +kernel
theorem dX3_takeBack_44 : decode cX3_takeBack 44 = .ok (.getfield 25, 3) := by decide +kernel
theorem dX3_takeBack_47 : decode cX3_takeBack 47 = .ok (.bipush 13, 2) := by decide +kernel
theorem dX3_takeBack_49 : decode cX3_takeBack 49 = .ok (.iload_n 3, 1) := by decide +kernel
theorem dX3_takeBack_50 : decode cX3_takeBack 50 = .ok (.iadd, 1) := by decide +kernel
theorem dX3_takeBack_51 : decode cX3_takeBack 51 = .ok (.iconst 2, 1) := by decide +kernel
theorem dX3_takeBack_52 : decode cX3_takeBack 52 = .ok (.iastore, 1) := by decide +kernel
theorem dX3_takeBack_53 : decode cX3_takeBack 53 = .ok (.iinc 2 1, 3) := by decide +kernel
theorem dX3_takeBack_56 : decode cX3_takeBack 56 = .ok (.iinc 3 1, 3) := by decide +kernel
theorem dX3_takeBack_59 : decode cX3_takeBack 59 = .ok (.goto (-45), 3) := by decide +kernel
theorem dX3_takeBack_62 : decode cX3_takeBack 62 = .ok (.iload_n 2, 1) := by decide +kernel
theorem dX3_takeBack_63 : decode cX3_takeBack 63 = .ok (.ireturn, 1) := by decide +kernel
set_option maxRecDepth 20000 in
theorem ggX3_dayOn_X3_isHere : GoodIn wsX3_dayOn wsX3_isHere := goodIn_r _ [10, 3, 39, 40, 41, 42, 43, 44, 45, 46, 47, 48, 49, 50] (by decide +kernel) (by decide +kernel)
set_option maxRecDepth 20000 in
theorem gX3_dayOn_X3_isHere : GoodIn wsX3_dayOn (wsV RX3 51 RX3 yX3_isHere wsX3_isHere) := goodIn_app (goodIn_of _ (by decide +kernel)) ggX3_dayOn_X3_isHere
set_option maxRecDepth 20000 in
theorem ggX3_dayOn_X3_leak : GoodIn wsX3_dayOn wsX3_leak := goodIn_r _ [14, 3, 15, 16, 17, 18, 19, 20, 21, 22, 23, 9, 24, 25, 26, 39, 40, 41, 42, 43, 44, 45, 46, 47, 48, 49, 50] (by decide +kernel) (by decide +kernel)
set_option maxRecDepth 20000 in
theorem gX3_dayOn_X3_leak : GoodIn wsX3_dayOn (wsV RX3 67 RX3 yX3_leak wsX3_leak) := goodIn_app (goodIn_of _ (by decide +kernel)) ggX3_dayOn_X3_leak
set_option maxRecDepth 20000 in
theorem ggX3_dayOn_X3_takeBack : GoodIn wsX3_dayOn wsX3_takeBack := goodIn_r _ [30, 3, 1, 20, 6, 7, 8, 9, 10, 39, 40, 41, 42, 43, 44, 45, 46, 47, 48, 49, 50] (by decide +kernel) (by decide +kernel)
set_option maxRecDepth 20000 in
theorem gX3_dayOn_X3_takeBack : GoodIn wsX3_dayOn (wsV RX3 71 RX3 yX3_takeBack wsX3_takeBack) := goodIn_app (goodIn_of _ (by decide +kernel)) ggX3_dayOn_X3_takeBack
set_option maxRecDepth 20000 in
theorem ggX3_dayOn_X3_firstBy : GoodIn wsX3_dayOn wsX3_firstBy := goodIn_r _ [34, 1, 6, 7, 8, 9, 10, 3, 35, 36, 37, 38, 26, 15, 39, 40, 41, 42, 43, 44, 45, 46, 47, 48, 49, 50] (by decide +kernel) (by decide +kernel)
set_option maxRecDepth 20000 in
theorem gX3_dayOn_X3_firstBy : GoodIn wsX3_dayOn (wsV RX3 81 RX3 yX3_firstBy wsX3_firstBy) := goodIn_app (goodIn_of _ (by decide +kernel)) ggX3_dayOn_X3_firstBy
theorem dX3_dayOn_0 : decode cX3_dayOn 0 = .ok (.iconst 0, 1) := by decide +kernel
theorem dX3_dayOn_1 : decode cX3_dayOn 1 = .ok (.istore_n 1, 1) := by decide +kernel
theorem dX3_dayOn_2 : decode cX3_dayOn 2 = .ok (.iload_n 1, 1) := by decide +kernel
theorem dX3_dayOn_3 : decode cX3_dayOn 3 = .ok (.aload_n 0, 1) := by decide +kernel
theorem dX3_dayOn_4 : decode cX3_dayOn 4 = .ok (.getfield 42, 3) := by decide +kernel
theorem dX3_dayOn_7 : decode cX3_dayOn 7 = .ok (.if_icmp .ge 22, 3) := by decide +kernel
theorem dX3_dayOn_10 : decode cX3_dayOn 10 = .ok (.aload_n 0, 1) := by decide +kernel
theorem dX3_dayOn_11 : decode cX3_dayOn 11 = .ok (.iload_n 1, 1) := by decide +kernel
theorem dX3_dayOn_12 : decode cX3_dayOn 12 = .ok (.invokevirtual 51, 3) := by decide +kernel
theorem dX3_dayOn_15 : decode cX3_dayOn 15 = .ok (.ifCond .eq 8, 3) := by decide +kernel
theorem dX3_dayOn_18 : decode cX3_dayOn 18 = .ok (.aload_n 0, 1) := by decide +kernel
theorem dX3_dayOn_19 : decode cX3_dayOn 19 = .ok (.iload_n 1, 1) := by decide +kernel
theorem dX3_dayOn_20 : decode cX3_dayOn 20 = .ok (.invokevirtual 67, 3) := by decide +kernel
theorem dX3_dayOn_23 : decode cX3_dayOn 23 = .ok (.iinc 1 1, 3) := by decide +kernel
theorem dX3_dayOn_26 : decode cX3_dayOn 26 = .ok (.goto (-24), 3) := by decide +kernel
theorem dX3_dayOn_29 : decode cX3_dayOn 29 = .ok (.iconst 0, 1) := by decide +kernel
theorem dX3_dayOn_30 : decode cX3_dayOn 30 = .ok (.istore_n 1, 1) := by decide +kernel
theorem dX3_dayOn_31 : decode cX3_dayOn 31 = .ok (.iload_n 1, 1) := by decide +kernel
theorem dX3_dayOn_32 : decode cX3_dayOn 32 = .ok (.aload_n 0, 1) := by decide +kernel
theorem dX3_dayOn_33 : decode cX3_dayOn 33 = .ok (.getfield 39, 3) := by decide +kernel
theorem dX3_dayOn_36 : decode cX3_dayOn 36 = .ok (.if_icmp .ge 39, 3) := by decide +kernel
theorem dX3_dayOn_39 : decode cX3_dayOn 39 = .ok (.aload_n 0, 1) := by decide +kernel
theorem dX3_dayOn_40 : decode cX3_dayOn 40 = .ok (.getfield 25, 3) := by decide +kernel
theorem dX3_dayOn_43 : decode cX3_dayOn 43 = .ok (.bipush 7, 2) := by decide +kernel
theorem dX3_dayOn_45 : decode cX3_dayOn 45 = .ok (.iload_n 1, 1) := by decide +kernel
theorem dX3_dayOn_46 : decode cX3_dayOn 46 = .ok (.iadd, 1) := by decide +kernel
theorem dX3_dayOn_47 : decode cX3_dayOn 47 = .ok (.iaload, 1) := by decide +kernel
theorem dX3_dayOn_48 : decode cX3_dayOn 48 = .ok (.ifCond .ne 21, 3) := by decide +kernel
theorem dX3_dayOn_51 : decode cX3_dayOn 51 = .ok (.aload_n 0, 1) := by decide +kernel
theorem dX3_dayOn_52 : decode cX3_dayOn 52 = .ok (.getfield 25, 3) := by decide +kernel
theorem dX3_dayOn_55 : decode cX3_dayOn 55 = .ok (.iconst 1, 1) := by decide +kernel
theorem dX3_dayOn_56 : decode cX3_dayOn 56 = .ok (.iload_n 1, 1) := by decide +kernel
theorem dX3_dayOn_57 : decode cX3_dayOn 57 = .ok (.iadd, 1) := by decide +kernel
theorem dX3_dayOn_58 : decode cX3_dayOn 58 = .ok (.iaload, 1) := by decide +kernel
theorem dX3_dayOn_59 : decode cX3_dayOn 59 = .ok (.iconst 3, 1) := by decide +kernel
theorem dX3_dayOn_60 : decode cX3_dayOn 60 = .ok (.if_icmp .lt 9, 3) := by decide +kernel
theorem dX3_dayOn_63 : decode cX3_dayOn 63 = .ok (.aload_n 0, 1) := by decide +kernel
theorem dX3_dayOn_64 : decode cX3_dayOn 64 = .ok (.iload_n 1, 1) := by decide +kernel
theorem dX3_dayOn_65 : decode cX3_dayOn 65 = .ok (.invokevirtual 71, 3) := by decide +kernel
theorem dX3_dayOn_68 : decode cX3_dayOn 68 = .ok (.pop, 1) := by decide +kernel
theorem dX3_dayOn_69 : decode cX3_dayOn 69 = .ok (.iinc 1 1, 3) := by decide +kernel
theorem dX3_dayOn_72 : decode cX3_dayOn 72 = .ok (.goto (-41), 3) := by decide +kernel
theorem dX3_dayOn_75 : decode cX3_dayOn 75 = .ok (.iconst 0, 1) := by decide +kernel
theorem dX3_dayOn_76 : decode cX3_dayOn 76 = .ok (.istore_n 1, 1) := by decide +kernel
theorem dX3_dayOn_77 : decode cX3_dayOn 77 = .ok (.iload_n 1, 1) := by decide +kernel
theorem dX3_dayOn_78 : decode cX3_dayOn 78 = .ok (.aload_n 0, 1) := by decide +kernel
theorem dX3_dayOn_79 : decode cX3_dayOn 79 = .ok (.getfield 75, 3) := by decide +kernel
theorem dX3_dayOn_82 : decode cX3_dayOn 82 = .ok (.if_icmp .ge 33, 3) := by decide +kernel
theorem dX3_dayOn_85 : decode cX3_dayOn 85 = .ok (.aload_n 0, 1) := by decide +kernel
theorem dX3_dayOn_86 : decode cX3_dayOn 86 = .ok (.aload_n 0, 1) := by decide +kernel
theorem dX3_dayOn_87 : decode cX3_dayOn 87 = .ok (.getfield 78, 3) := by decide +kernel
theorem dX3_dayOn_90 : decode cX3_dayOn 90 = .ok (.invokevirtual 81, 3) := by decide +kernel
theorem dX3_dayOn_93 : decode cX3_dayOn 93 = .ok (.istore_n 2, 1) := by decide +kernel
theorem dX3_dayOn_94 : decode cX3_dayOn 94 = .ok (.iload_n 2, 1) := by decide +kernel
theorem dX3_dayOn_95 : decode cX3_dayOn 95 = .ok (.iconst (-1), 1) := by decide +kernel
theorem dX3_dayOn_96 : decode cX3_dayOn 96 = .ok (.if_icmp .eq 13, 3) := by decide +kernel
theorem dX3_dayOn_99 : decode cX3_dayOn 99 = .ok (.aload_n 0, 1) := by decide +kernel
theorem dX3_dayOn_100 : decode cX3_dayOn 100 = .ok (.getfield 25, 3) := by decide +kernel
theorem dX3_dayOn_103 : decode cX3_dayOn 103 = .ok (.bipush 13, 2) := by decide +kernel
theorem dX3_dayOn_105 : decode cX3_dayOn 105 = .ok (.iload_n 2, 1) := by decide +kernel
theorem dX3_dayOn_106 : decode cX3_dayOn 106 = .ok (.iadd, 1) := by decide +kernel
theorem dX3_dayOn_107 : decode cX3_dayOn 107 = .ok (.iconst 1, 1) := by decide +kernel
theorem dX3_dayOn_108 : decode cX3_dayOn 108 = .ok (.iastore, 1) := by decide +kernel
theorem dX3_dayOn_109 : decode cX3_dayOn 109 = .ok (.iinc 1 1, 3) := by decide +kernel
theorem dX3_dayOn_112 : decode cX3_dayOn 112 = .ok (.goto (-35), 3) := by decide +kernel
theorem dX3_dayOn_115 : decode cX3_dayOn 115 = .ok (.aload_n 0, 1) := by decide +kernel
theorem dX3_dayOn_116 : decode cX3_dayOn 116 = .ok (.getfield 25, 3) := by decide +kernel
theorem dX3_dayOn_119 : decode cX3_dayOn 119 = .ok (.iconst 0, 1) := by decide +kernel
theorem dX3_dayOn_120 : decode cX3_dayOn 120 = .ok (.dup2, 1) := by decide +kernel
theorem dX3_dayOn_121 : decode cX3_dayOn 121 = .ok (.iaload, 1) := by decide +kernel
theorem dX3_dayOn_122 : decode cX3_dayOn 122 = .ok (.iconst 1, 1) := by decide +kernel
theorem dX3_dayOn_123 : decode cX3_dayOn 123 = .ok (.iadd, 1) := by decide +kernel
theorem dX3_dayOn_124 : decode cX3_dayOn 124 = .ok (.iastore, 1) := by decide +kernel
theorem dX3_dayOn_125 : decode cX3_dayOn 125 = .ok (.return_, 1) := by decide +kernel
set_option maxRecDepth 20000 in
theorem ggX3_daysOn_X3_dayOn : GoodIn wsX3_daysOn wsX3_dayOn := goodIn_r _ [5, 6, 7, 8, 9, 10, 11, 12, 13, 4, 14, 15, 16, 17, 18, 19, 20, 21, 22, 23, 24, 25, 26, 27, 28, 29, 30, 31, 32, 33, 34, 35, 36, 37, 38, 39, 40, 41, 42, 43, 44, 45, 46, 47, 48, 49, 50, 51, 52, 53, 54] (by decide +kernel) (by decide +kernel)
set_option maxRecDepth 20000 in
theorem gX3_daysOn_X3_dayOn : GoodIn wsX3_daysOn (wsV RX3 84 RX3 yX3_dayOn wsX3_dayOn) := goodIn_app (goodIn_of _ (by decide +kernel)) ggX3_daysOn_X3_dayOn
theorem dX3_daysOn_0 : decode cX3_daysOn 0 = .ok (.iconst 0, 1) := by decide +kernel
theorem dX3_daysOn_1 : decode cX3_daysOn 1 = .ok (.istore_n 2, 1) := by decide +kernel
theorem dX3_daysOn_2 : decode cX3_daysOn 2 = .ok (.iload_n 2, 1) := by decide +kernel
theorem dX3_daysOn_3 : decode cX3_daysOn 3 = .ok (.iload_n 1, 1) := by decide +kernel
theorem dX3_daysOn_4 : decode cX3_daysOn 4 = .ok (.if_icmp .ge 13, 3) := by decide +kernel
theorem dX3_daysOn_7 : decode cX3_daysOn 7 = .ok (.aload_n 0, 1) := by decide +kernel
theorem dX3_daysOn_8 : decode cX3_daysOn 8 = .ok (.invokevirtual 84, 3) := by decide +kernel
theorem dX3_daysOn_11 : decode cX3_daysOn 11 = .ok (.iinc 2 1, 3) := by decide +kernel
theorem dX3_daysOn_14 : decode cX3_daysOn 14 = .ok (.goto (-12), 3) := by decide +kernel
theorem dX3_daysOn_17 : decode cX3_daysOn 17 = .ok (.return_, 1) := by decide +kernel
theorem dX3_count_0 : decode cX3_count 0 = .ok (.iconst 0, 1) := by decide +kernel
theorem dX3_count_1 : decode cX3_count 1 = .ok (.istore_n 2, 1) := by decide +kernel
theorem dX3_count_2 : decode cX3_count 2 = .ok (.iconst 0, 1) := by decide +kernel
theorem dX3_count_3 : decode cX3_count 3 = .ok (.istore_n 3, 1) := by decide +kernel
theorem dX3_count_4 : decode cX3_count 4 = .ok (.iload_n 3, 1) := by decide +kernel
theorem dX3_count_5 : decode cX3_count 5 = .ok (.aload_n 0, 1) := by decide +kernel
theorem dX3_count_6 : decode cX3_count 6 = .ok (.getfield 42, 3) := by decide +kernel
theorem dX3_count_9 : decode cX3_count 9 = .ok (.if_icmp .ge 30, 3) := by decide +kernel
theorem dX3_count_12 : decode cX3_count 12 = .ok (.iload_n 2, 1) := by decide +kernel
theorem dX3_count_13 : decode cX3_count 13 = .ok (.aload_n 0, 1) := by decide +kernel
theorem dX3_count_14 : decode cX3_count 14 = .ok (.getfield 25, 3) := by decide +kernel
theorem dX3_count_17 : decode cX3_count 17 = .ok (.bipush 13, 2) := by decide +kernel
theorem dX3_count_19 : decode cX3_count 19 = .ok (.iload_n 3, 1) := by decide +kernel
theorem dX3_count_20 : decode cX3_count 20 = .ok (.iadd, 1) := by decide +kernel
theorem dX3_count_21 : decode cX3_count 21 = .ok (.iaload, 1) := by decide +kernel
theorem dX3_count_22 : decode cX3_count 22 = .ok (.iload_n 1, 1) := by decide +kernel
theorem dX3_count_23 : decode cX3_count 23 = .ok (.if_icmp .ne 7, 3) := by decide +kernel
theorem dX3_count_26 : decode cX3_count 26 = .ok (.iconst 1, 1) := by decide +kernel
theorem dX3_count_27 : decode cX3_count 27 = .ok (.goto 4, 3) := by decide +kernel
theorem dX3_count_30 : decode cX3_count 30 = .ok (.iconst 0, 1) := by decide +kernel
theorem dX3_count_31 : decode cX3_count 31 = .ok (.iadd, 1) := by decide +kernel
theorem dX3_count_32 : decode cX3_count 32 = .ok (.istore_n 2, 1) := by decide +kernel
theorem dX3_count_33 : decode cX3_count 33 = .ok (.iinc 3 1, 3) := by decide +kernel
theorem dX3_count_36 : decode cX3_count 36 = .ok (.goto (-32), 3) := by decide +kernel
theorem dX3_count_39 : decode cX3_count 39 = .ok (.iload_n 2, 1) := by decide +kernel
theorem dX3_count_40 : decode cX3_count 40 = .ok (.ireturn, 1) := by decide +kernel
set_option maxRecDepth 20000 in
theorem ggX3_addBatch_X3_isIn : GoodIn wsX3_addBatch wsX3_isIn := goodIn_r _ [8] (by decide +kernel) (by decide +kernel)
set_option maxRecDepth 20000 in
theorem gX3_addBatch_X3_isIn : GoodIn wsX3_addBatch (va_wsS RX3 35 yX3_isIn wsX3_isIn) := goodIn_app (goodIn_of _ (by decide +kernel)) ggX3_addBatch_X3_isIn
set_option maxRecDepth 20000 in
theorem ggX3_addBatch_X3_no : GoodIn wsX3_addBatch wsX3_no := goodIn_r _ [12, 1, 13, 14, 15, 16, 17, 18, 19, 20, 21, 22, 23, 24] (by decide +kernel) (by decide +kernel)
set_option maxRecDepth 20000 in
theorem gX3_addBatch_X3_no : GoodIn wsX3_addBatch (wsV RX3 87 RX3 yX3_no wsX3_no) := goodIn_app (goodIn_of _ (by decide +kernel)) ggX3_addBatch_X3_no
theorem dX3_addBatch_0 : decode cX3_addBatch 0 = .ok (.aload_n 0, 1) := by decide +kernel
theorem dX3_addBatch_1 : decode cX3_addBatch 1 = .ok (.iconst 0, 1) := by decide +kernel
theorem dX3_addBatch_2 : decode cX3_addBatch 2 = .ok (.putfield 31, 3) := by decide +kernel
theorem dX3_addBatch_5 : decode cX3_addBatch 5 = .ok (.iload_n 1, 1) := by decide +kernel
theorem dX3_addBatch_6 : decode cX3_addBatch 6 = .ok (.iconst 1, 1) := by decide +kernel
theorem dX3_addBatch_7 : decode cX3_addBatch 7 = .ok (.bipush 99, 2) := by decide +kernel
theorem dX3_addBatch_9 : decode cX3_addBatch 9 = .ok (.invokestatic 35, 3) := by decide +kernel
theorem dX3_addBatch_12 : decode cX3_addBatch 12 = .ok (.ifCond .eq 12, 3) := by decide +kernel
theorem dX3_addBatch_15 : decode cX3_addBatch 15 = .ok (.iload_n 2, 1) := by decide +kernel
theorem dX3_addBatch_16 : decode cX3_addBatch 16 = .ok (.iconst 0, 1) := by decide +kernel
theorem dX3_addBatch_17 : decode cX3_addBatch 17 = .ok (.iconst 5, 1) := by decide +kernel
theorem dX3_addBatch_18 : decode cX3_addBatch 18 = .ok (.invokestatic 35, 3) := by decide +kernel
theorem dX3_addBatch_21 : decode cX3_addBatch 21 = .ok (.ifCond .ne 9, 3) := by decide +kernel
theorem dX3_addBatch_24 : decode cX3_addBatch 24 = .ok (.aload_n 0, 1) := by decide +kernel
theorem dX3_addBatch_25 : decode cX3_addBatch 25 = .ok (.iconst 1, 1) := by decide +kernel
theorem dX3_addBatch_26 : decode cX3_addBatch 26 = .ok (.invokevirtual 87, 3) := by decide +kernel
theorem dX3_addBatch_29 : decode cX3_addBatch 29 = .ok (.ireturn, 1) := by decide +kernel
theorem dX3_addBatch_30 : decode cX3_addBatch 30 = .ok (.aload_n 0, 1) := by decide +kernel
theorem dX3_addBatch_31 : decode cX3_addBatch 31 = .ok (.getfield 39, 3) := by decide +kernel
theorem dX3_addBatch_34 : decode cX3_addBatch 34 = .ok (.bipush 6, 2) := by decide +kernel
theorem dX3_addBatch_36 : decode cX3_addBatch 36 = .ok (.if_icmp .ne 9, 3) := by decide +kernel
theorem dX3_addBatch_39 : decode cX3_addBatch 39 = .ok (.aload_n 0, 1) := by decide +kernel
theorem dX3_addBatch_40 : decode cX3_addBatch 40 = .ok (.iconst 2, 1) := by decide +kernel
theorem dX3_addBatch_41 : decode cX3_addBatch 41 = .ok (.invokevirtual 87, 3) := by decide +kernel
theorem dX3_addBatch_44 : decode cX3_addBatch 44 = .ok (.ireturn, 1) := by decide +kernel
theorem dX3_addBatch_45 : decode cX3_addBatch 45 = .ok (.aload_n 0, 1) := by decide +kernel
theorem dX3_addBatch_46 : decode cX3_addBatch 46 = .ok (.getfield 9, 3) := by decide +kernel
theorem dX3_addBatch_49 : decode cX3_addBatch 49 = .ok (.aload_n 0, 1) := by decide +kernel
theorem dX3_addBatch_50 : decode cX3_addBatch 50 = .ok (.getfield 39, 3) := by decide +kernel
theorem dX3_addBatch_53 : decode cX3_addBatch 53 = .ok (.iload_n 1, 1) := by decide +kernel
theorem dX3_addBatch_54 : decode cX3_addBatch 54 = .ok (.iastore, 1) := by decide +kernel
theorem dX3_addBatch_55 : decode cX3_addBatch 55 = .ok (.aload_n 0, 1) := by decide +kernel
theorem dX3_addBatch_56 : decode cX3_addBatch 56 = .ok (.getfield 13, 3) := by decide +kernel
theorem dX3_addBatch_59 : decode cX3_addBatch 59 = .ok (.aload_n 0, 1) := by decide +kernel
theorem dX3_addBatch_60 : decode cX3_addBatch 60 = .ok (.getfield 39, 3) := by decide +kernel
theorem dX3_addBatch_63 : decode cX3_addBatch 63 = .ok (.iload_n 2, 1) := by decide +kernel
theorem dX3_addBatch_64 : decode cX3_addBatch 64 = .ok (.iastore, 1) := by decide +kernel
theorem dX3_addBatch_65 : decode cX3_addBatch 65 = .ok (.aload_n 0, 1) := by decide +kernel
theorem dX3_addBatch_66 : decode cX3_addBatch 66 = .ok (.dup, 1) := by decide +kernel
theorem dX3_addBatch_67 : decode cX3_addBatch 67 = .ok (.getfield 39, 3) := by decide +kernel
theorem dX3_addBatch_70 : decode cX3_addBatch 70 = .ok (.iconst 1, 1) := by decide +kernel
theorem dX3_addBatch_71 : decode cX3_addBatch 71 = .ok (.iadd, 1) := by decide +kernel
theorem dX3_addBatch_72 : decode cX3_addBatch 72 = .ok (.putfield 39, 3) := by decide +kernel
theorem dX3_addBatch_75 : decode cX3_addBatch 75 = .ok (.aload_n 0, 1) := by decide +kernel
theorem dX3_addBatch_76 : decode cX3_addBatch 76 = .ok (.getfield 39, 3) := by decide +kernel
theorem dX3_addBatch_79 : decode cX3_addBatch 79 = .ok (.iconst 1, 1) := by decide +kernel
theorem dX3_addBatch_80 : decode cX3_addBatch 80 = .ok (.isub, 1) := by decide +kernel
theorem dX3_addBatch_81 : decode cX3_addBatch 81 = .ok (.ireturn, 1) := by decide +kernel
set_option maxRecDepth 20000 in
theorem ggX3_seal_X3_isBatch : GoodIn wsX3_seal wsX3_isBatch := goodIn_r _ [11, 12, 13, 14, 10, 15, 23, 24, 25, 26, 27, 28, 29, 30, 31, 32, 33, 34] (by decide +kernel) (by decide +kernel)
set_option maxRecDepth 20000 in
theorem gX3_seal_X3_isBatch : GoodIn wsX3_seal (wsV RX3 90 RX3 yX3_isBatch wsX3_isBatch) := goodIn_app (goodIn_of _ (by decide +kernel)) ggX3_seal_X3_isBatch
set_option maxRecDepth 20000 in
theorem ggX3_seal_X3_isShelf : GoodIn wsX3_seal wsX3_isShelf := goodIn_r _ [18, 13, 14, 10, 15] (by decide +kernel) (by decide +kernel)
set_option maxRecDepth 20000 in
theorem gX3_seal_X3_isShelf : GoodIn wsX3_seal (va_wsS RX3 93 yX3_isShelf wsX3_isShelf) := goodIn_app (goodIn_of _ (by decide +kernel)) ggX3_seal_X3_isShelf
set_option maxRecDepth 20000 in
theorem ggX3_seal_X3_no : GoodIn wsX3_seal wsX3_no := goodIn_r _ [22, 1, 23, 24, 25, 26, 27, 28, 29, 30, 31, 32, 33, 34] (by decide +kernel) (by decide +kernel)
set_option maxRecDepth 20000 in
theorem gX3_seal_X3_no : GoodIn wsX3_seal (wsV RX3 87 RX3 yX3_no wsX3_no) := goodIn_app (goodIn_of _ (by decide +kernel)) ggX3_seal_X3_no
set_option maxRecDepth 20000 in
theorem ggX3_seal_X3_isIn : GoodIn wsX3_seal wsX3_isIn := goodIn_r _ [15] (by decide +kernel) (by decide +kernel)
set_option maxRecDepth 20000 in
theorem gX3_seal_X3_isIn : GoodIn wsX3_seal (va_wsS RX3 35 yX3_isIn wsX3_isIn) := goodIn_app (goodIn_of _ (by decide +kernel)) ggX3_seal_X3_isIn
theorem dX3_seal_0 : decode cX3_seal 0 = .ok (.aload_n 0, 1) := by decide +kernel
theorem dX3_seal_1 : decode cX3_seal 1 = .ok (.iconst 0, 1) := by decide +kernel
theorem dX3_seal_2 : decode cX3_seal 2 = .ok (.putfield 31, 3) := by decide +kernel
theorem dX3_seal_5 : decode cX3_seal 5 = .ok (.aload_n 0, 1) := by decide +kernel
theorem dX3_seal_6 : decode cX3_seal 6 = .ok (.iload_n 1, 1) := by decide +kernel
theorem dX3_seal_7 : decode cX3_seal 7 = .ok (.invokevirtual 90, 3) := by decide +kernel
theorem dX3_seal_10 : decode cX3_seal 10 = .ok (.ifCond .eq 10, 3) := by decide +kernel
theorem dX3_seal_13 : decode cX3_seal 13 = .ok (.iload_n 2, 1) := by decide +kernel
theorem dX3_seal_14 : decode cX3_seal 14 = .ok (.invokestatic 93, 3) := by decide +kernel
theorem dX3_seal_17 : decode cX3_seal 17 = .ok (.ifCond .ne 9, 3) := by decide +kernel
theorem dX3_seal_20 : decode cX3_seal 20 = .ok (.aload_n 0, 1) := by decide +kernel
theorem dX3_seal_21 : decode cX3_seal 21 = .ok (.iconst 1, 1) := by decide +kernel
theorem dX3_seal_22 : decode cX3_seal 22 = .ok (.invokevirtual 87, 3) := by decide +kernel
theorem dX3_seal_25 : decode cX3_seal 25 = .ok (.ireturn, 1) := by decide +kernel
theorem dX3_seal_26 : decode cX3_seal 26 = .ok (.iload_n 3, 1) := by decide +kernel
theorem dX3_seal_27 : decode cX3_seal 27 = .ok (.iconst 1, 1) := by decide +kernel
theorem dX3_seal_28 : decode cX3_seal 28 = .ok (.bipush 20, 2) := by decide +kernel
theorem dX3_seal_30 : decode cX3_seal 30 = .ok (.invokestatic 35, 3) := by decide +kernel
theorem dX3_seal_33 : decode cX3_seal 33 = .ok (.ifCond .ne 9, 3) := by decide +kernel
theorem dX3_seal_36 : decode cX3_seal 36 = .ok (.aload_n 0, 1) := by decide +kernel
theorem dX3_seal_37 : decode cX3_seal 37 = .ok (.iconst 2, 1) := by decide +kernel
theorem dX3_seal_38 : decode cX3_seal 38 = .ok (.invokevirtual 87, 3) := by decide +kernel
theorem dX3_seal_41 : decode cX3_seal 41 = .ok (.ireturn, 1) := by decide +kernel
theorem dX3_seal_42 : decode cX3_seal 42 = .ok (.aload_n 0, 1) := by decide +kernel
theorem dX3_seal_43 : decode cX3_seal 43 = .ok (.getfield 42, 3) := by decide +kernel
theorem dX3_seal_46 : decode cX3_seal 46 = .ok (.iload_n 3, 1) := by decide +kernel
theorem dX3_seal_47 : decode cX3_seal 47 = .ok (.iadd, 1) := by decide +kernel
theorem dX3_seal_48 : decode cX3_seal 48 = .ok (.bipush 60, 2) := by decide +kernel
theorem dX3_seal_50 : decode cX3_seal 50 = .ok (.if_icmp .gt 16, 3) := by decide +kernel
theorem dX3_seal_53 : decode cX3_seal 53 = .ok (.aload_n 0, 1) := by decide +kernel
theorem dX3_seal_54 : decode cX3_seal 54 = .ok (.getfield 25, 3) := by decide +kernel
theorem dX3_seal_57 : decode cX3_seal 57 = .ok (.bipush 7, 2) := by decide +kernel
theorem dX3_seal_59 : decode cX3_seal 59 = .ok (.iload_n 1, 1) := by decide +kernel
theorem dX3_seal_60 : decode cX3_seal 60 = .ok (.iadd, 1) := by decide +kernel
theorem dX3_seal_61 : decode cX3_seal 61 = .ok (.iaload, 1) := by decide +kernel
theorem dX3_seal_62 : decode cX3_seal 62 = .ok (.iconst 1, 1) := by decide +kernel
theorem dX3_seal_63 : decode cX3_seal 63 = .ok (.if_icmp .ne 9, 3) := by decide +kernel
theorem dX3_seal_66 : decode cX3_seal 66 = .ok (.aload_n 0, 1) := by decide +kernel
theorem dX3_seal_67 : decode cX3_seal 67 = .ok (.iconst 3, 1) := by decide +kernel
theorem dX3_seal_68 : decode cX3_seal 68 = .ok (.invokevirtual 87, 3) := by decide +kernel
theorem dX3_seal_71 : decode cX3_seal 71 = .ok (.ireturn, 1) := by decide +kernel
theorem dX3_seal_72 : decode cX3_seal 72 = .ok (.iconst 0, 1) := by decide +kernel
theorem dX3_seal_73 : decode cX3_seal 73 = .ok (.istore 4, 2) := by decide +kernel
theorem dX3_seal_75 : decode cX3_seal 75 = .ok (.iload 4, 2) := by decide +kernel
theorem dX3_seal_77 : decode cX3_seal 77 = .ok (.iload_n 3, 1) := by decide +kernel
theorem dX3_seal_78 : decode cX3_seal 78 = .ok (.if_icmp .ge 70, 3) := by decide +kernel
theorem dX3_seal_81 : decode cX3_seal 81 = .ok (.aload_n 0, 1) := by decide +kernel
theorem dX3_seal_82 : decode cX3_seal 82 = .ok (.getfield 19, 3) := by decide +kernel
theorem dX3_seal_85 : decode cX3_seal 85 = .ok (.aload_n 0, 1) := by decide +kernel
theorem dX3_seal_86 : decode cX3_seal 86 = .ok (.getfield 42, 3) := by decide +kernel
theorem dX3_seal_89 : decode cX3_seal 89 = .ok (.iload_n 1, 1) := by decide +kernel
theorem dX3_seal_90 : decode cX3_seal 90 = .ok (.iastore, 1) := by decide +kernel
theorem dX3_seal_91 : decode cX3_seal 91 = .ok (.aload_n 0, 1) := by decide +kernel
theorem dX3_seal_92 : decode cX3_seal 92 = .ok (.getfield 22, 3) := by decide +kernel
theorem dX3_seal_95 : decode cX3_seal 95 = .ok (.aload_n 0, 1) := by decide +kernel
theorem dX3_seal_96 : decode cX3_seal 96 = .ok (.getfield 42, 3) := by decide +kernel
theorem dX3_seal_99 : decode cX3_seal 99 = .ok (.iload_n 2, 1) := by decide +kernel
theorem dX3_seal_100 : decode cX3_seal 100 = .ok (.iastore, 1) := by decide +kernel
theorem dX3_seal_101 : decode cX3_seal 101 = .ok (.aload_n 0, 1) := by decide +kernel
theorem dX3_seal_102 : decode cX3_seal 102 = .ok (.getfield 25, 3) := by decide +kernel
theorem dX3_seal_105 : decode cX3_seal 105 = .ok (.bipush 13, 2) := by decide +kernel
theorem dX3_seal_107 : decode cX3_seal 107 = .ok (.aload_n 0, 1) := by decide +kernel
theorem dX3_seal_108 : decode cX3_seal 108 = .ok (.getfield 42, 3) := by decide +kernel
theorem dX3_seal_111 : decode cX3_seal 111 = .ok (.iadd, 1) := by decide +kernel
theorem dX3_seal_112 : decode cX3_seal 112 = .ok (.iconst 0, 1) := by decide +kernel
theorem dX3_seal_113 : decode cX3_seal 113 = .ok (.iastore, 1) := by decide +kernel
theorem dX3_seal_114 : decode cX3_seal 114 = .ok (.aload_n 0, 1) := by decide +kernel
theorem dX3_seal_115 : decode cX3_seal 115 = .ok (.getfield 25, 3) := by decide +kernel
theorem dX3_seal_118 : decode cX3_seal 118 = .ok (.bipush 73, 2) := by decide +kernel
theorem dX3_seal_120 : decode cX3_seal 120 = .ok (.aload_n 0, 1) := by decide +kernel
theorem dX3_seal_121 : decode cX3_seal 121 = .ok (.getfield 42, 3) := by decide +kernel
theorem dX3_seal_124 : decode cX3_seal 124 = .ok (.iadd, 1) := by decide +kernel
theorem dX3_seal_125 : decode cX3_seal 125 = .ok (.aload_n 0, 1) := by decide +kernel
theorem dX3_seal_126 : decode cX3_seal 126 = .ok (.getfield 9, 3) := by decide +kernel
theorem dX3_seal_129 : decode cX3_seal 129 = .ok (.iload_n 1, 1) := by decide +kernel
theorem dX3_seal_130 : decode cX3_seal 130 = .ok (.iaload, 1) := by decide +kernel
theorem dX3_seal_131 : decode cX3_seal 131 = .ok (.iastore, 1) := by decide +kernel
theorem dX3_seal_132 : decode cX3_seal 132 = .ok (.aload_n 0, 1) := by decide +kernel
theorem dX3_seal_133 : decode cX3_seal 133 = .ok (.dup, 1) := by decide +kernel
theorem dX3_seal_134 : decode cX3_seal 134 = .ok (.getfield 42, 3) := by decide +kernel
theorem dX3_seal_137 : decode cX3_seal 137 = .ok (.iconst 1, 1) := by decide +kernel
theorem dX3_seal_138 : decode cX3_seal 138 = .ok (.iadd, 1) := by decide +kernel
theorem dX3_seal_139 : decode cX3_seal 139 = .ok (.putfield 42, 3) := by decide +kernel
theorem dX3_seal_142 : decode cX3_seal 142 = .ok (.iinc 4 1, 3) := by decide +kernel
theorem dX3_seal_145 : decode cX3_seal 145 = .ok (.goto (-70), 3) := by decide +kernel
theorem dX3_seal_148 : decode cX3_seal 148 = .ok (.aload_n 0, 1) := by decide +kernel
theorem dX3_seal_149 : decode cX3_seal 149 = .ok (.getfield 42, 3) := by decide +kernel
theorem dX3_seal_152 : decode cX3_seal 152 = .ok (.iload_n 3, 1) := by decide +kernel
theorem dX3_seal_153 : decode cX3_seal 153 = .ok (.isub, 1) := by decide +kernel
theorem dX3_seal_154 : decode cX3_seal 154 = .ok (.ireturn, 1) := by decide +kernel
set_option maxRecDepth 20000 in
theorem ggX3_move_X3_isTin : GoodIn wsX3_move wsX3_isTin := goodIn_r _ [7, 8, 9, 10, 6, 11, 24, 25, 26, 27, 28, 29, 30, 31, 32, 33, 34, 35] (by decide +kernel) (by decide +kernel)
set_option maxRecDepth 20000 in
theorem gX3_move_X3_isTin : GoodIn wsX3_move (wsV RX3 96 RX3 yX3_isTin wsX3_isTin) := goodIn_app (goodIn_of _ (by decide +kernel)) ggX3_move_X3_isTin
set_option maxRecDepth 20000 in
theorem ggX3_move_X3_isShelf : GoodIn wsX3_move wsX3_isShelf := goodIn_r _ [14, 9, 10, 6, 11] (by decide +kernel) (by decide +kernel)
set_option maxRecDepth 20000 in
theorem gX3_move_X3_isShelf : GoodIn wsX3_move (va_wsS RX3 93 yX3_isShelf wsX3_isShelf) := goodIn_app (goodIn_of _ (by decide +kernel)) ggX3_move_X3_isShelf
set_option maxRecDepth 20000 in
theorem ggX3_move_X3_no : GoodIn wsX3_move wsX3_no := goodIn_r _ [18, 1, 24, 25, 26, 27, 28, 29, 30, 31, 32, 33, 34, 35] (by decide +kernel) (by decide +kernel)
set_option maxRecDepth 20000 in
theorem gX3_move_X3_no : GoodIn wsX3_move (wsV RX3 87 RX3 yX3_no wsX3_no) := goodIn_app (goodIn_of _ (by decide +kernel)) ggX3_move_X3_no
set_option maxRecDepth 20000 in
theorem ggX3_move_X3_isHere : GoodIn wsX3_move wsX3_isHere := goodIn_r _ [22, 23, 24, 25, 26, 27, 28, 29, 30, 31, 32, 33, 34, 35] (by decide +kernel) (by decide +kernel)
set_option maxRecDepth 20000 in
theorem gX3_move_X3_isHere : GoodIn wsX3_move (wsV RX3 51 RX3 yX3_isHere wsX3_isHere) := goodIn_app (goodIn_of _ (by decide +kernel)) ggX3_move_X3_isHere
theorem dX3_move_0 : decode cX3_move 0 = .ok (.aload_n 0, 1) := by decide +kernel
theorem dX3_move_1 : decode cX3_move 1 = .ok (.iconst 0, 1) := by decide +kernel
theorem dX3_move_2 : decode cX3_move 2 = .ok (.putfield 31, 3) := by decide +kernel
theorem dX3_move_5 : decode cX3_move 5 = .ok (.aload_n 0, 1) := by decide +kernel
theorem dX3_move_6 : decode cX3_move 6 = .ok (.iload_n 1, 1) := by decide +kernel
theorem dX3_move_7 : decode cX3_move 7 = .ok (.invokevirtual 96, 3) := by decide +kernel
theorem dX3_move_10 : decode cX3_move 10 = .ok (.ifCond .eq 10, 3) := by decide +kernel
theorem dX3_move_13 : decode cX3_move 13 = .ok (.iload_n 2, 1) := by decide +kernel
theorem dX3_move_14 : decode cX3_move 14 = .ok (.invokestatic 93, 3) := by decide +kernel
theorem dX3_move_17 : decode cX3_move 17 = .ok (.ifCond .ne 9, 3) := by decide +kernel
theorem dX3_move_20 : decode cX3_move 20 = .ok (.aload_n 0, 1) := by decide +kernel
theorem dX3_move_21 : decode cX3_move 21 = .ok (.iconst 1, 1) := by decide +kernel
theorem dX3_move_22 : decode cX3_move 22 = .ok (.invokevirtual 87, 3) := by decide +kernel
theorem dX3_move_25 : decode cX3_move 25 = .ok (.ireturn, 1) := by decide +kernel
theorem dX3_move_26 : decode cX3_move 26 = .ok (.aload_n 0, 1) := by decide +kernel
theorem dX3_move_27 : decode cX3_move 27 = .ok (.iload_n 1, 1) := by decide +kernel
theorem dX3_move_28 : decode cX3_move 28 = .ok (.invokevirtual 51, 3) := by decide +kernel
theorem dX3_move_31 : decode cX3_move 31 = .ok (.ifCond .ne 9, 3) := by decide +kernel
theorem dX3_move_34 : decode cX3_move 34 = .ok (.aload_n 0, 1) := by decide +kernel
theorem dX3_move_35 : decode cX3_move 35 = .ok (.iconst 2, 1) := by decide +kernel
theorem dX3_move_36 : decode cX3_move 36 = .ok (.invokevirtual 87, 3) := by decide +kernel
theorem dX3_move_39 : decode cX3_move 39 = .ok (.ireturn, 1) := by decide +kernel
theorem dX3_move_40 : decode cX3_move 40 = .ok (.aload_n 0, 1) := by decide +kernel
theorem dX3_move_41 : decode cX3_move 41 = .ok (.getfield 22, 3) := by decide +kernel
theorem dX3_move_44 : decode cX3_move 44 = .ok (.iload_n 1, 1) := by decide +kernel
theorem dX3_move_45 : decode cX3_move 45 = .ok (.iaload, 1) := by decide +kernel
theorem dX3_move_46 : decode cX3_move 46 = .ok (.istore_n 3, 1) := by decide +kernel
theorem dX3_move_47 : decode cX3_move 47 = .ok (.aload_n 0, 1) := by decide +kernel
theorem dX3_move_48 : decode cX3_move 48 = .ok (.getfield 22, 3) := by decide +kernel
theorem dX3_move_51 : decode cX3_move 51 = .ok (.iload_n 1, 1) := by decide +kernel
theorem dX3_move_52 : decode cX3_move 52 = .ok (.iload_n 2, 1) := by decide +kernel
theorem dX3_move_53 : decode cX3_move 53 = .ok (.iastore, 1) := by decide +kernel
theorem dX3_move_54 : decode cX3_move 54 = .ok (.iload_n 3, 1) := by decide +kernel
theorem dX3_move_55 : decode cX3_move 55 = .ok (.ireturn, 1) := by decide +kernel
set_option maxRecDepth 20000 in
theorem ggX3_setWarm_X3_isShelf : GoodIn wsX3_setWarm wsX3_isShelf := goodIn_r _ [6, 7, 8, 5, 9] (by decide +kernel) (by decide +kernel)
set_option maxRecDepth 20000 in
theorem gX3_setWarm_X3_isShelf : GoodIn wsX3_setWarm (va_wsS RX3 93 yX3_isShelf wsX3_isShelf) := goodIn_app (goodIn_of _ (by decide +kernel)) ggX3_setWarm_X3_isShelf
set_option maxRecDepth 20000 in
theorem ggX3_setWarm_X3_no : GoodIn wsX3_setWarm wsX3_no := goodIn_r _ [13, 1, 14, 15, 16, 17, 18, 19, 20, 21, 22, 23, 24, 25] (by decide +kernel) (by decide +kernel)
set_option maxRecDepth 20000 in
theorem gX3_setWarm_X3_no : GoodIn wsX3_setWarm (wsV RX3 87 RX3 yX3_no wsX3_no) := goodIn_app (goodIn_of _ (by decide +kernel)) ggX3_setWarm_X3_no
set_option maxRecDepth 20000 in
theorem ggX3_setWarm_X3_isIn : GoodIn wsX3_setWarm wsX3_isIn := goodIn_r _ [9] (by decide +kernel) (by decide +kernel)
set_option maxRecDepth 20000 in
theorem gX3_setWarm_X3_isIn : GoodIn wsX3_setWarm (va_wsS RX3 35 yX3_isIn wsX3_isIn) := goodIn_app (goodIn_of _ (by decide +kernel)) ggX3_setWarm_X3_isIn
theorem dX3_setWarm_0 : decode cX3_setWarm 0 = .ok (.aload_n 0, 1) := by decide +kernel
theorem dX3_setWarm_1 : decode cX3_setWarm 1 = .ok (.iconst 0, 1) := by decide +kernel
theorem dX3_setWarm_2 : decode cX3_setWarm 2 = .ok (.putfield 31, 3) := by decide +kernel
theorem dX3_setWarm_5 : decode cX3_setWarm 5 = .ok (.iload_n 1, 1) := by decide +kernel
theorem dX3_setWarm_6 : decode cX3_setWarm 6 = .ok (.invokestatic 93, 3) := by decide +kernel
theorem dX3_setWarm_9 : decode cX3_setWarm 9 = .ok (.ifCond .ne 9, 3) := by decide +kernel
theorem dX3_setWarm_12 : decode cX3_setWarm 12 = .ok (.aload_n 0, 1) := by decide +kernel
theorem dX3_setWarm_13 : decode cX3_setWarm 13 = .ok (.iconst 1, 1) := by decide +kernel
theorem dX3_setWarm_14 : decode cX3_setWarm 14 = .ok (.invokevirtual 87, 3) := by decide +kernel
theorem dX3_setWarm_17 : decode cX3_setWarm 17 = .ok (.ireturn, 1) := by decide +kernel
theorem dX3_setWarm_18 : decode cX3_setWarm 18 = .ok (.iload_n 2, 1) := by decide +kernel
theorem dX3_setWarm_19 : decode cX3_setWarm 19 = .ok (.iconst 0, 1) := by decide +kernel
theorem dX3_setWarm_20 : decode cX3_setWarm 20 = .ok (.iconst 3, 1) := by decide +kernel
theorem dX3_setWarm_21 : decode cX3_setWarm 21 = .ok (.invokestatic 35, 3) := by decide +kernel
theorem dX3_setWarm_24 : decode cX3_setWarm 24 = .ok (.ifCond .ne 9, 3) := by decide +kernel
theorem dX3_setWarm_27 : decode cX3_setWarm 27 = .ok (.aload_n 0, 1) := by decide +kernel
theorem dX3_setWarm_28 : decode cX3_setWarm 28 = .ok (.iconst 2, 1) := by decide +kernel
theorem dX3_setWarm_29 : decode cX3_setWarm 29 = .ok (.invokevirtual 87, 3) := by decide +kernel
theorem dX3_setWarm_32 : decode cX3_setWarm 32 = .ok (.ireturn, 1) := by decide +kernel
theorem dX3_setWarm_33 : decode cX3_setWarm 33 = .ok (.aload_n 0, 1) := by decide +kernel
theorem dX3_setWarm_34 : decode cX3_setWarm 34 = .ok (.getfield 16, 3) := by decide +kernel
theorem dX3_setWarm_37 : decode cX3_setWarm 37 = .ok (.iload_n 1, 1) := by decide +kernel
theorem dX3_setWarm_38 : decode cX3_setWarm 38 = .ok (.iaload, 1) := by decide +kernel
theorem dX3_setWarm_39 : decode cX3_setWarm 39 = .ok (.istore_n 3, 1) := by decide +kernel
theorem dX3_setWarm_40 : decode cX3_setWarm 40 = .ok (.aload_n 0, 1) := by decide +kernel
theorem dX3_setWarm_41 : decode cX3_setWarm 41 = .ok (.getfield 16, 3) := by decide +kernel
theorem dX3_setWarm_44 : decode cX3_setWarm 44 = .ok (.iload_n 1, 1) := by decide +kernel
theorem dX3_setWarm_45 : decode cX3_setWarm 45 = .ok (.iload_n 2, 1) := by decide +kernel
theorem dX3_setWarm_46 : decode cX3_setWarm 46 = .ok (.iastore, 1) := by decide +kernel
theorem dX3_setWarm_47 : decode cX3_setWarm 47 = .ok (.iload_n 3, 1) := by decide +kernel
theorem dX3_setWarm_48 : decode cX3_setWarm 48 = .ok (.ireturn, 1) := by decide +kernel
set_option maxRecDepth 20000 in
theorem ggX3_setShipping_X3_isIn : GoodIn wsX3_setShipping wsX3_isIn := goodIn_r _ [7] (by decide +kernel) (by decide +kernel)
set_option maxRecDepth 20000 in
theorem gX3_setShipping_X3_isIn : GoodIn wsX3_setShipping (va_wsS RX3 35 yX3_isIn wsX3_isIn) := goodIn_app (goodIn_of _ (by decide +kernel)) ggX3_setShipping_X3_isIn
set_option maxRecDepth 20000 in
theorem ggX3_setShipping_X3_isOrder : GoodIn wsX3_setShipping wsX3_isOrder := goodIn_r _ [10, 4, 5, 6, 7] (by decide +kernel) (by decide +kernel)
set_option maxRecDepth 20000 in
theorem gX3_setShipping_X3_isOrder : GoodIn wsX3_setShipping (va_wsS RX3 99 yX3_isOrder wsX3_isOrder) := goodIn_app (goodIn_of _ (by decide +kernel)) ggX3_setShipping_X3_isOrder
set_option maxRecDepth 20000 in
theorem ggX3_setShipping_X3_no : GoodIn wsX3_setShipping wsX3_no := goodIn_r _ [14, 1, 15, 16, 17, 18, 19, 20, 21, 22, 23, 24, 25, 26] (by decide +kernel) (by decide +kernel)
set_option maxRecDepth 20000 in
theorem gX3_setShipping_X3_no : GoodIn wsX3_setShipping (wsV RX3 87 RX3 yX3_no wsX3_no) := goodIn_app (goodIn_of _ (by decide +kernel)) ggX3_setShipping_X3_no
theorem dX3_setShipping_0 : decode cX3_setShipping 0 = .ok (.aload_n 0, 1) := by decide +kernel
theorem dX3_setShipping_1 : decode cX3_setShipping 1 = .ok (.iconst 0, 1) := by decide +kernel
theorem dX3_setShipping_2 : decode cX3_setShipping 2 = .ok (.putfield 31, 3) := by decide +kernel
theorem dX3_setShipping_5 : decode cX3_setShipping 5 = .ok (.iload_n 1, 1) := by decide +kernel
theorem dX3_setShipping_6 : decode cX3_setShipping 6 = .ok (.iconst 0, 1) := by decide +kernel
theorem dX3_setShipping_7 : decode cX3_setShipping 7 = .ok (.bipush 9, 2) := by decide +kernel
theorem dX3_setShipping_9 : decode cX3_setShipping 9 = .ok (.invokestatic 35, 3) := by decide +kernel
theorem dX3_setShipping_12 : decode cX3_setShipping 12 = .ok (.ifCond .eq 10, 3) := by decide +kernel
theorem dX3_setShipping_15 : decode cX3_setShipping 15 = .ok (.iload_n 2, 1) := by decide +kernel
theorem dX3_setShipping_16 : decode cX3_setShipping 16 = .ok (.invokestatic 99, 3) := by decide +kernel
theorem dX3_setShipping_19 : decode cX3_setShipping 19 = .ok (.ifCond .ne 9, 3) := by decide +kernel
theorem dX3_setShipping_22 : decode cX3_setShipping 22 = .ok (.aload_n 0, 1) := by decide +kernel
theorem dX3_setShipping_23 : decode cX3_setShipping 23 = .ok (.iconst 1, 1) := by decide +kernel
theorem dX3_setShipping_24 : decode cX3_setShipping 24 = .ok (.invokevirtual 87, 3) := by decide +kernel
theorem dX3_setShipping_27 : decode cX3_setShipping 27 = .ok (.ireturn, 1) := by decide +kernel
theorem dX3_setShipping_28 : decode cX3_setShipping 28 = .ok (.aload_n 0, 1) := by decide +kernel
theorem dX3_setShipping_29 : decode cX3_setShipping 29 = .ok (.getfield 75, 3) := by decide +kernel
theorem dX3_setShipping_32 : decode cX3_setShipping 32 = .ok (.istore_n 3, 1) := by decide +kernel
theorem dX3_setShipping_33 : decode cX3_setShipping 33 = .ok (.aload_n 0, 1) := by decide +kernel
theorem dX3_setShipping_34 : decode cX3_setShipping 34 = .ok (.iload_n 1, 1) := by decide +kernel
theorem dX3_setShipping_35 : decode cX3_setShipping 35 = .ok (.putfield 75, 3) := by decide +kernel
theorem dX3_setShipping_38 : decode cX3_setShipping 38 = .ok (.aload_n 0, 1) := by decide +kernel
theorem dX3_setShipping_39 : decode cX3_setShipping 39 = .ok (.iload_n 2, 1) := by decide +kernel
theorem dX3_setShipping_40 : decode cX3_setShipping 40 = .ok (.putfield 78, 3) := by decide +kernel
theorem dX3_setShipping_43 : decode cX3_setShipping 43 = .ok (.iload_n 3, 1) := by decide +kernel
theorem dX3_setShipping_44 : decode cX3_setShipping 44 = .ok (.ireturn, 1) := by decide +kernel
set_option maxRecDepth 20000 in
theorem ggX3_recall_X3_isBatch : GoodIn wsX3_recall wsX3_isBatch := goodIn_r _ [7, 8, 9, 10, 6, 11, 26, 27, 28, 29, 30, 31, 32, 33, 34, 35, 36, 37] (by decide +kernel) (by decide +kernel)
set_option maxRecDepth 20000 in
theorem gX3_recall_X3_isBatch : GoodIn wsX3_recall (wsV RX3 90 RX3 yX3_isBatch wsX3_isBatch) := goodIn_app (goodIn_of _ (by decide +kernel)) ggX3_recall_X3_isBatch
set_option maxRecDepth 20000 in
theorem ggX3_recall_X3_no : GoodIn wsX3_recall wsX3_no := goodIn_r _ [15, 1, 26, 27, 28, 29, 30, 31, 32, 33, 34, 35, 36, 37] (by decide +kernel) (by decide +kernel)
set_option maxRecDepth 20000 in
theorem gX3_recall_X3_no : GoodIn wsX3_recall (wsV RX3 87 RX3 yX3_no wsX3_no) := goodIn_app (goodIn_of _ (by decide +kernel)) ggX3_recall_X3_no
set_option maxRecDepth 20000 in
theorem ggX3_recall_X3_takeBack : GoodIn wsX3_recall wsX3_takeBack := goodIn_r _ [19, 2, 20, 21, 22, 23, 24, 6, 25, 26, 27, 28, 29, 30, 31, 32, 33, 34, 35, 36, 37] (by decide +kernel) (by decide +kernel)
set_option maxRecDepth 20000 in
theorem gX3_recall_X3_takeBack : GoodIn wsX3_recall (wsV RX3 71 RX3 yX3_takeBack wsX3_takeBack) := goodIn_app (goodIn_of _ (by decide +kernel)) ggX3_recall_X3_takeBack
theorem dX3_recall_0 : decode cX3_recall 0 = .ok (.aload_n 0, 1) := by decide +kernel
theorem dX3_recall_1 : decode cX3_recall 1 = .ok (.iconst 0, 1) := by decide +kernel
theorem dX3_recall_2 : decode cX3_recall 2 = .ok (.putfield 31, 3) := by decide +kernel
theorem dX3_recall_5 : decode cX3_recall 5 = .ok (.aload_n 0, 1) := by decide +kernel
theorem dX3_recall_6 : decode cX3_recall 6 = .ok (.iload_n 1, 1) := by decide +kernel
theorem dX3_recall_7 : decode cX3_recall 7 = .ok (.invokevirtual 90, 3) := by decide +kernel
theorem dX3_recall_10 : decode cX3_recall 10 = .ok (.ifCond .ne 9, 3) := by decide +kernel
theorem dX3_recall_13 : decode cX3_recall 13 = .ok (.aload_n 0, 1) := by decide +kernel
theorem dX3_recall_14 : decode cX3_recall 14 = .ok (.iconst 1, 1) := by decide +kernel
theorem dX3_recall_15 : decode cX3_recall 15 = .ok (.invokevirtual 87, 3) := by decide +kernel
theorem dX3_recall_18 : decode cX3_recall 18 = .ok (.ireturn, 1) := by decide +kernel
theorem dX3_recall_19 : decode cX3_recall 19 = .ok (.aload_n 0, 1) := by decide +kernel
theorem dX3_recall_20 : decode cX3_recall 20 = .ok (.getfield 25, 3) := by decide +kernel
theorem dX3_recall_23 : decode cX3_recall 23 = .ok (.bipush 7, 2) := by decide +kernel
theorem dX3_recall_25 : decode cX3_recall 25 = .ok (.iload_n 1, 1) := by decide +kernel
theorem dX3_recall_26 : decode cX3_recall 26 = .ok (.iadd, 1) := by decide +kernel
theorem dX3_recall_27 : decode cX3_recall 27 = .ok (.iaload, 1) := by decide +kernel
theorem dX3_recall_28 : decode cX3_recall 28 = .ok (.iconst 1, 1) := by decide +kernel
theorem dX3_recall_29 : decode cX3_recall 29 = .ok (.if_icmp .ne 11, 3) := by decide +kernel
theorem dX3_recall_32 : decode cX3_recall 32 = .ok (.aload_n 0, 1) := by decide +kernel
theorem dX3_recall_33 : decode cX3_recall 33 = .ok (.iconst 2, 1) := by decide +kernel
theorem dX3_recall_34 : decode cX3_recall 34 = .ok (.invokevirtual 87, 3) := by decide +kernel
theorem dX3_recall_37 : decode cX3_recall 37 = .ok (.goto 8, 3) := by decide +kernel
theorem dX3_recall_40 : decode cX3_recall 40 = .ok (.aload_n 0, 1) := by decide +kernel
theorem dX3_recall_41 : decode cX3_recall 41 = .ok (.iload_n 1, 1) := by decide +kernel
theorem dX3_recall_42 : decode cX3_recall 42 = .ok (.invokevirtual 71, 3) := by decide +kernel
theorem dX3_recall_45 : decode cX3_recall 45 = .ok (.ireturn, 1) := by decide +kernel
set_option maxRecDepth 20000 in
theorem ggX3_pass_X3_isIn : GoodIn wsX3_pass wsX3_isIn := goodIn_r _ [5] (by decide +kernel) (by decide +kernel)
set_option maxRecDepth 20000 in
theorem gX3_pass_X3_isIn : GoodIn wsX3_pass (va_wsS RX3 35 yX3_isIn wsX3_isIn) := goodIn_app (goodIn_of _ (by decide +kernel)) ggX3_pass_X3_isIn
set_option maxRecDepth 20000 in
theorem ggX3_pass_X3_no : GoodIn wsX3_pass wsX3_no := goodIn_r _ [9, 1, 59, 60, 61, 62, 63, 64, 65, 66, 67, 68, 69, 70] (by decide +kernel) (by decide +kernel)
set_option maxRecDepth 20000 in
theorem gX3_pass_X3_no : GoodIn wsX3_pass (wsV RX3 87 RX3 yX3_no wsX3_no) := goodIn_app (goodIn_of _ (by decide +kernel)) ggX3_pass_X3_no
set_option maxRecDepth 20000 in
theorem ggX3_pass_X3_count : GoodIn wsX3_pass wsX3_count := goodIn_r _ [13, 14, 15, 59, 60, 61, 62, 63, 64, 65, 66, 67, 68, 69, 70] (by decide +kernel) (by decide +kernel)
set_option maxRecDepth 20000 in
theorem gX3_pass_X3_count : GoodIn wsX3_pass (wsV RX3 102 RX3 yX3_count wsX3_count) := goodIn_app (goodIn_of _ (by decide +kernel)) ggX3_pass_X3_count
set_option maxRecDepth 20000 in
theorem ggX3_pass_X3_daysOn : GoodIn wsX3_pass wsX3_daysOn := goodIn_r _ [19, 20, 21, 22, 4, 23, 14, 24, 15, 25, 26, 27, 28, 29, 30, 31, 32, 33, 34, 35, 36, 37, 38, 39, 40, 41, 42, 43, 44, 45, 46, 47, 48, 49, 50, 51, 52, 53, 54, 55, 56, 57, 58, 59, 60, 61, 62, 63, 64, 65, 66, 67, 68, 69, 70] (by decide +kernel) (by decide +kernel)
set_option maxRecDepth 20000 in
theorem gX3_pass_X3_daysOn : GoodIn wsX3_pass (wsV RX3 105 RX3 yX3_daysOn wsX3_daysOn) := goodIn_app (goodIn_of _ (by decide +kernel)) ggX3_pass_X3_daysOn
theorem dX3_pass_0 : decode cX3_pass 0 = .ok (.aload_n 0, 1) := by decide +kernel
theorem dX3_pass_1 : decode cX3_pass 1 = .ok (.iconst 0, 1) := by decide +kernel
theorem dX3_pass_2 : decode cX3_pass 2 = .ok (.putfield 31, 3) := by decide +kernel
theorem dX3_pass_5 : decode cX3_pass 5 = .ok (.iload_n 1, 1) := by decide +kernel
theorem dX3_pass_6 : decode cX3_pass 6 = .ok (.iconst 1, 1) := by decide +kernel
theorem dX3_pass_7 : decode cX3_pass 7 = .ok (.bipush 60, 2) := by decide +kernel
theorem dX3_pass_9 : decode cX3_pass 9 = .ok (.invokestatic 35, 3) := by decide +kernel
theorem dX3_pass_12 : decode cX3_pass 12 = .ok (.ifCond .ne 9, 3) := by decide +kernel
theorem dX3_pass_15 : decode cX3_pass 15 = .ok (.aload_n 0, 1) := by decide +kernel
theorem dX3_pass_16 : decode cX3_pass 16 = .ok (.iconst 1, 1) := by decide +kernel
theorem dX3_pass_17 : decode cX3_pass 17 = .ok (.invokevirtual 87, 3) := by decide +kernel
theorem dX3_pass_20 : decode cX3_pass 20 = .ok (.ireturn, 1) := by decide +kernel
theorem dX3_pass_21 : decode cX3_pass 21 = .ok (.aload_n 0, 1) := by decide +kernel
theorem dX3_pass_22 : decode cX3_pass 22 = .ok (.iconst 1, 1) := by decide +kernel
theorem dX3_pass_23 : decode cX3_pass 23 = .ok (.invokevirtual 102, 3) := by decide +kernel
theorem dX3_pass_26 : decode cX3_pass 26 = .ok (.istore_n 2, 1) := by decide +kernel
theorem dX3_pass_27 : decode cX3_pass 27 = .ok (.aload_n 0, 1) := by decide +kernel
theorem dX3_pass_28 : decode cX3_pass 28 = .ok (.iload_n 1, 1) := by decide +kernel
theorem dX3_pass_29 : decode cX3_pass 29 = .ok (.invokevirtual 105, 3) := by decide +kernel
theorem dX3_pass_32 : decode cX3_pass 32 = .ok (.aload_n 0, 1) := by decide +kernel
theorem dX3_pass_33 : decode cX3_pass 33 = .ok (.iconst 1, 1) := by decide +kernel
theorem dX3_pass_34 : decode cX3_pass 34 = .ok (.invokevirtual 102, 3) := by decide +kernel
theorem dX3_pass_37 : decode cX3_pass 37 = .ok (.iload_n 2, 1) := by decide +kernel
theorem dX3_pass_38 : decode cX3_pass 38 = .ok (.isub, 1) := by decide +kernel
theorem dX3_pass_39 : decode cX3_pass 39 = .ok (.ireturn, 1) := by decide +kernel
set_option maxRecDepth 20000 in
theorem ggX3_day_X3_ok : GoodIn wsX3_day wsX3_ok := goodIn_r _ [6, 7, 8, 9, 10, 11, 12, 13, 14, 15, 16, 17, 18, 19] (by decide +kernel) (by decide +kernel)
set_option maxRecDepth 20000 in
theorem gX3_day_X3_ok : GoodIn wsX3_day (wsV RX3 108 RX3 yX3_ok wsX3_ok) := goodIn_app (goodIn_of _ (by decide +kernel)) ggX3_day_X3_ok
theorem dX3_day_0 : decode cX3_day 0 = .ok (.aload_n 0, 1) := by decide +kernel
theorem dX3_day_1 : decode cX3_day 1 = .ok (.aload_n 0, 1) := by decide +kernel
theorem dX3_day_2 : decode cX3_day 2 = .ok (.getfield 25, 3) := by decide +kernel
theorem dX3_day_5 : decode cX3_day 5 = .ok (.iconst 0, 1) := by decide +kernel
theorem dX3_day_6 : decode cX3_day 6 = .ok (.iaload, 1) := by decide +kernel
theorem dX3_day_7 : decode cX3_day 7 = .ok (.invokevirtual 108, 3) := by decide +kernel
theorem dX3_day_10 : decode cX3_day 10 = .ok (.ireturn, 1) := by decide +kernel
set_option maxRecDepth 20000 in
theorem ggX3_batches_X3_ok : GoodIn wsX3_batches wsX3_ok := goodIn_r _ [6, 7, 8, 9, 10, 11, 12, 13, 14, 15, 16, 17, 18, 19] (by decide +kernel) (by decide +kernel)
set_option maxRecDepth 20000 in
theorem gX3_batches_X3_ok : GoodIn wsX3_batches (wsV RX3 108 RX3 yX3_ok wsX3_ok) := goodIn_app (goodIn_of _ (by decide +kernel)) ggX3_batches_X3_ok
theorem dX3_batches_0 : decode cX3_batches 0 = .ok (.aload_n 0, 1) := by decide +kernel
theorem dX3_batches_1 : decode cX3_batches 1 = .ok (.aload_n 0, 1) := by decide +kernel
theorem dX3_batches_2 : decode cX3_batches 2 = .ok (.getfield 39, 3) := by decide +kernel
theorem dX3_batches_5 : decode cX3_batches 5 = .ok (.invokevirtual 108, 3) := by decide +kernel
theorem dX3_batches_8 : decode cX3_batches 8 = .ok (.ireturn, 1) := by decide +kernel
set_option maxRecDepth 20000 in
theorem ggX3_tins_X3_ok : GoodIn wsX3_tins wsX3_ok := goodIn_r _ [6, 7, 8, 9, 10, 11, 12, 13, 14, 15, 16, 17, 18, 19] (by decide +kernel) (by decide +kernel)
set_option maxRecDepth 20000 in
theorem gX3_tins_X3_ok : GoodIn wsX3_tins (wsV RX3 108 RX3 yX3_ok wsX3_ok) := goodIn_app (goodIn_of _ (by decide +kernel)) ggX3_tins_X3_ok
theorem dX3_tins_0 : decode cX3_tins 0 = .ok (.aload_n 0, 1) := by decide +kernel
theorem dX3_tins_1 : decode cX3_tins 1 = .ok (.aload_n 0, 1) := by decide +kernel
theorem dX3_tins_2 : decode cX3_tins 2 = .ok (.getfield 42, 3) := by decide +kernel
theorem dX3_tins_5 : decode cX3_tins 5 = .ok (.invokevirtual 108, 3) := by decide +kernel
theorem dX3_tins_8 : decode cX3_tins 8 = .ok (.ireturn, 1) := by decide +kernel
set_option maxRecDepth 20000 in
theorem ggX3_inCellar_X3_count : GoodIn wsX3_inCellar wsX3_count := goodIn_r _ [5, 6, 7, 13, 14, 15, 16, 17, 18, 19, 20, 21, 22, 23, 24] (by decide +kernel) (by decide +kernel)
set_option maxRecDepth 20000 in
theorem gX3_inCellar_X3_count : GoodIn wsX3_inCellar (wsV RX3 102 RX3 yX3_count wsX3_count) := goodIn_app (goodIn_of _ (by decide +kernel)) ggX3_inCellar_X3_count
set_option maxRecDepth 20000 in
theorem ggX3_inCellar_X3_ok : GoodIn wsX3_inCellar wsX3_ok := goodIn_r _ [11, 12, 13, 14, 15, 16, 17, 18, 19, 20, 21, 22, 23, 24] (by decide +kernel) (by decide +kernel)
set_option maxRecDepth 20000 in
theorem gX3_inCellar_X3_ok : GoodIn wsX3_inCellar (wsV RX3 108 RX3 yX3_ok wsX3_ok) := goodIn_app (goodIn_of _ (by decide +kernel)) ggX3_inCellar_X3_ok
theorem dX3_inCellar_0 : decode cX3_inCellar 0 = .ok (.aload_n 0, 1) := by decide +kernel
theorem dX3_inCellar_1 : decode cX3_inCellar 1 = .ok (.aload_n 0, 1) := by decide +kernel
theorem dX3_inCellar_2 : decode cX3_inCellar 2 = .ok (.iconst 0, 1) := by decide +kernel
theorem dX3_inCellar_3 : decode cX3_inCellar 3 = .ok (.invokevirtual 102, 3) := by decide +kernel
theorem dX3_inCellar_6 : decode cX3_inCellar 6 = .ok (.invokevirtual 108, 3) := by decide +kernel
theorem dX3_inCellar_9 : decode cX3_inCellar 9 = .ok (.ireturn, 1) := by decide +kernel
set_option maxRecDepth 20000 in
theorem ggX3_shipped_X3_count : GoodIn wsX3_shipped wsX3_count := goodIn_r _ [5, 6, 7, 13, 14, 15, 16, 17, 18, 19, 20, 21, 22, 23, 24] (by decide +kernel) (by decide +kernel)
set_option maxRecDepth 20000 in
theorem gX3_shipped_X3_count : GoodIn wsX3_shipped (wsV RX3 102 RX3 yX3_count wsX3_count) := goodIn_app (goodIn_of _ (by decide +kernel)) ggX3_shipped_X3_count
set_option maxRecDepth 20000 in
theorem ggX3_shipped_X3_ok : GoodIn wsX3_shipped wsX3_ok := goodIn_r _ [11, 12, 13, 14, 15, 16, 17, 18, 19, 20, 21, 22, 23, 24] (by decide +kernel) (by decide +kernel)
set_option maxRecDepth 20000 in
theorem gX3_shipped_X3_ok : GoodIn wsX3_shipped (wsV RX3 108 RX3 yX3_ok wsX3_ok) := goodIn_app (goodIn_of _ (by decide +kernel)) ggX3_shipped_X3_ok
theorem dX3_shipped_0 : decode cX3_shipped 0 = .ok (.aload_n 0, 1) := by decide +kernel
theorem dX3_shipped_1 : decode cX3_shipped 1 = .ok (.aload_n 0, 1) := by decide +kernel
theorem dX3_shipped_2 : decode cX3_shipped 2 = .ok (.iconst 1, 1) := by decide +kernel
theorem dX3_shipped_3 : decode cX3_shipped 3 = .ok (.invokevirtual 102, 3) := by decide +kernel
theorem dX3_shipped_6 : decode cX3_shipped 6 = .ok (.invokevirtual 108, 3) := by decide +kernel
theorem dX3_shipped_9 : decode cX3_shipped 9 = .ok (.ireturn, 1) := by decide +kernel
set_option maxRecDepth 20000 in
theorem ggX3_lost_X3_count : GoodIn wsX3_lost wsX3_count := goodIn_r _ [5, 6, 7, 13, 14, 15, 16, 17, 18, 19, 20, 21, 22, 23, 24] (by decide +kernel) (by decide +kernel)
set_option maxRecDepth 20000 in
theorem gX3_lost_X3_count : GoodIn wsX3_lost (wsV RX3 102 RX3 yX3_count wsX3_count) := goodIn_app (goodIn_of _ (by decide +kernel)) ggX3_lost_X3_count
set_option maxRecDepth 20000 in
theorem ggX3_lost_X3_ok : GoodIn wsX3_lost wsX3_ok := goodIn_r _ [11, 12, 13, 14, 15, 16, 17, 18, 19, 20, 21, 22, 23, 24] (by decide +kernel) (by decide +kernel)
set_option maxRecDepth 20000 in
theorem gX3_lost_X3_ok : GoodIn wsX3_lost (wsV RX3 108 RX3 yX3_ok wsX3_ok) := goodIn_app (goodIn_of _ (by decide +kernel)) ggX3_lost_X3_ok
theorem dX3_lost_0 : decode cX3_lost 0 = .ok (.aload_n 0, 1) := by decide +kernel
theorem dX3_lost_1 : decode cX3_lost 1 = .ok (.aload_n 0, 1) := by decide +kernel
theorem dX3_lost_2 : decode cX3_lost 2 = .ok (.iconst 2, 1) := by decide +kernel
theorem dX3_lost_3 : decode cX3_lost 3 = .ok (.invokevirtual 102, 3) := by decide +kernel
theorem dX3_lost_6 : decode cX3_lost 6 = .ok (.invokevirtual 108, 3) := by decide +kernel
theorem dX3_lost_9 : decode cX3_lost 9 = .ok (.ireturn, 1) := by decide +kernel
theorem dX3_allSwelled_0 : decode cX3_allSwelled 0 = .ok (.iconst 0, 1) := by decide +kernel
theorem dX3_allSwelled_1 : decode cX3_allSwelled 1 = .ok (.istore_n 1, 1) := by decide +kernel
theorem dX3_allSwelled_2 : decode cX3_allSwelled 2 = .ok (.iconst 0, 1) := by decide +kernel
theorem dX3_allSwelled_3 : decode cX3_allSwelled 3 = .ok (.istore_n 2, 1) := by decide +kernel
theorem dX3_allSwelled_4 : decode cX3_allSwelled 4 = .ok (.iload_n 2, 1) := by decide +kernel
theorem dX3_allSwelled_5 : decode cX3_allSwelled 5 = .ok (.aload_n 0, 1) := by decide +kernel
theorem dX3_allSwelled_6 : decode cX3_allSwelled 6 = .ok (.getfield 39, 3) := by decide +kernel
theorem dX3_allSwelled_9 : decode cX3_allSwelled 9 = .ok (.if_icmp .ge 20, 3) := by decide +kernel
theorem dX3_allSwelled_12 : decode cX3_allSwelled 12 = .ok (.iload_n 1, 1) := by decide +kernel
theorem dX3_allSwelled_13 : decode cX3_allSwelled 13 = .ok (.aload_n 0, 1) := by decide +kernel
theorem dX3_allSwelled_14 : decode cX3_allSwelled 14 = .ok (.getfield 25, 3) := by decide +kernel
theorem dX3_allSwelled_17 : decode cX3_allSwelled 17 = .ok (.iconst 1, 1) := by decide +kernel
theorem dX3_allSwelled_18 : decode cX3_allSwelled 18 = .ok (.iload_n 2, 1) := by decide +kernel
theorem dX3_allSwelled_19 : decode cX3_allSwelled 19 = .ok (.iadd, 1) := by decide +kernel
theorem dX3_allSwelled_20 : decode cX3_allSwelled 20 = .ok (.iaload, 1) := by decide +kernel
theorem dX3_allSwelled_21 : decode cX3_allSwelled 21 = .ok (.iadd, 1) := by decide +kernel
theorem dX3_allSwelled_22 : decode cX3_allSwelled 22 = .ok (.istore_n 1, 1) := by decide +kernel
theorem dX3_allSwelled_23 : decode cX3_allSwelled 23 = .ok (.iinc 2 1, 3) := by decide +kernel
theorem dX3_allSwelled_26 : decode cX3_allSwelled 26 = .ok (.goto (-22), 3) := by decide +kernel
theorem dX3_allSwelled_29 : decode cX3_allSwelled 29 = .ok (.iload_n 1, 1) := by decide +kernel
theorem dX3_allSwelled_30 : decode cX3_allSwelled 30 = .ok (.ireturn, 1) := by decide +kernel
set_option maxRecDepth 20000 in
theorem ggX3_swelled_X3_allSwelled : GoodIn wsX3_swelled wsX3_allSwelled := goodIn_r _ [5, 6, 7, 13, 14, 15, 16, 17, 18, 19, 20, 21, 22, 23, 24] (by decide +kernel) (by decide +kernel)
set_option maxRecDepth 20000 in
theorem gX3_swelled_X3_allSwelled : GoodIn wsX3_swelled (wsV RX3 111 RX3 yX3_allSwelled wsX3_allSwelled) := goodIn_app (goodIn_of _ (by decide +kernel)) ggX3_swelled_X3_allSwelled
set_option maxRecDepth 20000 in
theorem ggX3_swelled_X3_ok : GoodIn wsX3_swelled wsX3_ok := goodIn_r _ [11, 12, 13, 14, 15, 16, 17, 18, 19, 20, 21, 22, 23, 24] (by decide +kernel) (by decide +kernel)
set_option maxRecDepth 20000 in
theorem gX3_swelled_X3_ok : GoodIn wsX3_swelled (wsV RX3 108 RX3 yX3_ok wsX3_ok) := goodIn_app (goodIn_of _ (by decide +kernel)) ggX3_swelled_X3_ok
theorem dX3_swelled_0 : decode cX3_swelled 0 = .ok (.aload_n 0, 1) := by decide +kernel
theorem dX3_swelled_1 : decode cX3_swelled 1 = .ok (.aload_n 0, 1) := by decide +kernel
theorem dX3_swelled_2 : decode cX3_swelled 2 = .ok (.invokevirtual 111, 3) := by decide +kernel
theorem dX3_swelled_5 : decode cX3_swelled 5 = .ok (.invokevirtual 108, 3) := by decide +kernel
theorem dX3_swelled_8 : decode cX3_swelled 8 = .ok (.ireturn, 1) := by decide +kernel
set_option maxRecDepth 20000 in
theorem ggX3_on_X3_isHere : GoodIn wsX3_on wsX3_isHere := goodIn_r _ [7, 8, 9, 10, 11, 12, 13, 14, 15, 16, 17, 18, 19, 20] (by decide +kernel) (by decide +kernel)
set_option maxRecDepth 20000 in
theorem gX3_on_X3_isHere : GoodIn wsX3_on (wsV RX3 51 RX3 yX3_isHere wsX3_isHere) := goodIn_app (goodIn_of _ (by decide +kernel)) ggX3_on_X3_isHere
theorem dX3_on_0 : decode cX3_on 0 = .ok (.iconst 0, 1) := by decide +kernel
theorem dX3_on_1 : decode cX3_on 1 = .ok (.istore_n 2, 1) := by decide +kernel
theorem dX3_on_2 : decode cX3_on 2 = .ok (.iconst 0, 1) := by decide +kernel
theorem dX3_on_3 : decode cX3_on 3 = .ok (.istore_n 3, 1) := by decide +kernel
theorem dX3_on_4 : decode cX3_on 4 = .ok (.iload_n 3, 1) := by decide +kernel
theorem dX3_on_5 : decode cX3_on 5 = .ok (.aload_n 0, 1) := by decide +kernel
theorem dX3_on_6 : decode cX3_on 6 = .ok (.getfield 42, 3) := by decide +kernel
theorem dX3_on_9 : decode cX3_on 9 = .ok (.if_icmp .ge 35, 3) := by decide +kernel
theorem dX3_on_12 : decode cX3_on 12 = .ok (.iload_n 2, 1) := by decide +kernel
theorem dX3_on_13 : decode cX3_on 13 = .ok (.aload_n 0, 1) := by decide +kernel
theorem dX3_on_14 : decode cX3_on 14 = .ok (.iload_n 3, 1) := by decide +kernel
theorem dX3_on_15 : decode cX3_on 15 = .ok (.invokevirtual 51, 3) := by decide +kernel
theorem dX3_on_18 : decode cX3_on 18 = .ok (.ifCond .eq 17, 3) := by decide +kernel
theorem dX3_on_21 : decode cX3_on 21 = .ok (.aload_n 0, 1) := by decide +kernel
theorem dX3_on_22 : decode cX3_on 22 = .ok (.getfield 22, 3) := by decide +kernel
theorem dX3_on_25 : decode cX3_on 25 = .ok (.iload_n 3, 1) := by decide +kernel
theorem dX3_on_26 : decode cX3_on 26 = .ok (.iaload, 1) := by decide +kernel
theorem dX3_on_27 : decode cX3_on 27 = .ok (.iload_n 1, 1) := by decide +kernel
theorem dX3_on_28 : decode cX3_on 28 = .ok (.if_icmp .ne 7, 3) := by decide +kernel
theorem dX3_on_31 : decode cX3_on 31 = .ok (.iconst 1, 1) := by decide +kernel
theorem dX3_on_32 : decode cX3_on 32 = .ok (.goto 4, 3) := by decide +kernel
theorem dX3_on_35 : decode cX3_on 35 = .ok (.iconst 0, 1) := by decide +kernel
theorem dX3_on_36 : decode cX3_on 36 = .ok (.iadd, 1) := by decide +kernel
theorem dX3_on_37 : decode cX3_on 37 = .ok (.istore_n 2, 1) := by decide +kernel
theorem dX3_on_38 : decode cX3_on 38 = .ok (.iinc 3 1, 3) := by decide +kernel
theorem dX3_on_41 : decode cX3_on 41 = .ok (.goto (-37), 3) := by decide +kernel
theorem dX3_on_44 : decode cX3_on 44 = .ok (.iload_n 2, 1) := by decide +kernel
theorem dX3_on_45 : decode cX3_on 45 = .ok (.ireturn, 1) := by decide +kernel
set_option maxRecDepth 20000 in
theorem ggX3_standOn_X3_isShelf : GoodIn wsX3_standOn wsX3_isShelf := goodIn_r _ [5, 6, 7, 4, 8] (by decide +kernel) (by decide +kernel)
set_option maxRecDepth 20000 in
theorem gX3_standOn_X3_isShelf : GoodIn wsX3_standOn (va_wsS RX3 93 yX3_isShelf wsX3_isShelf) := goodIn_app (goodIn_of _ (by decide +kernel)) ggX3_standOn_X3_isShelf
set_option maxRecDepth 20000 in
theorem ggX3_standOn_X3_on : GoodIn wsX3_standOn wsX3_on := goodIn_r _ [12, 13, 14, 15, 16, 17, 4, 18, 19, 24, 25, 26, 27, 28, 29, 30, 31, 32, 33, 34, 35] (by decide +kernel) (by decide +kernel)
set_option maxRecDepth 20000 in
theorem gX3_standOn_X3_on : GoodIn wsX3_standOn (wsV RX3 115 RX3 yX3_on wsX3_on) := goodIn_app (goodIn_of _ (by decide +kernel)) ggX3_standOn_X3_on
set_option maxRecDepth 20000 in
theorem ggX3_standOn_X3_no : GoodIn wsX3_standOn wsX3_no := goodIn_r _ [23, 1, 24, 25, 26, 27, 28, 29, 30, 31, 32, 33, 34, 35] (by decide +kernel) (by decide +kernel)
set_option maxRecDepth 20000 in
theorem gX3_standOn_X3_no : GoodIn wsX3_standOn (wsV RX3 87 RX3 yX3_no wsX3_no) := goodIn_app (goodIn_of _ (by decide +kernel)) ggX3_standOn_X3_no
theorem dX3_standOn_0 : decode cX3_standOn 0 = .ok (.aload_n 0, 1) := by decide +kernel
theorem dX3_standOn_1 : decode cX3_standOn 1 = .ok (.iconst 0, 1) := by decide +kernel
theorem dX3_standOn_2 : decode cX3_standOn 2 = .ok (.putfield 31, 3) := by decide +kernel
theorem dX3_standOn_5 : decode cX3_standOn 5 = .ok (.iload_n 1, 1) := by decide +kernel
theorem dX3_standOn_6 : decode cX3_standOn 6 = .ok (.invokestatic 93, 3) := by decide +kernel
theorem dX3_standOn_9 : decode cX3_standOn 9 = .ok (.ifCond .eq 11, 3) := by decide +kernel
theorem dX3_standOn_12 : decode cX3_standOn 12 = .ok (.aload_n 0, 1) := by decide +kernel
theorem dX3_standOn_13 : decode cX3_standOn 13 = .ok (.iload_n 1, 1) := by decide +kernel
theorem dX3_standOn_14 : decode cX3_standOn 14 = .ok (.invokevirtual 115, 3) := by decide +kernel
theorem dX3_standOn_17 : decode cX3_standOn 17 = .ok (.goto 8, 3) := by decide +kernel
theorem dX3_standOn_20 : decode cX3_standOn 20 = .ok (.aload_n 0, 1) := by decide +kernel
theorem dX3_standOn_21 : decode cX3_standOn 21 = .ok (.iconst 1, 1) := by decide +kernel
theorem dX3_standOn_22 : decode cX3_standOn 22 = .ok (.invokevirtual 87, 3) := by decide +kernel
theorem dX3_standOn_25 : decode cX3_standOn 25 = .ok (.ireturn, 1) := by decide +kernel
set_option maxRecDepth 20000 in
theorem ggX3_warmOf_X3_isShelf : GoodIn wsX3_warmOf wsX3_isShelf := goodIn_r _ [6, 7, 8, 5, 9] (by decide +kernel) (by decide +kernel)
set_option maxRecDepth 20000 in
theorem gX3_warmOf_X3_isShelf : GoodIn wsX3_warmOf (va_wsS RX3 93 yX3_isShelf wsX3_isShelf) := goodIn_app (goodIn_of _ (by decide +kernel)) ggX3_warmOf_X3_isShelf
set_option maxRecDepth 20000 in
theorem ggX3_warmOf_X3_no : GoodIn wsX3_warmOf wsX3_no := goodIn_r _ [13, 1, 14, 15, 16, 17, 18, 19, 20, 21, 22, 23, 24, 25] (by decide +kernel) (by decide +kernel)
set_option maxRecDepth 20000 in
theorem gX3_warmOf_X3_no : GoodIn wsX3_warmOf (wsV RX3 87 RX3 yX3_no wsX3_no) := goodIn_app (goodIn_of _ (by decide +kernel)) ggX3_warmOf_X3_no
theorem dX3_warmOf_0 : decode cX3_warmOf 0 = .ok (.aload_n 0, 1) := by decide +kernel
theorem dX3_warmOf_1 : decode cX3_warmOf 1 = .ok (.iconst 0, 1) := by decide +kernel
theorem dX3_warmOf_2 : decode cX3_warmOf 2 = .ok (.putfield 31, 3) := by decide +kernel
theorem dX3_warmOf_5 : decode cX3_warmOf 5 = .ok (.iload_n 1, 1) := by decide +kernel
theorem dX3_warmOf_6 : decode cX3_warmOf 6 = .ok (.invokestatic 93, 3) := by decide +kernel
theorem dX3_warmOf_9 : decode cX3_warmOf 9 = .ok (.ifCond .eq 12, 3) := by decide +kernel
theorem dX3_warmOf_12 : decode cX3_warmOf 12 = .ok (.aload_n 0, 1) := by decide +kernel
theorem dX3_warmOf_13 : decode cX3_warmOf 13 = .ok (.getfield 16, 3) := by decide +kernel
theorem dX3_warmOf_16 : decode cX3_warmOf 16 = .ok (.iload_n 1, 1) := by decide +kernel
theorem dX3_warmOf_17 : decode cX3_warmOf 17 = .ok (.iaload, 1) := by decide +kernel
theorem dX3_warmOf_18 : decode cX3_warmOf 18 = .ok (.goto 8, 3) := by decide +kernel
theorem dX3_warmOf_21 : decode cX3_warmOf 21 = .ok (.aload_n 0, 1) := by decide +kernel
theorem dX3_warmOf_22 : decode cX3_warmOf 22 = .ok (.iconst 1, 1) := by decide +kernel
theorem dX3_warmOf_23 : decode cX3_warmOf 23 = .ok (.invokevirtual 87, 3) := by decide +kernel
theorem dX3_warmOf_26 : decode cX3_warmOf 26 = .ok (.ireturn, 1) := by decide +kernel
set_option maxRecDepth 20000 in
theorem ggX3_batchOf_X3_isTin : GoodIn wsX3_batchOf wsX3_isTin := goodIn_r _ [7, 8, 9, 10, 6, 11, 16, 17, 18, 19, 20, 21, 22, 23, 24, 25, 26, 27] (by decide +kernel) (by decide +kernel)
set_option maxRecDepth 20000 in
theorem gX3_batchOf_X3_isTin : GoodIn wsX3_batchOf (wsV RX3 96 RX3 yX3_isTin wsX3_isTin) := goodIn_app (goodIn_of _ (by decide +kernel)) ggX3_batchOf_X3_isTin
set_option maxRecDepth 20000 in
theorem ggX3_batchOf_X3_no : GoodIn wsX3_batchOf wsX3_no := goodIn_r _ [15, 1, 16, 17, 18, 19, 20, 21, 22, 23, 24, 25, 26, 27] (by decide +kernel) (by decide +kernel)
set_option maxRecDepth 20000 in
theorem gX3_batchOf_X3_no : GoodIn wsX3_batchOf (wsV RX3 87 RX3 yX3_no wsX3_no) := goodIn_app (goodIn_of _ (by decide +kernel)) ggX3_batchOf_X3_no
theorem dX3_batchOf_0 : decode cX3_batchOf 0 = .ok (.aload_n 0, 1) := by decide +kernel
theorem dX3_batchOf_1 : decode cX3_batchOf 1 = .ok (.iconst 0, 1) := by decide +kernel
theorem dX3_batchOf_2 : decode cX3_batchOf 2 = .ok (.putfield 31, 3) := by decide +kernel
theorem dX3_batchOf_5 : decode cX3_batchOf 5 = .ok (.aload_n 0, 1) := by decide +kernel
theorem dX3_batchOf_6 : decode cX3_batchOf 6 = .ok (.iload_n 1, 1) := by decide +kernel
theorem dX3_batchOf_7 : decode cX3_batchOf 7 = .ok (.invokevirtual 96, 3) := by decide +kernel
theorem dX3_batchOf_10 : decode cX3_batchOf 10 = .ok (.ifCond .eq 12, 3) := by decide +kernel
theorem dX3_batchOf_13 : decode cX3_batchOf 13 = .ok (.aload_n 0, 1) := by decide +kernel
theorem dX3_batchOf_14 : decode cX3_batchOf 14 = .ok (.getfield 19, 3) := by decide +kernel
theorem dX3_batchOf_17 : decode cX3_batchOf 17 = .ok (.iload_n 1, 1) := by decide +kernel
theorem dX3_batchOf_18 : decode cX3_batchOf 18 = .ok (.iaload, 1) := by decide +kernel
theorem dX3_batchOf_19 : decode cX3_batchOf 19 = .ok (.goto 8, 3) := by decide +kernel
theorem dX3_batchOf_22 : decode cX3_batchOf 22 = .ok (.aload_n 0, 1) := by decide +kernel
theorem dX3_batchOf_23 : decode cX3_batchOf 23 = .ok (.iconst 1, 1) := by decide +kernel
theorem dX3_batchOf_24 : decode cX3_batchOf 24 = .ok (.invokevirtual 87, 3) := by decide +kernel
theorem dX3_batchOf_27 : decode cX3_batchOf 27 = .ok (.ireturn, 1) := by decide +kernel
set_option maxRecDepth 20000 in
theorem ggX3_place_X3_isHere : GoodIn wsX3_place wsX3_isHere := goodIn_r _ [6, 7, 8, 9, 10, 11, 12, 13, 14, 15, 16, 17, 18, 19] (by decide +kernel) (by decide +kernel)
set_option maxRecDepth 20000 in
theorem gX3_place_X3_isHere : GoodIn wsX3_place (wsV RX3 51 RX3 yX3_isHere wsX3_isHere) := goodIn_app (goodIn_of _ (by decide +kernel)) ggX3_place_X3_isHere
theorem dX3_place_0 : decode cX3_place 0 = .ok (.aload_n 0, 1) := by decide +kernel
theorem dX3_place_1 : decode cX3_place 1 = .ok (.iload_n 1, 1) := by decide +kernel
theorem dX3_place_2 : decode cX3_place 2 = .ok (.invokevirtual 51, 3) := by decide +kernel
theorem dX3_place_5 : decode cX3_place 5 = .ok (.ifCond .eq 12, 3) := by decide +kernel
theorem dX3_place_8 : decode cX3_place 8 = .ok (.aload_n 0, 1) := by decide +kernel
theorem dX3_place_9 : decode cX3_place 9 = .ok (.getfield 22, 3) := by decide +kernel
theorem dX3_place_12 : decode cX3_place 12 = .ok (.iload_n 1, 1) := by decide +kernel
theorem dX3_place_13 : decode cX3_place 13 = .ok (.iaload, 1) := by decide +kernel
theorem dX3_place_14 : decode cX3_place 14 = .ok (.goto 4, 3) := by decide +kernel
theorem dX3_place_17 : decode cX3_place 17 = .ok (.iconst (-1), 1) := by decide +kernel
theorem dX3_place_18 : decode cX3_place 18 = .ok (.ireturn, 1) := by decide +kernel
set_option maxRecDepth 20000 in
theorem ggX3_shelfOf_X3_isTin : GoodIn wsX3_shelfOf wsX3_isTin := goodIn_r _ [6, 7, 8, 9, 5, 10, 25, 26, 27, 28, 29, 30, 31, 32, 33, 34, 35, 36] (by decide +kernel) (by decide +kernel)
set_option maxRecDepth 20000 in
theorem gX3_shelfOf_X3_isTin : GoodIn wsX3_shelfOf (wsV RX3 96 RX3 yX3_isTin wsX3_isTin) := goodIn_app (goodIn_of _ (by decide +kernel)) ggX3_shelfOf_X3_isTin
set_option maxRecDepth 20000 in
theorem ggX3_shelfOf_X3_place : GoodIn wsX3_shelfOf wsX3_place := goodIn_r _ [14, 15, 16, 17, 18, 5, 19, 20, 25, 26, 27, 28, 29, 30, 31, 32, 33, 34, 35, 36] (by decide +kernel) (by decide +kernel)
set_option maxRecDepth 20000 in
theorem gX3_shelfOf_X3_place : GoodIn wsX3_shelfOf (wsV RX3 118 RX3 yX3_place wsX3_place) := goodIn_app (goodIn_of _ (by decide +kernel)) ggX3_shelfOf_X3_place
set_option maxRecDepth 20000 in
theorem ggX3_shelfOf_X3_no : GoodIn wsX3_shelfOf wsX3_no := goodIn_r _ [24, 1, 25, 26, 27, 28, 29, 30, 31, 32, 33, 34, 35, 36] (by decide +kernel) (by decide +kernel)
set_option maxRecDepth 20000 in
theorem gX3_shelfOf_X3_no : GoodIn wsX3_shelfOf (wsV RX3 87 RX3 yX3_no wsX3_no) := goodIn_app (goodIn_of _ (by decide +kernel)) ggX3_shelfOf_X3_no
theorem dX3_shelfOf_0 : decode cX3_shelfOf 0 = .ok (.aload_n 0, 1) := by decide +kernel
theorem dX3_shelfOf_1 : decode cX3_shelfOf 1 = .ok (.iconst 0, 1) := by decide +kernel
theorem dX3_shelfOf_2 : decode cX3_shelfOf 2 = .ok (.putfield 31, 3) := by decide +kernel
theorem dX3_shelfOf_5 : decode cX3_shelfOf 5 = .ok (.aload_n 0, 1) := by decide +kernel
theorem dX3_shelfOf_6 : decode cX3_shelfOf 6 = .ok (.iload_n 1, 1) := by decide +kernel
theorem dX3_shelfOf_7 : decode cX3_shelfOf 7 = .ok (.invokevirtual 96, 3) := by decide +kernel
theorem dX3_shelfOf_10 : decode cX3_shelfOf 10 = .ok (.ifCond .eq 11, 3) := by decide +kernel
theorem dX3_shelfOf_13 : decode cX3_shelfOf 13 = .ok (.aload_n 0, 1) := by decide +kernel
theorem dX3_shelfOf_14 : decode cX3_shelfOf 14 = .ok (.iload_n 1, 1) := by decide +kernel
theorem dX3_shelfOf_15 : decode cX3_shelfOf 15 = .ok (.invokevirtual 118, 3) := by decide +kernel
theorem dX3_shelfOf_18 : decode cX3_shelfOf 18 = .ok (.goto 8, 3) := by decide +kernel
theorem dX3_shelfOf_21 : decode cX3_shelfOf 21 = .ok (.aload_n 0, 1) := by decide +kernel
theorem dX3_shelfOf_22 : decode cX3_shelfOf 22 = .ok (.iconst 1, 1) := by decide +kernel
theorem dX3_shelfOf_23 : decode cX3_shelfOf 23 = .ok (.invokevirtual 87, 3) := by decide +kernel
theorem dX3_shelfOf_26 : decode cX3_shelfOf 26 = .ok (.ireturn, 1) := by decide +kernel
set_option maxRecDepth 20000 in
theorem ggX3_vacuumOf_X3_isTin : GoodIn wsX3_vacuumOf wsX3_isTin := goodIn_r _ [7, 8, 9, 10, 6, 11, 16, 17, 18, 19, 20, 21, 22, 23, 24, 25, 26, 27] (by decide +kernel) (by decide +kernel)
set_option maxRecDepth 20000 in
theorem gX3_vacuumOf_X3_isTin : GoodIn wsX3_vacuumOf (wsV RX3 96 RX3 yX3_isTin wsX3_isTin) := goodIn_app (goodIn_of _ (by decide +kernel)) ggX3_vacuumOf_X3_isTin
set_option maxRecDepth 20000 in
theorem ggX3_vacuumOf_X3_no : GoodIn wsX3_vacuumOf wsX3_no := goodIn_r _ [15, 1, 16, 17, 18, 19, 20, 21, 22, 23, 24, 25, 26, 27] (by decide +kernel) (by decide +kernel)
set_option maxRecDepth 20000 in
theorem gX3_vacuumOf_X3_no : GoodIn wsX3_vacuumOf (wsV RX3 87 RX3 yX3_no wsX3_no) := goodIn_app (goodIn_of _ (by decide +kernel)) ggX3_vacuumOf_X3_no
theorem dX3_vacuumOf_0 : decode cX3_vacuumOf 0 = .ok (.aload_n 0, 1) := by decide +kernel
theorem dX3_vacuumOf_1 : decode cX3_vacuumOf 1 = .ok (.iconst 0, 1) := by decide +kernel
theorem dX3_vacuumOf_2 : decode cX3_vacuumOf 2 = .ok (.putfield 31, 3) := by decide +kernel
theorem dX3_vacuumOf_5 : decode cX3_vacuumOf 5 = .ok (.aload_n 0, 1) := by decide +kernel
theorem dX3_vacuumOf_6 : decode cX3_vacuumOf 6 = .ok (.iload_n 1, 1) := by decide +kernel
theorem dX3_vacuumOf_7 : decode cX3_vacuumOf 7 = .ok (.invokevirtual 96, 3) := by decide +kernel
theorem dX3_vacuumOf_10 : decode cX3_vacuumOf 10 = .ok (.ifCond .eq 15, 3) := by decide +kernel
theorem dX3_vacuumOf_13 : decode cX3_vacuumOf 13 = .ok (.aload_n 0, 1) := by decide +kernel
theorem dX3_vacuumOf_14 : decode cX3_vacuumOf 14 = .ok (.getfield 25, 3) := by decide +kernel
theorem dX3_vacuumOf_17 : decode cX3_vacuumOf 17 = .ok (.bipush 73, 2) := by decide +kernel
theorem dX3_vacuumOf_19 : decode cX3_vacuumOf 19 = .ok (.iload_n 1, 1) := by decide +kernel
theorem dX3_vacuumOf_20 : decode cX3_vacuumOf 20 = .ok (.iadd, 1) := by decide +kernel
theorem dX3_vacuumOf_21 : decode cX3_vacuumOf 21 = .ok (.iaload, 1) := by decide +kernel
theorem dX3_vacuumOf_22 : decode cX3_vacuumOf 22 = .ok (.goto 8, 3) := by decide +kernel
theorem dX3_vacuumOf_25 : decode cX3_vacuumOf 25 = .ok (.aload_n 0, 1) := by decide +kernel
theorem dX3_vacuumOf_26 : decode cX3_vacuumOf 26 = .ok (.iconst 1, 1) := by decide +kernel
theorem dX3_vacuumOf_27 : decode cX3_vacuumOf 27 = .ok (.invokevirtual 87, 3) := by decide +kernel
theorem dX3_vacuumOf_30 : decode cX3_vacuumOf 30 = .ok (.ireturn, 1) := by decide +kernel
set_option maxRecDepth 20000 in
theorem ggX3_is_X3_isTin : GoodIn wsX3_is wsX3_isTin := goodIn_r _ [7, 8, 9, 10, 6, 11, 16, 17, 18, 19, 20, 21, 22, 23, 24, 25, 26, 27] (by decide +kernel) (by decide +kernel)
set_option maxRecDepth 20000 in
theorem gX3_is_X3_isTin : GoodIn wsX3_is (wsV RX3 96 RX3 yX3_isTin wsX3_isTin) := goodIn_app (goodIn_of _ (by decide +kernel)) ggX3_is_X3_isTin
set_option maxRecDepth 20000 in
theorem ggX3_is_X3_isNot : GoodIn wsX3_is wsX3_isNot := goodIn_r _ [15, 1, 16, 17, 18, 19, 20, 21, 22, 23, 24, 25, 26, 27] (by decide +kernel) (by decide +kernel)
set_option maxRecDepth 20000 in
theorem gX3_is_X3_isNot : GoodIn wsX3_is (wsV RX3 121 RX3 yX3_isNot wsX3_isNot) := goodIn_app (goodIn_of _ (by decide +kernel)) ggX3_is_X3_isNot
theorem dX3_is_0 : decode cX3_is 0 = .ok (.aload_n 0, 1) := by decide +kernel
theorem dX3_is_1 : decode cX3_is 1 = .ok (.iconst 0, 1) := by decide +kernel
theorem dX3_is_2 : decode cX3_is 2 = .ok (.putfield 31, 3) := by decide +kernel
theorem dX3_is_5 : decode cX3_is 5 = .ok (.aload_n 0, 1) := by decide +kernel
theorem dX3_is_6 : decode cX3_is 6 = .ok (.iload_n 1, 1) := by decide +kernel
theorem dX3_is_7 : decode cX3_is 7 = .ok (.invokevirtual 96, 3) := by decide +kernel
theorem dX3_is_10 : decode cX3_is 10 = .ok (.ifCond .eq 24, 3) := by decide +kernel
theorem dX3_is_13 : decode cX3_is 13 = .ok (.aload_n 0, 1) := by decide +kernel
theorem dX3_is_14 : decode cX3_is 14 = .ok (.getfield 25, 3) := by decide +kernel
theorem dX3_is_17 : decode cX3_is 17 = .ok (.bipush 13, 2) := by decide +kernel
theorem dX3_is_19 : decode cX3_is 19 = .ok (.iload_n 1, 1) := by decide +kernel
theorem dX3_is_20 : decode cX3_is 20 = .ok (.iadd, 1) := by decide +kernel
theorem dX3_is_21 : decode cX3_is 21 = .ok (.iaload, 1) := by decide +kernel
theorem dX3_is_22 : decode cX3_is 22 = .ok (.iload_n 2, 1) := by decide +kernel
theorem dX3_is_23 : decode cX3_is 23 = .ok (.if_icmp .ne 7, 3) := by decide +kernel
theorem dX3_is_26 : decode cX3_is 26 = .ok (.iconst 1, 1) := by decide +kernel
theorem dX3_is_27 : decode cX3_is 27 = .ok (.goto 12, 3) := by decide +kernel
theorem dX3_is_30 : decode cX3_is 30 = .ok (.iconst 0, 1) := by decide +kernel
theorem dX3_is_31 : decode cX3_is 31 = .ok (.goto 8, 3) := by decide +kernel
theorem dX3_is_34 : decode cX3_is 34 = .ok (.aload_n 0, 1) := by decide +kernel
theorem dX3_is_35 : decode cX3_is 35 = .ok (.iconst 1, 1) := by decide +kernel
theorem dX3_is_36 : decode cX3_is 36 = .ok (.invokevirtual 121, 3) := by decide +kernel
theorem dX3_is_39 : decode cX3_is 39 = .ok (.ireturn, 1) := by decide +kernel
set_option maxRecDepth 20000 in
theorem ggX3_isShipped_X3_is : GoodIn wsX3_isShipped wsX3_is := goodIn_r _ [5, 6, 7, 8, 9, 10, 4, 11, 12, 13, 14, 15, 16, 17, 18, 19, 20, 21, 22, 23, 24, 25, 26, 27, 28, 29, 30, 31] (by decide +kernel) (by decide +kernel)
set_option maxRecDepth 20000 in
theorem gX3_isShipped_X3_is : GoodIn wsX3_isShipped (wsV RX3 124 RX3 yX3_is wsX3_is) := goodIn_app (goodIn_of _ (by decide +kernel)) ggX3_isShipped_X3_is
theorem dX3_isShipped_0 : decode cX3_isShipped 0 = .ok (.aload_n 0, 1) := by decide +kernel
theorem dX3_isShipped_1 : decode cX3_isShipped 1 = .ok (.iload_n 1, 1) := by decide +kernel
theorem dX3_isShipped_2 : decode cX3_isShipped 2 = .ok (.iconst 1, 1) := by decide +kernel
theorem dX3_isShipped_3 : decode cX3_isShipped 3 = .ok (.invokevirtual 124, 3) := by decide +kernel
theorem dX3_isShipped_6 : decode cX3_isShipped 6 = .ok (.ireturn, 1) := by decide +kernel
set_option maxRecDepth 20000 in
theorem ggX3_isLost_X3_is : GoodIn wsX3_isLost wsX3_is := goodIn_r _ [5, 6, 7, 8, 9, 10, 4, 11, 12, 13, 14, 15, 16, 17, 18, 19, 20, 21, 22, 23, 24, 25, 26, 27, 28, 29, 30, 31] (by decide +kernel) (by decide +kernel)
set_option maxRecDepth 20000 in
theorem gX3_isLost_X3_is : GoodIn wsX3_isLost (wsV RX3 124 RX3 yX3_is wsX3_is) := goodIn_app (goodIn_of _ (by decide +kernel)) ggX3_isLost_X3_is
theorem dX3_isLost_0 : decode cX3_isLost 0 = .ok (.aload_n 0, 1) := by decide +kernel
theorem dX3_isLost_1 : decode cX3_isLost 1 = .ok (.iload_n 1, 1) := by decide +kernel
theorem dX3_isLost_2 : decode cX3_isLost 2 = .ok (.iconst 2, 1) := by decide +kernel
theorem dX3_isLost_3 : decode cX3_isLost 3 = .ok (.invokevirtual 124, 3) := by decide +kernel
theorem dX3_isLost_6 : decode cX3_isLost 6 = .ok (.ireturn, 1) := by decide +kernel
set_option maxRecDepth 20000 in
theorem ggX3_swelledOf_X3_isBatch : GoodIn wsX3_swelledOf wsX3_isBatch := goodIn_r _ [7, 8, 9, 10, 6, 11, 16, 17, 18, 19, 20, 21, 22, 23, 24, 25, 26, 27] (by decide +kernel) (by decide +kernel)
set_option maxRecDepth 20000 in
theorem gX3_swelledOf_X3_isBatch : GoodIn wsX3_swelledOf (wsV RX3 90 RX3 yX3_isBatch wsX3_isBatch) := goodIn_app (goodIn_of _ (by decide +kernel)) ggX3_swelledOf_X3_isBatch
set_option maxRecDepth 20000 in
theorem ggX3_swelledOf_X3_no : GoodIn wsX3_swelledOf wsX3_no := goodIn_r _ [15, 1, 16, 17, 18, 19, 20, 21, 22, 23, 24, 25, 26, 27] (by decide +kernel) (by decide +kernel)
set_option maxRecDepth 20000 in
theorem gX3_swelledOf_X3_no : GoodIn wsX3_swelledOf (wsV RX3 87 RX3 yX3_no wsX3_no) := goodIn_app (goodIn_of _ (by decide +kernel)) ggX3_swelledOf_X3_no
theorem dX3_swelledOf_0 : decode cX3_swelledOf 0 = .ok (.aload_n 0, 1) := by decide +kernel
theorem dX3_swelledOf_1 : decode cX3_swelledOf 1 = .ok (.iconst 0, 1) := by decide +kernel
theorem dX3_swelledOf_2 : decode cX3_swelledOf 2 = .ok (.putfield 31, 3) := by decide +kernel
theorem dX3_swelledOf_5 : decode cX3_swelledOf 5 = .ok (.aload_n 0, 1) := by decide +kernel
theorem dX3_swelledOf_6 : decode cX3_swelledOf 6 = .ok (.iload_n 1, 1) := by decide +kernel
theorem dX3_swelledOf_7 : decode cX3_swelledOf 7 = .ok (.invokevirtual 90, 3) := by decide +kernel
theorem dX3_swelledOf_10 : decode cX3_swelledOf 10 = .ok (.ifCond .eq 14, 3) := by decide +kernel
theorem dX3_swelledOf_13 : decode cX3_swelledOf 13 = .ok (.aload_n 0, 1) := by decide +kernel
theorem dX3_swelledOf_14 : decode cX3_swelledOf 14 = .ok (.getfield 25, 3) := by decide +kernel
theorem dX3_swelledOf_17 : decode cX3_swelledOf 17 = .ok (.iconst 1, 1) := by decide +kernel
theorem dX3_swelledOf_18 : decode cX3_swelledOf 18 = .ok (.iload_n 1, 1) := by decide +kernel
theorem dX3_swelledOf_19 : decode cX3_swelledOf 19 = .ok (.iadd, 1) := by decide +kernel
theorem dX3_swelledOf_20 : decode cX3_swelledOf 20 = .ok (.iaload, 1) := by decide +kernel
theorem dX3_swelledOf_21 : decode cX3_swelledOf 21 = .ok (.goto 8, 3) := by decide +kernel
theorem dX3_swelledOf_24 : decode cX3_swelledOf 24 = .ok (.aload_n 0, 1) := by decide +kernel
theorem dX3_swelledOf_25 : decode cX3_swelledOf 25 = .ok (.iconst 1, 1) := by decide +kernel
theorem dX3_swelledOf_26 : decode cX3_swelledOf 26 = .ok (.invokevirtual 87, 3) := by decide +kernel
theorem dX3_swelledOf_29 : decode cX3_swelledOf 29 = .ok (.ireturn, 1) := by decide +kernel
set_option maxRecDepth 20000 in
theorem ggX3_left_X3_isHere : GoodIn wsX3_left wsX3_isHere := goodIn_r _ [7, 8, 9, 10, 11, 12, 13, 14, 15, 16, 17, 18, 19, 20] (by decide +kernel) (by decide +kernel)
set_option maxRecDepth 20000 in
theorem gX3_left_X3_isHere : GoodIn wsX3_left (wsV RX3 51 RX3 yX3_isHere wsX3_isHere) := goodIn_app (goodIn_of _ (by decide +kernel)) ggX3_left_X3_isHere
theorem dX3_left_0 : decode cX3_left 0 = .ok (.iconst 0, 1) := by decide +kernel
theorem dX3_left_1 : decode cX3_left 1 = .ok (.istore_n 2, 1) := by decide +kernel
theorem dX3_left_2 : decode cX3_left 2 = .ok (.iconst 0, 1) := by decide +kernel
theorem dX3_left_3 : decode cX3_left 3 = .ok (.istore_n 3, 1) := by decide +kernel
theorem dX3_left_4 : decode cX3_left 4 = .ok (.iload_n 3, 1) := by decide +kernel
theorem dX3_left_5 : decode cX3_left 5 = .ok (.aload_n 0, 1) := by decide +kernel
theorem dX3_left_6 : decode cX3_left 6 = .ok (.getfield 42, 3) := by decide +kernel
theorem dX3_left_9 : decode cX3_left 9 = .ok (.if_icmp .ge 35, 3) := by decide +kernel
theorem dX3_left_12 : decode cX3_left 12 = .ok (.iload_n 2, 1) := by decide +kernel
theorem dX3_left_13 : decode cX3_left 13 = .ok (.aload_n 0, 1) := by decide +kernel
theorem dX3_left_14 : decode cX3_left 14 = .ok (.iload_n 3, 1) := by decide +kernel
theorem dX3_left_15 : decode cX3_left 15 = .ok (.invokevirtual 51, 3) := by decide +kernel
theorem dX3_left_18 : decode cX3_left 18 = .ok (.ifCond .eq 17, 3) := by decide +kernel
theorem dX3_left_21 : decode cX3_left 21 = .ok (.aload_n 0, 1) := by decide +kernel
theorem dX3_left_22 : decode cX3_left 22 = .ok (.getfield 19, 3) := by decide +kernel
theorem dX3_left_25 : decode cX3_left 25 = .ok (.iload_n 3, 1) := by decide +kernel
theorem dX3_left_26 : decode cX3_left 26 = .ok (.iaload, 1) := by decide +kernel
theorem dX3_left_27 : decode cX3_left 27 = .ok (.iload_n 1, 1) := by decide +kernel
theorem dX3_left_28 : decode cX3_left 28 = .ok (.if_icmp .ne 7, 3) := by decide +kernel
theorem dX3_left_31 : decode cX3_left 31 = .ok (.iconst 1, 1) := by decide +kernel
theorem dX3_left_32 : decode cX3_left 32 = .ok (.goto 4, 3) := by decide +kernel
theorem dX3_left_35 : decode cX3_left 35 = .ok (.iconst 0, 1) := by decide +kernel
theorem dX3_left_36 : decode cX3_left 36 = .ok (.iadd, 1) := by decide +kernel
theorem dX3_left_37 : decode cX3_left 37 = .ok (.istore_n 2, 1) := by decide +kernel
theorem dX3_left_38 : decode cX3_left 38 = .ok (.iinc 3 1, 3) := by decide +kernel
theorem dX3_left_41 : decode cX3_left 41 = .ok (.goto (-37), 3) := by decide +kernel
theorem dX3_left_44 : decode cX3_left 44 = .ok (.iload_n 2, 1) := by decide +kernel
theorem dX3_left_45 : decode cX3_left 45 = .ok (.ireturn, 1) := by decide +kernel
set_option maxRecDepth 20000 in
theorem ggX3_leftOf_X3_isBatch : GoodIn wsX3_leftOf wsX3_isBatch := goodIn_r _ [6, 7, 8, 9, 5, 10, 26, 27, 28, 29, 30, 31, 32, 33, 34, 35, 36, 37] (by decide +kernel) (by decide +kernel)
set_option maxRecDepth 20000 in
theorem gX3_leftOf_X3_isBatch : GoodIn wsX3_leftOf (wsV RX3 90 RX3 yX3_isBatch wsX3_isBatch) := goodIn_app (goodIn_of _ (by decide +kernel)) ggX3_leftOf_X3_isBatch
set_option maxRecDepth 20000 in
theorem ggX3_leftOf_X3_left : GoodIn wsX3_leftOf wsX3_left := goodIn_r _ [14, 15, 16, 17, 18, 19, 5, 20, 21, 26, 27, 28, 29, 30, 31, 32, 33, 34, 35, 36, 37] (by decide +kernel) (by decide +kernel)
set_option maxRecDepth 20000 in
theorem gX3_leftOf_X3_left : GoodIn wsX3_leftOf (wsV RX3 128 RX3 yX3_left wsX3_left) := goodIn_app (goodIn_of _ (by decide +kernel)) ggX3_leftOf_X3_left
set_option maxRecDepth 20000 in
theorem ggX3_leftOf_X3_no : GoodIn wsX3_leftOf wsX3_no := goodIn_r _ [25, 1, 26, 27, 28, 29, 30, 31, 32, 33, 34, 35, 36, 37] (by decide +kernel) (by decide +kernel)
set_option maxRecDepth 20000 in
theorem gX3_leftOf_X3_no : GoodIn wsX3_leftOf (wsV RX3 87 RX3 yX3_no wsX3_no) := goodIn_app (goodIn_of _ (by decide +kernel)) ggX3_leftOf_X3_no
theorem dX3_leftOf_0 : decode cX3_leftOf 0 = .ok (.aload_n 0, 1) := by decide +kernel
theorem dX3_leftOf_1 : decode cX3_leftOf 1 = .ok (.iconst 0, 1) := by decide +kernel
theorem dX3_leftOf_2 : decode cX3_leftOf 2 = .ok (.putfield 31, 3) := by decide +kernel
theorem dX3_leftOf_5 : decode cX3_leftOf 5 = .ok (.aload_n 0, 1) := by decide +kernel
theorem dX3_leftOf_6 : decode cX3_leftOf 6 = .ok (.iload_n 1, 1) := by decide +kernel
theorem dX3_leftOf_7 : decode cX3_leftOf 7 = .ok (.invokevirtual 90, 3) := by decide +kernel
theorem dX3_leftOf_10 : decode cX3_leftOf 10 = .ok (.ifCond .eq 11, 3) := by decide +kernel
theorem dX3_leftOf_13 : decode cX3_leftOf 13 = .ok (.aload_n 0, 1) := by decide +kernel
theorem dX3_leftOf_14 : decode cX3_leftOf 14 = .ok (.iload_n 1, 1) := by decide +kernel
theorem dX3_leftOf_15 : decode cX3_leftOf 15 = .ok (.invokevirtual 128, 3) := by decide +kernel
theorem dX3_leftOf_18 : decode cX3_leftOf 18 = .ok (.goto 8, 3) := by decide +kernel
theorem dX3_leftOf_21 : decode cX3_leftOf 21 = .ok (.aload_n 0, 1) := by decide +kernel
theorem dX3_leftOf_22 : decode cX3_leftOf 22 = .ok (.iconst 1, 1) := by decide +kernel
theorem dX3_leftOf_23 : decode cX3_leftOf 23 = .ok (.invokevirtual 87, 3) := by decide +kernel
theorem dX3_leftOf_26 : decode cX3_leftOf 26 = .ok (.ireturn, 1) := by decide +kernel
set_option maxRecDepth 20000 in
theorem ggX3_isRecalled_X3_isBatch : GoodIn wsX3_isRecalled wsX3_isBatch := goodIn_r _ [7, 8, 9, 10, 6, 11, 16, 17, 18, 19, 20, 21, 22, 23, 24, 25, 26, 27] (by decide +kernel) (by decide +kernel)
set_option maxRecDepth 20000 in
theorem gX3_isRecalled_X3_isBatch : GoodIn wsX3_isRecalled (wsV RX3 90 RX3 yX3_isBatch wsX3_isBatch) := goodIn_app (goodIn_of _ (by decide +kernel)) ggX3_isRecalled_X3_isBatch
set_option maxRecDepth 20000 in
theorem ggX3_isRecalled_X3_isNot : GoodIn wsX3_isRecalled wsX3_isNot := goodIn_r _ [15, 1, 16, 17, 18, 19, 20, 21, 22, 23, 24, 25, 26, 27] (by decide +kernel) (by decide +kernel)
set_option maxRecDepth 20000 in
theorem gX3_isRecalled_X3_isNot : GoodIn wsX3_isRecalled (wsV RX3 121 RX3 yX3_isNot wsX3_isNot) := goodIn_app (goodIn_of _ (by decide +kernel)) ggX3_isRecalled_X3_isNot
theorem dX3_isRecalled_0 : decode cX3_isRecalled 0 = .ok (.aload_n 0, 1) := by decide +kernel
theorem dX3_isRecalled_1 : decode cX3_isRecalled 1 = .ok (.iconst 0, 1) := by decide +kernel
theorem dX3_isRecalled_2 : decode cX3_isRecalled 2 = .ok (.putfield 31, 3) := by decide +kernel
theorem dX3_isRecalled_5 : decode cX3_isRecalled 5 = .ok (.aload_n 0, 1) := by decide +kernel
theorem dX3_isRecalled_6 : decode cX3_isRecalled 6 = .ok (.iload_n 1, 1) := by decide +kernel
theorem dX3_isRecalled_7 : decode cX3_isRecalled 7 = .ok (.invokevirtual 90, 3) := by decide +kernel
theorem dX3_isRecalled_10 : decode cX3_isRecalled 10 = .ok (.ifCond .eq 24, 3) := by decide +kernel
theorem dX3_isRecalled_13 : decode cX3_isRecalled 13 = .ok (.aload_n 0, 1) := by decide +kernel
theorem dX3_isRecalled_14 : decode cX3_isRecalled 14 = .ok (.getfield 25, 3) := by decide +kernel
theorem dX3_isRecalled_17 : decode cX3_isRecalled 17 = .ok (.bipush 7, 2) := by decide +kernel
theorem dX3_isRecalled_19 : decode cX3_isRecalled 19 = .ok (.iload_n 1, 1) := by decide +kernel
theorem dX3_isRecalled_20 : decode cX3_isRecalled 20 = .ok (.iadd, 1) := by decide +kernel
theorem dX3_isRecalled_21 : decode cX3_isRecalled 21 = .ok (.iaload, 1) := by decide +kernel
theorem dX3_isRecalled_22 : decode cX3_isRecalled 22 = .ok (.iconst 1, 1) := by decide +kernel
theorem dX3_isRecalled_23 : decode cX3_isRecalled 23 = .ok (.if_icmp .ne 7, 3) := by decide +kernel
theorem dX3_isRecalled_26 : decode cX3_isRecalled 26 = .ok (.iconst 1, 1) := by decide +kernel
theorem dX3_isRecalled_27 : decode cX3_isRecalled 27 = .ok (.goto 12, 3) := by decide +kernel
theorem dX3_isRecalled_30 : decode cX3_isRecalled 30 = .ok (.iconst 0, 1) := by decide +kernel
theorem dX3_isRecalled_31 : decode cX3_isRecalled 31 = .ok (.goto 8, 3) := by decide +kernel
theorem dX3_isRecalled_34 : decode cX3_isRecalled 34 = .ok (.aload_n 0, 1) := by decide +kernel
theorem dX3_isRecalled_35 : decode cX3_isRecalled 35 = .ok (.iconst 1, 1) := by decide +kernel
theorem dX3_isRecalled_36 : decode cX3_isRecalled 36 = .ok (.invokevirtual 121, 3) := by decide +kernel
theorem dX3_isRecalled_39 : decode cX3_isRecalled 39 = .ok (.ireturn, 1) := by decide +kernel
set_option maxRecDepth 20000 in
theorem ggX3_first_X3_isOrder : GoodIn wsX3_first wsX3_isOrder := goodIn_r _ [5, 6, 7, 4, 8] (by decide +kernel) (by decide +kernel)
set_option maxRecDepth 20000 in
theorem gX3_first_X3_isOrder : GoodIn wsX3_first (va_wsS RX3 99 yX3_isOrder wsX3_isOrder) := goodIn_app (goodIn_of _ (by decide +kernel)) ggX3_first_X3_isOrder
set_option maxRecDepth 20000 in
theorem ggX3_first_X3_firstBy : GoodIn wsX3_first wsX3_firstBy := goodIn_r _ [12, 13, 14, 15, 16, 4, 17, 18, 19, 20, 21, 22, 23, 24, 29, 30, 31, 32, 33, 34, 35, 36, 37, 38, 39, 40] (by decide +kernel) (by decide +kernel)
set_option maxRecDepth 20000 in
theorem gX3_first_X3_firstBy : GoodIn wsX3_first (wsV RX3 81 RX3 yX3_firstBy wsX3_firstBy) := goodIn_app (goodIn_of _ (by decide +kernel)) ggX3_first_X3_firstBy
set_option maxRecDepth 20000 in
theorem ggX3_first_X3_no : GoodIn wsX3_first wsX3_no := goodIn_r _ [28, 1, 29, 30, 31, 32, 33, 34, 35, 36, 37, 38, 39, 40] (by decide +kernel) (by decide +kernel)
set_option maxRecDepth 20000 in
theorem gX3_first_X3_no : GoodIn wsX3_first (wsV RX3 87 RX3 yX3_no wsX3_no) := goodIn_app (goodIn_of _ (by decide +kernel)) ggX3_first_X3_no
theorem dX3_first_0 : decode cX3_first 0 = .ok (.aload_n 0, 1) := by decide +kernel
theorem dX3_first_1 : decode cX3_first 1 = .ok (.iconst 0, 1) := by decide +kernel
theorem dX3_first_2 : decode cX3_first 2 = .ok (.putfield 31, 3) := by decide +kernel
theorem dX3_first_5 : decode cX3_first 5 = .ok (.iload_n 1, 1) := by decide +kernel
theorem dX3_first_6 : decode cX3_first 6 = .ok (.invokestatic 99, 3) := by decide +kernel
theorem dX3_first_9 : decode cX3_first 9 = .ok (.ifCond .eq 11, 3) := by decide +kernel
theorem dX3_first_12 : decode cX3_first 12 = .ok (.aload_n 0, 1) := by decide +kernel
theorem dX3_first_13 : decode cX3_first 13 = .ok (.iload_n 1, 1) := by decide +kernel
theorem dX3_first_14 : decode cX3_first 14 = .ok (.invokevirtual 81, 3) := by decide +kernel
theorem dX3_first_17 : decode cX3_first 17 = .ok (.goto 8, 3) := by decide +kernel
theorem dX3_first_20 : decode cX3_first 20 = .ok (.aload_n 0, 1) := by decide +kernel
theorem dX3_first_21 : decode cX3_first 21 = .ok (.iconst 1, 1) := by decide +kernel
theorem dX3_first_22 : decode cX3_first 22 = .ok (.invokevirtual 87, 3) := by decide +kernel
theorem dX3_first_25 : decode cX3_first 25 = .ok (.ireturn, 1) := by decide +kernel
set_option maxRecDepth 20000 in
theorem ggX3_ahead_X3_isHere : GoodIn wsX3_ahead wsX3_isHere := goodIn_r _ [6, 7, 14, 15, 16, 17, 18, 19, 20, 21, 22, 23, 24, 25] (by decide +kernel) (by decide +kernel)
set_option maxRecDepth 20000 in
theorem gX3_ahead_X3_isHere : GoodIn wsX3_ahead (wsV RX3 51 RX3 yX3_isHere wsX3_isHere) := goodIn_app (goodIn_of _ (by decide +kernel)) ggX3_ahead_X3_isHere
set_option maxRecDepth 20000 in
theorem ggX3_ahead_X3_key : GoodIn wsX3_ahead wsX3_key := goodIn_r _ [11, 7, 12, 13, 14, 15, 16, 17, 18, 19, 20, 21, 22, 23, 24, 25] (by decide +kernel) (by decide +kernel)
set_option maxRecDepth 20000 in
theorem gX3_ahead_X3_key : GoodIn wsX3_ahead (wsV RX3 55 RX3 yX3_key wsX3_key) := goodIn_app (goodIn_of _ (by decide +kernel)) ggX3_ahead_X3_key
theorem dX3_ahead_0 : decode cX3_ahead 0 = .ok (.aload_n 0, 1) := by decide +kernel
theorem dX3_ahead_1 : decode cX3_ahead 1 = .ok (.iload_n 1, 1) := by decide +kernel
theorem dX3_ahead_2 : decode cX3_ahead 2 = .ok (.invokevirtual 51, 3) := by decide +kernel
theorem dX3_ahead_5 : decode cX3_ahead 5 = .ok (.ifCond .ne 5, 3) := by decide +kernel
theorem dX3_ahead_8 : decode cX3_ahead 8 = .ok (.iconst (-1), 1) := by decide +kernel
theorem dX3_ahead_9 : decode cX3_ahead 9 = .ok (.ireturn, 1) := by decide +kernel
theorem dX3_ahead_10 : decode cX3_ahead 10 = .ok (.iconst 0, 1) := by decide +kernel
theorem dX3_ahead_11 : decode cX3_ahead 11 = .ok (.istore_n 3, 1) := by decide +kernel
theorem dX3_ahead_12 : decode cX3_ahead 12 = .ok (.iconst 0, 1) := by decide +kernel
theorem dX3_ahead_13 : decode cX3_ahead 13 = .ok (.istore 4, 2) := by decide +kernel
theorem dX3_ahead_15 : decode cX3_ahead 15 = .ok (.iload 4, 2) := by decide +kernel
theorem dX3_ahead_17 : decode cX3_ahead 17 = .ok (.aload_n 0, 1) := by decide +kernel
theorem dX3_ahead_18 : decode cX3_ahead 18 = .ok (.getfield 42, 3) := by decide +kernel
theorem dX3_ahead_21 : decode cX3_ahead 21 = .ok (.if_icmp .ge 42, 3) := by decide +kernel
theorem dX3_ahead_24 : decode cX3_ahead 24 = .ok (.iload_n 3, 1) := by decide +kernel
theorem dX3_ahead_25 : decode cX3_ahead 25 = .ok (.aload_n 0, 1) := by decide +kernel
theorem dX3_ahead_26 : decode cX3_ahead 26 = .ok (.iload 4, 2) := by decide +kernel
theorem dX3_ahead_28 : decode cX3_ahead 28 = .ok (.invokevirtual 51, 3) := by decide +kernel
theorem dX3_ahead_31 : decode cX3_ahead 31 = .ok (.ifCond .eq 23, 3) := by decide +kernel
theorem dX3_ahead_34 : decode cX3_ahead 34 = .ok (.aload_n 0, 1) := by decide +kernel
theorem dX3_ahead_35 : decode cX3_ahead 35 = .ok (.iload 4, 2) := by decide +kernel
theorem dX3_ahead_37 : decode cX3_ahead 37 = .ok (.iload_n 2, 1) := by decide +kernel
theorem dX3_ahead_38 : decode cX3_ahead 38 = .ok (.invokevirtual 55, 3) := by decide +kernel
theorem dX3_ahead_41 : decode cX3_ahead 41 = .ok (.aload_n 0, 1) := by decide +kernel
theorem dX3_ahead_42 : decode cX3_ahead 42 = .ok (.iload_n 1, 1) := by decide +kernel
theorem dX3_ahead_43 : decode cX3_ahead 43 = .ok (.iload_n 2, 1) := by decide +kernel
theorem dX3_ahead_44 : decode cX3_ahead 44 = .ok (.invokevirtual 55, 3) := by decide +kernel
theorem dX3_ahead_47 : decode cX3_ahead 47 = .ok (.if_icmp .ge 7, 3) := by decide +kernel
theorem dX3_ahead_50 : decode cX3_ahead 50 = .ok (.iconst 1, 1) := by decide +kernel
theorem dX3_ahead_51 : decode cX3_ahead 51 = .ok (.goto 4, 3) := by decide +kernel
theorem dX3_ahead_54 : decode cX3_ahead 54 = .ok (.iconst 0, 1) := by decide +kernel
theorem dX3_ahead_55 : decode cX3_ahead 55 = .ok (.iadd, 1) := by decide +kernel
theorem dX3_ahead_56 : decode cX3_ahead 56 = .ok (.istore_n 3, 1) := by decide +kernel
theorem dX3_ahead_57 : decode cX3_ahead 57 = .ok (.iinc 4 1, 3) := by decide +kernel
theorem dX3_ahead_60 : decode cX3_ahead 60 = .ok (.goto (-45), 3) := by decide +kernel
theorem dX3_ahead_63 : decode cX3_ahead 63 = .ok (.iload_n 3, 1) := by decide +kernel
theorem dX3_ahead_64 : decode cX3_ahead 64 = .ok (.ireturn, 1) := by decide +kernel
set_option maxRecDepth 20000 in
theorem ggX3_placeBy_X3_isTin : GoodIn wsX3_placeBy wsX3_isTin := goodIn_r _ [6, 7, 8, 9, 5, 10, 33, 34, 35, 36, 37, 38, 39, 40, 41, 42, 43, 44] (by decide +kernel) (by decide +kernel)
set_option maxRecDepth 20000 in
theorem gX3_placeBy_X3_isTin : GoodIn wsX3_placeBy (wsV RX3 96 RX3 yX3_isTin wsX3_isTin) := goodIn_app (goodIn_of _ (by decide +kernel)) ggX3_placeBy_X3_isTin
set_option maxRecDepth 20000 in
theorem ggX3_placeBy_X3_no : GoodIn wsX3_placeBy wsX3_no := goodIn_r _ [14, 1, 33, 34, 35, 36, 37, 38, 39, 40, 41, 42, 43, 44] (by decide +kernel) (by decide +kernel)
set_option maxRecDepth 20000 in
theorem gX3_placeBy_X3_no : GoodIn wsX3_placeBy (wsV RX3 87 RX3 yX3_no wsX3_no) := goodIn_app (goodIn_of _ (by decide +kernel)) ggX3_placeBy_X3_no
set_option maxRecDepth 20000 in
theorem ggX3_placeBy_X3_isOrder : GoodIn wsX3_placeBy wsX3_isOrder := goodIn_r _ [17, 8, 9, 5, 10] (by decide +kernel) (by decide +kernel)
set_option maxRecDepth 20000 in
theorem gX3_placeBy_X3_isOrder : GoodIn wsX3_placeBy (va_wsS RX3 99 yX3_isOrder wsX3_isOrder) := goodIn_app (goodIn_of _ (by decide +kernel)) ggX3_placeBy_X3_isOrder
set_option maxRecDepth 20000 in
theorem ggX3_placeBy_X3_ahead : GoodIn wsX3_placeBy wsX3_ahead := goodIn_r _ [21, 7, 22, 23, 24, 5, 25, 26, 27, 28, 29, 30, 31, 32, 33, 34, 35, 36, 37, 38, 39, 40, 41, 42, 43, 44] (by decide +kernel) (by decide +kernel)
set_option maxRecDepth 20000 in
theorem gX3_placeBy_X3_ahead : GoodIn wsX3_placeBy (wsV RX3 131 RX3 yX3_ahead wsX3_ahead) := goodIn_app (goodIn_of _ (by decide +kernel)) ggX3_placeBy_X3_ahead
theorem dX3_placeBy_0 : decode cX3_placeBy 0 = .ok (.aload_n 0, 1) := by decide +kernel
theorem dX3_placeBy_1 : decode cX3_placeBy 1 = .ok (.iconst 0, 1) := by decide +kernel
theorem dX3_placeBy_2 : decode cX3_placeBy 2 = .ok (.putfield 31, 3) := by decide +kernel
theorem dX3_placeBy_5 : decode cX3_placeBy 5 = .ok (.aload_n 0, 1) := by decide +kernel
theorem dX3_placeBy_6 : decode cX3_placeBy 6 = .ok (.iload_n 1, 1) := by decide +kernel
theorem dX3_placeBy_7 : decode cX3_placeBy 7 = .ok (.invokevirtual 96, 3) := by decide +kernel
theorem dX3_placeBy_10 : decode cX3_placeBy 10 = .ok (.ifCond .ne 9, 3) := by decide +kernel
theorem dX3_placeBy_13 : decode cX3_placeBy 13 = .ok (.aload_n 0, 1) := by decide +kernel
theorem dX3_placeBy_14 : decode cX3_placeBy 14 = .ok (.iconst 1, 1) := by decide +kernel
theorem dX3_placeBy_15 : decode cX3_placeBy 15 = .ok (.invokevirtual 87, 3) := by decide +kernel
theorem dX3_placeBy_18 : decode cX3_placeBy 18 = .ok (.ireturn, 1) := by decide +kernel
theorem dX3_placeBy_19 : decode cX3_placeBy 19 = .ok (.iload_n 2, 1) := by decide +kernel
theorem dX3_placeBy_20 : decode cX3_placeBy 20 = .ok (.invokestatic 99, 3) := by decide +kernel
theorem dX3_placeBy_23 : decode cX3_placeBy 23 = .ok (.ifCond .eq 12, 3) := by decide +kernel
theorem dX3_placeBy_26 : decode cX3_placeBy 26 = .ok (.aload_n 0, 1) := by decide +kernel
theorem dX3_placeBy_27 : decode cX3_placeBy 27 = .ok (.iload_n 1, 1) := by decide +kernel
theorem dX3_placeBy_28 : decode cX3_placeBy 28 = .ok (.iload_n 2, 1) := by decide +kernel
theorem dX3_placeBy_29 : decode cX3_placeBy 29 = .ok (.invokevirtual 131, 3) := by decide +kernel
theorem dX3_placeBy_32 : decode cX3_placeBy 32 = .ok (.goto 8, 3) := by decide +kernel
theorem dX3_placeBy_35 : decode cX3_placeBy 35 = .ok (.aload_n 0, 1) := by decide +kernel
theorem dX3_placeBy_36 : decode cX3_placeBy 36 = .ok (.iconst 2, 1) := by decide +kernel
theorem dX3_placeBy_37 : decode cX3_placeBy 37 = .ok (.invokevirtual 87, 3) := by decide +kernel
theorem dX3_placeBy_40 : decode cX3_placeBy 40 = .ok (.ireturn, 1) := by decide +kernel
set_option maxRecDepth 20000 in
theorem ggX3_until_X3_rate : GoodIn wsX3_until wsX3_rate := goodIn_r _ [6, 7, 8, 9, 10, 11, 12, 13, 14, 15, 16, 17, 18, 19, 20, 21] (by decide +kernel) (by decide +kernel)
set_option maxRecDepth 20000 in
theorem gX3_until_X3_rate : GoodIn wsX3_until (wsV RX3 59 RX3 yX3_rate wsX3_rate) := goodIn_app (goodIn_of _ (by decide +kernel)) ggX3_until_X3_rate
theorem dX3_until_0 : decode cX3_until 0 = .ok (.aload_n 0, 1) := by decide +kernel
theorem dX3_until_1 : decode cX3_until 1 = .ok (.iload_n 1, 1) := by decide +kernel
theorem dX3_until_2 : decode cX3_until 2 = .ok (.iload_n 2, 1) := by decide +kernel
theorem dX3_until_3 : decode cX3_until 3 = .ok (.invokevirtual 59, 3) := by decide +kernel
theorem dX3_until_6 : decode cX3_until 6 = .ok (.istore_n 3, 1) := by decide +kernel
theorem dX3_until_7 : decode cX3_until 7 = .ok (.iload_n 3, 1) := by decide +kernel
theorem dX3_until_8 : decode cX3_until 8 = .ok (.ifCond .ne 7, 3) := by decide +kernel
theorem dX3_until_11 : decode cX3_until 11 = .ok (.iconst (-1), 1) := by decide +kernel
theorem dX3_until_12 : decode cX3_until 12 = .ok (.goto 18, 3) := by decide +kernel
theorem dX3_until_15 : decode cX3_until 15 = .ok (.aload_n 0, 1) := by decide +kernel
theorem dX3_until_16 : decode cX3_until 16 = .ok (.getfield 25, 3) := by decide +kernel
theorem dX3_until_19 : decode cX3_until 19 = .ok (.bipush 73, 2) := by decide +kernel
theorem dX3_until_21 : decode cX3_until 21 = .ok (.iload_n 1, 1) := by decide +kernel
theorem dX3_until_22 : decode cX3_until 22 = .ok (.iadd, 1) := by decide +kernel
theorem dX3_until_23 : decode cX3_until 23 = .ok (.iaload, 1) := by decide +kernel
theorem dX3_until_24 : decode cX3_until 24 = .ok (.iload_n 3, 1) := by decide +kernel
theorem dX3_until_25 : decode cX3_until 25 = .ok (.iadd, 1) := by decide +kernel
theorem dX3_until_26 : decode cX3_until 26 = .ok (.iconst 1, 1) := by decide +kernel
theorem dX3_until_27 : decode cX3_until 27 = .ok (.isub, 1) := by decide +kernel
theorem dX3_until_28 : decode cX3_until 28 = .ok (.iload_n 3, 1) := by decide +kernel
theorem dX3_until_29 : decode cX3_until 29 = .ok (.idiv, 1) := by decide +kernel
theorem dX3_until_30 : decode cX3_until 30 = .ok (.ireturn, 1) := by decide +kernel
set_option maxRecDepth 20000 in
theorem ggX3_daysOf_X3_isTin : GoodIn wsX3_daysOf wsX3_isTin := goodIn_r _ [7, 8, 9, 10, 6, 11, 32, 33, 34, 35, 36, 37, 38, 39, 40, 41, 42, 43] (by decide +kernel) (by decide +kernel)
set_option maxRecDepth 20000 in
theorem gX3_daysOf_X3_isTin : GoodIn wsX3_daysOf (wsV RX3 96 RX3 yX3_isTin wsX3_isTin) := goodIn_app (goodIn_of _ (by decide +kernel)) ggX3_daysOf_X3_isTin
set_option maxRecDepth 20000 in
theorem ggX3_daysOf_X3_no : GoodIn wsX3_daysOf wsX3_no := goodIn_r _ [15, 1, 32, 33, 34, 35, 36, 37, 38, 39, 40, 41, 42, 43] (by decide +kernel) (by decide +kernel)
set_option maxRecDepth 20000 in
theorem gX3_daysOf_X3_no : GoodIn wsX3_daysOf (wsV RX3 87 RX3 yX3_no wsX3_no) := goodIn_app (goodIn_of _ (by decide +kernel)) ggX3_daysOf_X3_no
set_option maxRecDepth 20000 in
theorem ggX3_daysOf_X3_isHere : GoodIn wsX3_daysOf wsX3_isHere := goodIn_r _ [19, 20, 32, 33, 34, 35, 36, 37, 38, 39, 40, 41, 42, 43] (by decide +kernel) (by decide +kernel)
set_option maxRecDepth 20000 in
theorem gX3_daysOf_X3_isHere : GoodIn wsX3_daysOf (wsV RX3 51 RX3 yX3_isHere wsX3_isHere) := goodIn_app (goodIn_of _ (by decide +kernel)) ggX3_daysOf_X3_isHere
set_option maxRecDepth 20000 in
theorem ggX3_daysOf_X3_until : GoodIn wsX3_daysOf wsX3_until := goodIn_r _ [24, 20, 25, 26, 27, 6, 28, 29, 30, 31, 32, 33, 34, 35, 36, 37, 38, 39, 40, 41, 42, 43] (by decide +kernel) (by decide +kernel)
set_option maxRecDepth 20000 in
theorem gX3_daysOf_X3_until : GoodIn wsX3_daysOf (wsV RX3 134 RX3 yX3_until wsX3_until) := goodIn_app (goodIn_of _ (by decide +kernel)) ggX3_daysOf_X3_until
theorem dX3_daysOf_0 : decode cX3_daysOf 0 = .ok (.aload_n 0, 1) := by decide +kernel
theorem dX3_daysOf_1 : decode cX3_daysOf 1 = .ok (.iconst 0, 1) := by decide +kernel
theorem dX3_daysOf_2 : decode cX3_daysOf 2 = .ok (.putfield 31, 3) := by decide +kernel
theorem dX3_daysOf_5 : decode cX3_daysOf 5 = .ok (.aload_n 0, 1) := by decide +kernel
theorem dX3_daysOf_6 : decode cX3_daysOf 6 = .ok (.iload_n 1, 1) := by decide +kernel
theorem dX3_daysOf_7 : decode cX3_daysOf 7 = .ok (.invokevirtual 96, 3) := by decide +kernel
theorem dX3_daysOf_10 : decode cX3_daysOf 10 = .ok (.ifCond .ne 9, 3) := by decide +kernel
theorem dX3_daysOf_13 : decode cX3_daysOf 13 = .ok (.aload_n 0, 1) := by decide +kernel
theorem dX3_daysOf_14 : decode cX3_daysOf 14 = .ok (.iconst 1, 1) := by decide +kernel
theorem dX3_daysOf_15 : decode cX3_daysOf 15 = .ok (.invokevirtual 87, 3) := by decide +kernel
theorem dX3_daysOf_18 : decode cX3_daysOf 18 = .ok (.ireturn, 1) := by decide +kernel
theorem dX3_daysOf_19 : decode cX3_daysOf 19 = .ok (.aload_n 0, 1) := by decide +kernel
theorem dX3_daysOf_20 : decode cX3_daysOf 20 = .ok (.iload_n 1, 1) := by decide +kernel
theorem dX3_daysOf_21 : decode cX3_daysOf 21 = .ok (.invokevirtual 51, 3) := by decide +kernel
theorem dX3_daysOf_24 : decode cX3_daysOf 24 = .ok (.ifCond .eq 17, 3) := by decide +kernel
theorem dX3_daysOf_27 : decode cX3_daysOf 27 = .ok (.aload_n 0, 1) := by decide +kernel
theorem dX3_daysOf_28 : decode cX3_daysOf 28 = .ok (.iload_n 1, 1) := by decide +kernel
theorem dX3_daysOf_29 : decode cX3_daysOf 29 = .ok (.aload_n 0, 1) := by decide +kernel
theorem dX3_daysOf_30 : decode cX3_daysOf 30 = .ok (.getfield 22, 3) := by decide +kernel
theorem dX3_daysOf_33 : decode cX3_daysOf 33 = .ok (.iload_n 1, 1) := by decide +kernel
theorem dX3_daysOf_34 : decode cX3_daysOf 34 = .ok (.iaload, 1) := by decide +kernel
theorem dX3_daysOf_35 : decode cX3_daysOf 35 = .ok (.invokevirtual 134, 3) := by decide +kernel
theorem dX3_daysOf_38 : decode cX3_daysOf 38 = .ok (.goto 4, 3) := by decide +kernel
theorem dX3_daysOf_41 : decode cX3_daysOf 41 = .ok (.iconst (-1), 1) := by decide +kernel
theorem dX3_daysOf_42 : decode cX3_daysOf 42 = .ok (.ireturn, 1) := by decide +kernel
set_option maxRecDepth 20000 in
theorem ggX3_untilRecalled_X3_keep : GoodIn wsX3_untilRecalled wsX3_keep := goodIn_r _ [6, 1, 7, 8, 9, 10, 11, 56, 57, 58, 59, 60, 61, 62, 63, 64, 65, 66, 67] (by decide +kernel) (by decide +kernel)
set_option maxRecDepth 20000 in
theorem gX3_untilRecalled_X3_keep : GoodIn wsX3_untilRecalled (wsV RX3 137 RX3 yX3_keep wsX3_keep) := goodIn_app (goodIn_of _ (by decide +kernel)) ggX3_untilRecalled_X3_keep
set_option maxRecDepth 20000 in
theorem ggX3_untilRecalled_X3_dayOn : GoodIn wsX3_untilRecalled wsX3_dayOn := goodIn_r _ [15, 16, 17, 1, 18, 19, 20, 21, 22, 5, 23, 24, 25, 26, 27, 28, 29, 30, 31, 32, 33, 34, 35, 36, 37, 38, 39, 40, 41, 42, 43, 44, 45, 46, 47, 48, 49, 50, 51, 56, 57, 58, 59, 60, 61, 62, 63, 64, 65, 66, 67] (by decide +kernel) (by decide +kernel)
set_option maxRecDepth 20000 in
theorem gX3_untilRecalled_X3_dayOn : GoodIn wsX3_untilRecalled (wsV RX3 84 RX3 yX3_dayOn wsX3_dayOn) := goodIn_app (goodIn_of _ (by decide +kernel)) ggX3_untilRecalled_X3_dayOn
set_option maxRecDepth 20000 in
theorem ggX3_untilRecalled_X3_bringBack : GoodIn wsX3_untilRecalled wsX3_bringBack := goodIn_r _ [55, 7, 1, 8, 9, 10, 11, 56, 57, 58, 59, 60, 61, 62, 63, 64, 65, 66, 67] (by decide +kernel) (by decide +kernel)
set_option maxRecDepth 20000 in
theorem gX3_untilRecalled_X3_bringBack : GoodIn wsX3_untilRecalled (wsV RX3 140 RX3 yX3_bringBack wsX3_bringBack) := goodIn_app (goodIn_of _ (by decide +kernel)) ggX3_untilRecalled_X3_bringBack
theorem dX3_untilRecalled_0 : decode cX3_untilRecalled 0 = .ok (.aload_n 0, 1) := by decide +kernel
theorem dX3_untilRecalled_1 : decode cX3_untilRecalled 1 = .ok (.invokevirtual 137, 3) := by decide +kernel
theorem dX3_untilRecalled_4 : decode cX3_untilRecalled 4 = .ok (.iconst 0, 1) := by decide +kernel
theorem dX3_untilRecalled_5 : decode cX3_untilRecalled 5 = .ok (.istore_n 2, 1) := by decide +kernel
theorem dX3_untilRecalled_6 : decode cX3_untilRecalled 6 = .ok (.iload_n 2, 1) := by decide +kernel
theorem dX3_untilRecalled_7 : decode cX3_untilRecalled 7 = .ok (.bipush 60, 2) := by decide +kernel
theorem dX3_untilRecalled_9 : decode cX3_untilRecalled 9 = .ok (.if_icmp .gt 25, 3) := by decide +kernel
theorem dX3_untilRecalled_12 : decode cX3_untilRecalled 12 = .ok (.aload_n 0, 1) := by decide +kernel
theorem dX3_untilRecalled_13 : decode cX3_untilRecalled 13 = .ok (.getfield 25, 3) := by decide +kernel
theorem dX3_untilRecalled_16 : decode cX3_untilRecalled 16 = .ok (.bipush 7, 2) := by decide +kernel
theorem dX3_untilRecalled_18 : decode cX3_untilRecalled 18 = .ok (.iload_n 1, 1) := by decide +kernel
theorem dX3_untilRecalled_19 : decode cX3_untilRecalled 19 = .ok (.iadd, 1) := by decide +kernel
theorem dX3_untilRecalled_20 : decode cX3_untilRecalled 20 = .ok (.iaload, 1) := by decide +kernel
theorem dX3_untilRecalled_21 : decode cX3_untilRecalled 21 = .ok (.ifCond .ne 13, 3) := by decide +kernel
theorem dX3_untilRecalled_24 : decode cX3_untilRecalled 24 = .ok (.aload_n 0, 1) := by decide +kernel
theorem dX3_untilRecalled_25 : decode cX3_untilRecalled 25 = .ok (.invokevirtual 84, 3) := by decide +kernel
theorem dX3_untilRecalled_28 : decode cX3_untilRecalled 28 = .ok (.iinc 2 1, 3) := by decide +kernel
theorem dX3_untilRecalled_31 : decode cX3_untilRecalled 31 = .ok (.goto (-25), 3) := by decide +kernel
theorem dX3_untilRecalled_34 : decode cX3_untilRecalled 34 = .ok (.aload_n 0, 1) := by decide +kernel
theorem dX3_untilRecalled_35 : decode cX3_untilRecalled 35 = .ok (.invokevirtual 140, 3) := by decide +kernel
theorem dX3_untilRecalled_38 : decode cX3_untilRecalled 38 = .ok (.iload_n 2, 1) := by decide +kernel
theorem dX3_untilRecalled_39 : decode cX3_untilRecalled 39 = .ok (.bipush 60, 2) := by decide +kernel
theorem dX3_untilRecalled_41 : decode cX3_untilRecalled 41 = .ok (.if_icmp .le 7, 3) := by decide +kernel
theorem dX3_untilRecalled_44 : decode cX3_untilRecalled 44 = .ok (.iconst (-1), 1) := by decide +kernel
theorem dX3_untilRecalled_45 : decode cX3_untilRecalled 45 = .ok (.goto 4, 3) := by decide +kernel
theorem dX3_untilRecalled_48 : decode cX3_untilRecalled 48 = .ok (.iload_n 2, 1) := by decide +kernel
theorem dX3_untilRecalled_49 : decode cX3_untilRecalled 49 = .ok (.ireturn, 1) := by decide +kernel
set_option maxRecDepth 20000 in
theorem ggX3_daysUntilRecalled_X3_isBatch : GoodIn wsX3_daysUntilRecalled wsX3_isBatch := goodIn_r _ [6, 7, 8, 9, 5, 10, 72, 73, 74, 75, 76, 77, 78, 79, 80, 81, 82, 83] (by decide +kernel) (by decide +kernel)
set_option maxRecDepth 20000 in
theorem gX3_daysUntilRecalled_X3_isBatch : GoodIn wsX3_daysUntilRecalled (wsV RX3 90 RX3 yX3_isBatch wsX3_isBatch) := goodIn_app (goodIn_of _ (by decide +kernel)) ggX3_daysUntilRecalled_X3_isBatch
set_option maxRecDepth 20000 in
theorem ggX3_daysUntilRecalled_X3_untilRecalled : GoodIn wsX3_daysUntilRecalled wsX3_untilRecalled := goodIn_r _ [14, 15, 16, 17, 18, 5, 19, 20, 21, 22, 23, 24, 25, 26, 27, 28, 29, 7, 30, 31, 32, 33, 34, 35, 36, 37, 38, 39, 40, 41, 42, 43, 44, 45, 46, 47, 48, 49, 50, 51, 52, 53, 54, 55, 56, 57, 58, 59, 60, 61, 62, 63, 64, 65, 66, 67, 72, 73, 74, 75, 76, 77, 78, 79, 80, 81, 82, 83] (by decide +kernel) (by decide +kernel)
set_option maxRecDepth 20000 in
theorem gX3_daysUntilRecalled_X3_untilRecalled : GoodIn wsX3_daysUntilRecalled (wsV RX3 143 RX3 yX3_untilRecalled wsX3_untilRecalled) := goodIn_app (goodIn_of _ (by decide +kernel)) ggX3_daysUntilRecalled_X3_untilRecalled
set_option maxRecDepth 20000 in
theorem ggX3_daysUntilRecalled_X3_no : GoodIn wsX3_daysUntilRecalled wsX3_no := goodIn_r _ [71, 1, 72, 73, 74, 75, 76, 77, 78, 79, 80, 81, 82, 83] (by decide +kernel) (by decide +kernel)
set_option maxRecDepth 20000 in
theorem gX3_daysUntilRecalled_X3_no : GoodIn wsX3_daysUntilRecalled (wsV RX3 87 RX3 yX3_no wsX3_no) := goodIn_app (goodIn_of _ (by decide +kernel)) ggX3_daysUntilRecalled_X3_no
theorem dX3_daysUntilRecalled_0 : decode cX3_daysUntilRecalled 0 = .ok (.aload_n 0, 1) := by decide +kernel
theorem dX3_daysUntilRecalled_1 : decode cX3_daysUntilRecalled 1 = .ok (.iconst 0, 1) := by decide +kernel
theorem dX3_daysUntilRecalled_2 : decode cX3_daysUntilRecalled 2 = .ok (.putfield 31, 3) := by decide +kernel
theorem dX3_daysUntilRecalled_5 : decode cX3_daysUntilRecalled 5 = .ok (.aload_n 0, 1) := by decide +kernel
theorem dX3_daysUntilRecalled_6 : decode cX3_daysUntilRecalled 6 = .ok (.iload_n 1, 1) := by decide +kernel
theorem dX3_daysUntilRecalled_7 : decode cX3_daysUntilRecalled 7 = .ok (.invokevirtual 90, 3) := by decide +kernel
theorem dX3_daysUntilRecalled_10 : decode cX3_daysUntilRecalled 10 = .ok (.ifCond .eq 11, 3) := by decide +kernel
theorem dX3_daysUntilRecalled_13 : decode cX3_daysUntilRecalled 13 = .ok (.aload_n 0, 1) := by decide +kernel
theorem dX3_daysUntilRecalled_14 : decode cX3_daysUntilRecalled 14 = .ok (.iload_n 1, 1) := by decide +kernel
theorem dX3_daysUntilRecalled_15 : decode cX3_daysUntilRecalled 15 = .ok (.invokevirtual 143, 3) := by decide +kernel
theorem dX3_daysUntilRecalled_18 : decode cX3_daysUntilRecalled 18 = .ok (.goto 8, 3) := by decide +kernel
theorem dX3_daysUntilRecalled_21 : decode cX3_daysUntilRecalled 21 = .ok (.aload_n 0, 1) := by decide +kernel
theorem dX3_daysUntilRecalled_22 : decode cX3_daysUntilRecalled 22 = .ok (.iconst 1, 1) := by decide +kernel
theorem dX3_daysUntilRecalled_23 : decode cX3_daysUntilRecalled 23 = .ok (.invokevirtual 87, 3) := by decide +kernel
theorem dX3_daysUntilRecalled_26 : decode cX3_daysUntilRecalled 26 = .ok (.ireturn, 1) := by decide +kernel
set_option maxRecDepth 20000 in
theorem ggX3_lostBehind_X3_count : GoodIn wsX3_lostBehind wsX3_count := goodIn_r _ [7, 8, 9, 64, 65, 66, 67, 68, 69, 70, 71, 72, 73, 74, 75] (by decide +kernel) (by decide +kernel)
set_option maxRecDepth 20000 in
theorem gX3_lostBehind_X3_count : GoodIn wsX3_lostBehind (wsV RX3 102 RX3 yX3_count wsX3_count) := goodIn_app (goodIn_of _ (by decide +kernel)) ggX3_lostBehind_X3_count
set_option maxRecDepth 20000 in
theorem ggX3_lostBehind_X3_keep : GoodIn wsX3_lostBehind wsX3_keep := goodIn_r _ [13, 9, 14, 15, 16, 17, 18, 64, 65, 66, 67, 68, 69, 70, 71, 72, 73, 74, 75] (by decide +kernel) (by decide +kernel)
set_option maxRecDepth 20000 in
theorem gX3_lostBehind_X3_keep : GoodIn wsX3_lostBehind (wsV RX3 137 RX3 yX3_keep wsX3_keep) := goodIn_app (goodIn_of _ (by decide +kernel)) ggX3_lostBehind_X3_keep
set_option maxRecDepth 20000 in
theorem ggX3_lostBehind_X3_daysOn : GoodIn wsX3_lostBehind wsX3_daysOn := goodIn_r _ [22, 23, 24, 25, 6, 26, 8, 27, 9, 1, 2, 28, 29, 30, 31, 32, 33, 34, 35, 36, 37, 38, 39, 40, 41, 42, 43, 44, 45, 46, 47, 48, 49, 50, 51, 52, 53, 54, 55, 56, 57, 58, 59, 64, 65, 66, 67, 68, 69, 70, 71, 72, 73, 74, 75] (by decide +kernel) (by decide +kernel)
set_option maxRecDepth 20000 in
theorem gX3_lostBehind_X3_daysOn : GoodIn wsX3_lostBehind (wsV RX3 105 RX3 yX3_daysOn wsX3_daysOn) := goodIn_app (goodIn_of _ (by decide +kernel)) ggX3_lostBehind_X3_daysOn
set_option maxRecDepth 20000 in
theorem ggX3_lostBehind_X3_bringBack : GoodIn wsX3_lostBehind wsX3_bringBack := goodIn_r _ [63, 14, 9, 15, 16, 17, 18, 64, 65, 66, 67, 68, 69, 70, 71, 72, 73, 74, 75] (by decide +kernel) (by decide +kernel)
set_option maxRecDepth 20000 in
theorem gX3_lostBehind_X3_bringBack : GoodIn wsX3_lostBehind (wsV RX3 140 RX3 yX3_bringBack wsX3_bringBack) := goodIn_app (goodIn_of _ (by decide +kernel)) ggX3_lostBehind_X3_bringBack
theorem dX3_lostBehind_0 : decode cX3_lostBehind 0 = .ok (.aload_n 0, 1) := by decide +kernel
theorem dX3_lostBehind_1 : decode cX3_lostBehind 1 = .ok (.getfield 75, 3) := by decide +kernel
theorem dX3_lostBehind_4 : decode cX3_lostBehind 4 = .ok (.istore_n 3, 1) := by decide +kernel
theorem dX3_lostBehind_5 : decode cX3_lostBehind 5 = .ok (.aload_n 0, 1) := by decide +kernel
theorem dX3_lostBehind_6 : decode cX3_lostBehind 6 = .ok (.getfield 78, 3) := by decide +kernel
theorem dX3_lostBehind_9 : decode cX3_lostBehind 9 = .ok (.istore 4, 2) := by decide +kernel
theorem dX3_lostBehind_11 : decode cX3_lostBehind 11 = .ok (.aload_n 0, 1) := by decide +kernel
theorem dX3_lostBehind_12 : decode cX3_lostBehind 12 = .ok (.iconst 2, 1) := by decide +kernel
theorem dX3_lostBehind_13 : decode cX3_lostBehind 13 = .ok (.invokevirtual 102, 3) := by decide +kernel
theorem dX3_lostBehind_16 : decode cX3_lostBehind 16 = .ok (.istore 5, 2) := by decide +kernel
theorem dX3_lostBehind_18 : decode cX3_lostBehind 18 = .ok (.aload_n 0, 1) := by decide +kernel
theorem dX3_lostBehind_19 : decode cX3_lostBehind 19 = .ok (.iload_n 1, 1) := by decide +kernel
theorem dX3_lostBehind_20 : decode cX3_lostBehind 20 = .ok (.putfield 75, 3) := by decide +kernel
theorem dX3_lostBehind_23 : decode cX3_lostBehind 23 = .ok (.aload_n 0, 1) := by decide +kernel
theorem dX3_lostBehind_24 : decode cX3_lostBehind 24 = .ok (.iload_n 2, 1) := by decide +kernel
theorem dX3_lostBehind_25 : decode cX3_lostBehind 25 = .ok (.putfield 78, 3) := by decide +kernel
theorem dX3_lostBehind_28 : decode cX3_lostBehind 28 = .ok (.aload_n 0, 1) := by decide +kernel
theorem dX3_lostBehind_29 : decode cX3_lostBehind 29 = .ok (.invokevirtual 137, 3) := by decide +kernel
theorem dX3_lostBehind_32 : decode cX3_lostBehind 32 = .ok (.aload_n 0, 1) := by decide +kernel
theorem dX3_lostBehind_33 : decode cX3_lostBehind 33 = .ok (.bipush 30, 2) := by decide +kernel
theorem dX3_lostBehind_35 : decode cX3_lostBehind 35 = .ok (.invokevirtual 105, 3) := by decide +kernel
theorem dX3_lostBehind_38 : decode cX3_lostBehind 38 = .ok (.aload_n 0, 1) := by decide +kernel
theorem dX3_lostBehind_39 : decode cX3_lostBehind 39 = .ok (.iconst 2, 1) := by decide +kernel
theorem dX3_lostBehind_40 : decode cX3_lostBehind 40 = .ok (.invokevirtual 102, 3) := by decide +kernel
theorem dX3_lostBehind_43 : decode cX3_lostBehind 43 = .ok (.iload 5, 2) := by decide +kernel
theorem dX3_lostBehind_45 : decode cX3_lostBehind 45 = .ok (.isub, 1) := by decide +kernel
theorem dX3_lostBehind_46 : decode cX3_lostBehind 46 = .ok (.istore 6, 2) := by decide +kernel
theorem dX3_lostBehind_48 : decode cX3_lostBehind 48 = .ok (.aload_n 0, 1) := by decide +kernel
theorem dX3_lostBehind_49 : decode cX3_lostBehind 49 = .ok (.invokevirtual 140, 3) := by decide +kernel
theorem dX3_lostBehind_52 : decode cX3_lostBehind 52 = .ok (.aload_n 0, 1) := by decide +kernel
theorem dX3_lostBehind_53 : decode cX3_lostBehind 53 = .ok (.iload_n 3, 1) := by decide +kernel
theorem dX3_lostBehind_54 : decode cX3_lostBehind 54 = .ok (.putfield 75, 3) := by decide +kernel
theorem dX3_lostBehind_57 : decode cX3_lostBehind 57 = .ok (.aload_n 0, 1) := by decide +kernel
theorem dX3_lostBehind_58 : decode cX3_lostBehind 58 = .ok (.iload 4, 2) := by decide +kernel
theorem dX3_lostBehind_60 : decode cX3_lostBehind 60 = .ok (.putfield 78, 3) := by decide +kernel
theorem dX3_lostBehind_63 : decode cX3_lostBehind 63 = .ok (.iload 6, 2) := by decide +kernel
theorem dX3_lostBehind_65 : decode cX3_lostBehind 65 = .ok (.ireturn, 1) := by decide +kernel
set_option maxRecDepth 20000 in
theorem ggX3_lostWith_X3_isIn : GoodIn wsX3_lostWith wsX3_isIn := goodIn_r _ [5] (by decide +kernel) (by decide +kernel)
set_option maxRecDepth 20000 in
theorem gX3_lostWith_X3_isIn : GoodIn wsX3_lostWith (va_wsS RX3 35 yX3_isIn wsX3_isIn) := goodIn_app (goodIn_of _ (by decide +kernel)) ggX3_lostWith_X3_isIn
set_option maxRecDepth 20000 in
theorem ggX3_lostWith_X3_isOrder : GoodIn wsX3_lostWith wsX3_isOrder := goodIn_r _ [8, 2, 3, 4, 5] (by decide +kernel) (by decide +kernel)
set_option maxRecDepth 20000 in
theorem gX3_lostWith_X3_isOrder : GoodIn wsX3_lostWith (va_wsS RX3 99 yX3_isOrder wsX3_isOrder) := goodIn_app (goodIn_of _ (by decide +kernel)) ggX3_lostWith_X3_isOrder
set_option maxRecDepth 20000 in
theorem ggX3_lostWith_X3_lostBehind : GoodIn wsX3_lostWith wsX3_lostBehind := goodIn_r _ [12, 13, 14, 15, 16, 17, 4, 18, 19, 20, 21, 22, 23, 24, 25, 26, 27, 28, 29, 30, 31, 32, 33, 34, 35, 36, 37, 38, 39, 40, 41, 42, 43, 44, 45, 46, 47, 48, 49, 50, 51, 52, 53, 54, 55, 56, 57, 58, 59, 60, 61, 62, 63, 64, 65, 66, 67, 68, 69, 70, 71, 72, 73, 74, 79, 80, 81, 82, 83, 84, 85, 86, 87, 88, 89, 90] (by decide +kernel) (by decide +kernel)
set_option maxRecDepth 20000 in
theorem gX3_lostWith_X3_lostBehind : GoodIn wsX3_lostWith (wsV RX3 146 RX3 yX3_lostBehind wsX3_lostBehind) := goodIn_app (goodIn_of _ (by decide +kernel)) ggX3_lostWith_X3_lostBehind
set_option maxRecDepth 20000 in
theorem ggX3_lostWith_X3_no : GoodIn wsX3_lostWith wsX3_no := goodIn_r _ [78, 1, 79, 80, 81, 82, 83, 84, 85, 86, 87, 88, 89, 90] (by decide +kernel) (by decide +kernel)
set_option maxRecDepth 20000 in
theorem gX3_lostWith_X3_no : GoodIn wsX3_lostWith (wsV RX3 87 RX3 yX3_no wsX3_no) := goodIn_app (goodIn_of _ (by decide +kernel)) ggX3_lostWith_X3_no
theorem dX3_lostWith_0 : decode cX3_lostWith 0 = .ok (.aload_n 0, 1) := by decide +kernel
theorem dX3_lostWith_1 : decode cX3_lostWith 1 = .ok (.iconst 0, 1) := by decide +kernel
theorem dX3_lostWith_2 : decode cX3_lostWith 2 = .ok (.putfield 31, 3) := by decide +kernel
theorem dX3_lostWith_5 : decode cX3_lostWith 5 = .ok (.iload_n 1, 1) := by decide +kernel
theorem dX3_lostWith_6 : decode cX3_lostWith 6 = .ok (.iconst 0, 1) := by decide +kernel
theorem dX3_lostWith_7 : decode cX3_lostWith 7 = .ok (.bipush 9, 2) := by decide +kernel
theorem dX3_lostWith_9 : decode cX3_lostWith 9 = .ok (.invokestatic 35, 3) := by decide +kernel
theorem dX3_lostWith_12 : decode cX3_lostWith 12 = .ok (.ifCond .eq 19, 3) := by decide +kernel
theorem dX3_lostWith_15 : decode cX3_lostWith 15 = .ok (.iload_n 2, 1) := by decide +kernel
theorem dX3_lostWith_16 : decode cX3_lostWith 16 = .ok (.invokestatic 99, 3) := by decide +kernel
theorem dX3_lostWith_19 : decode cX3_lostWith 19 = .ok (.ifCond .eq 12, 3) := by decide +kernel
theorem dX3_lostWith_22 : decode cX3_lostWith 22 = .ok (.aload_n 0, 1) := by decide +kernel
theorem dX3_lostWith_23 : decode cX3_lostWith 23 = .ok (.iload_n 1, 1) := by decide +kernel
theorem dX3_lostWith_24 : decode cX3_lostWith 24 = .ok (.iload_n 2, 1) := by decide +kernel
theorem dX3_lostWith_25 : decode cX3_lostWith 25 = .ok (.invokevirtual 146, 3) := by decide +kernel
theorem dX3_lostWith_28 : decode cX3_lostWith 28 = .ok (.goto 8, 3) := by decide +kernel
theorem dX3_lostWith_31 : decode cX3_lostWith 31 = .ok (.aload_n 0, 1) := by decide +kernel
theorem dX3_lostWith_32 : decode cX3_lostWith 32 = .ok (.iconst 1, 1) := by decide +kernel
theorem dX3_lostWith_33 : decode cX3_lostWith 33 = .ok (.invokevirtual 87, 3) := by decide +kernel
theorem dX3_lostWith_36 : decode cX3_lostWith 36 = .ok (.ireturn, 1) := by decide +kernel
set_option maxRecDepth 20000 in
theorem ggX3_best_X3_lostBehind : GoodIn wsX3_best wsX3_lostBehind := goodIn_r _ [6, 1, 7, 8, 9, 10, 5, 11, 12, 13, 14, 15, 16, 17, 18, 19, 20, 21, 22, 23, 24, 25, 26, 27, 28, 29, 30, 31, 32, 33, 34, 35, 36, 37, 38, 39, 40, 41, 42, 43, 44, 45, 46, 47, 48, 49, 50, 51, 52, 53, 54, 55, 56, 57, 58, 59, 60, 61, 62, 63, 64, 65, 66, 67, 68, 69, 70, 71, 72, 73, 74, 75, 76, 77, 78, 79] (by decide +kernel) (by decide +kernel)
set_option maxRecDepth 20000 in
theorem gX3_best_X3_lostBehind : GoodIn wsX3_best (wsV RX3 146 RX3 yX3_lostBehind wsX3_lostBehind) := goodIn_app (goodIn_of _ (by decide +kernel)) ggX3_best_X3_lostBehind
theorem dX3_best_0 : decode cX3_best 0 = .ok (.iconst 0, 1) := by decide +kernel
theorem dX3_best_1 : decode cX3_best 1 = .ok (.istore_n 1, 1) := by decide +kernel
theorem dX3_best_2 : decode cX3_best 2 = .ok (.aload_n 0, 1) := by decide +kernel
theorem dX3_best_3 : decode cX3_best 3 = .ok (.aload_n 0, 1) := by decide +kernel
theorem dX3_best_4 : decode cX3_best 4 = .ok (.getfield 75, 3) := by decide +kernel
theorem dX3_best_7 : decode cX3_best 7 = .ok (.iconst 0, 1) := by decide +kernel
theorem dX3_best_8 : decode cX3_best 8 = .ok (.invokevirtual 146, 3) := by decide +kernel
theorem dX3_best_11 : decode cX3_best 11 = .ok (.istore_n 2, 1) := by decide +kernel
theorem dX3_best_12 : decode cX3_best 12 = .ok (.iconst 1, 1) := by decide +kernel
theorem dX3_best_13 : decode cX3_best 13 = .ok (.istore_n 3, 1) := by decide +kernel
theorem dX3_best_14 : decode cX3_best 14 = .ok (.iload_n 3, 1) := by decide +kernel
theorem dX3_best_15 : decode cX3_best 15 = .ok (.iconst 3, 1) := by decide +kernel
theorem dX3_best_16 : decode cX3_best 16 = .ok (.if_icmp .ge 34, 3) := by decide +kernel
theorem dX3_best_19 : decode cX3_best 19 = .ok (.aload_n 0, 1) := by decide +kernel
theorem dX3_best_20 : decode cX3_best 20 = .ok (.aload_n 0, 1) := by decide +kernel
theorem dX3_best_21 : decode cX3_best 21 = .ok (.getfield 75, 3) := by decide +kernel
theorem dX3_best_24 : decode cX3_best 24 = .ok (.iload_n 3, 1) := by decide +kernel
theorem dX3_best_25 : decode cX3_best 25 = .ok (.invokevirtual 146, 3) := by decide +kernel
theorem dX3_best_28 : decode cX3_best 28 = .ok (.istore 4, 2) := by decide +kernel
theorem dX3_best_30 : decode cX3_best 30 = .ok (.iload 4, 2) := by decide +kernel
theorem dX3_best_32 : decode cX3_best 32 = .ok (.iload_n 2, 1) := by decide +kernel
theorem dX3_best_33 : decode cX3_best 33 = .ok (.if_icmp .lt 6, 3) := by decide +kernel
theorem dX3_best_36 : decode cX3_best 36 = .ok (.goto 8, 3) := by decide +kernel
theorem dX3_best_39 : decode cX3_best 39 = .ok (.iload_n 3, 1) := by decide +kernel
theorem dX3_best_40 : decode cX3_best 40 = .ok (.istore_n 1, 1) := by decide +kernel
theorem dX3_best_41 : decode cX3_best 41 = .ok (.iload 4, 2) := by decide +kernel
theorem dX3_best_43 : decode cX3_best 43 = .ok (.istore_n 2, 1) := by decide +kernel
theorem dX3_best_44 : decode cX3_best 44 = .ok (.iinc 3 1, 3) := by decide +kernel
theorem dX3_best_47 : decode cX3_best 47 = .ok (.goto (-33), 3) := by decide +kernel
theorem dX3_best_50 : decode cX3_best 50 = .ok (.iload_n 1, 1) := by decide +kernel
theorem dX3_best_51 : decode cX3_best 51 = .ok (.ireturn, 1) := by decide +kernel
set_option maxRecDepth 20000 in
theorem ggX3_bestOrder_X3_best : GoodIn wsX3_bestOrder wsX3_best := goodIn_r _ [5, 6, 7, 8, 9, 4, 10, 11, 12, 13, 14, 15, 16, 17, 18, 19, 20, 21, 22, 23, 24, 25, 26, 27, 28, 29, 30, 31, 32, 33, 34, 35, 36, 37, 38, 39, 40, 41, 42, 43, 44, 45, 46, 47, 48, 49, 50, 51, 52, 53, 54, 55, 56, 57, 58, 59, 60, 61, 62, 63, 64, 65, 66, 67, 68, 69, 70, 71, 77, 78, 79, 80, 81, 82, 83, 84, 85, 86, 87, 88] (by decide +kernel) (by decide +kernel)
set_option maxRecDepth 20000 in
theorem gX3_bestOrder_X3_best : GoodIn wsX3_bestOrder (wsV RX3 149 RX3 yX3_best wsX3_best) := goodIn_app (goodIn_of _ (by decide +kernel)) ggX3_bestOrder_X3_best
set_option maxRecDepth 20000 in
theorem ggX3_bestOrder_X3_ok : GoodIn wsX3_bestOrder wsX3_ok := goodIn_r _ [75, 76, 77, 78, 79, 80, 81, 82, 83, 84, 85, 86, 87, 88] (by decide +kernel) (by decide +kernel)
set_option maxRecDepth 20000 in
theorem gX3_bestOrder_X3_ok : GoodIn wsX3_bestOrder (wsV RX3 108 RX3 yX3_ok wsX3_ok) := goodIn_app (goodIn_of _ (by decide +kernel)) ggX3_bestOrder_X3_ok
theorem dX3_bestOrder_0 : decode cX3_bestOrder 0 = .ok (.aload_n 0, 1) := by decide +kernel
theorem dX3_bestOrder_1 : decode cX3_bestOrder 1 = .ok (.aload_n 0, 1) := by decide +kernel
theorem dX3_bestOrder_2 : decode cX3_bestOrder 2 = .ok (.invokevirtual 149, 3) := by decide +kernel
theorem dX3_bestOrder_5 : decode cX3_bestOrder 5 = .ok (.invokevirtual 108, 3) := by decide +kernel
theorem dX3_bestOrder_8 : decode cX3_bestOrder 8 = .ok (.ireturn, 1) := by decide +kernel
set_option maxRecDepth 20000 in
theorem ggX3_wanted_X3_lostBehind : GoodIn wsX3_wanted wsX3_lostBehind := goodIn_r _ [6, 7, 1, 8, 9, 10, 5, 11, 12, 13, 14, 15, 16, 17, 18, 19, 20, 21, 22, 23, 24, 25, 26, 27, 28, 29, 30, 31, 32, 33, 34, 35, 36, 37, 38, 39, 40, 41, 42, 43, 44, 45, 46, 47, 48, 49, 50, 51, 52, 53, 54, 55, 56, 57, 58, 59, 60, 61, 62, 63, 64, 65, 66, 67, 68, 69, 70, 71, 72, 73, 74, 75, 76, 77, 78, 79] (by decide +kernel) (by decide +kernel)
set_option maxRecDepth 20000 in
theorem gX3_wanted_X3_lostBehind : GoodIn wsX3_wanted (wsV RX3 146 RX3 yX3_lostBehind wsX3_lostBehind) := goodIn_app (goodIn_of _ (by decide +kernel)) ggX3_wanted_X3_lostBehind
theorem dX3_wanted_0 : decode cX3_wanted 0 = .ok (.iconst 0, 1) := by decide +kernel
theorem dX3_wanted_1 : decode cX3_wanted 1 = .ok (.istore_n 1, 1) := by decide +kernel
theorem dX3_wanted_2 : decode cX3_wanted 2 = .ok (.iload_n 1, 1) := by decide +kernel
theorem dX3_wanted_3 : decode cX3_wanted 3 = .ok (.bipush 9, 2) := by decide +kernel
theorem dX3_wanted_5 : decode cX3_wanted 5 = .ok (.if_icmp .gt 23, 3) := by decide +kernel
theorem dX3_wanted_8 : decode cX3_wanted 8 = .ok (.aload_n 0, 1) := by decide +kernel
theorem dX3_wanted_9 : decode cX3_wanted 9 = .ok (.iload_n 1, 1) := by decide +kernel
theorem dX3_wanted_10 : decode cX3_wanted 10 = .ok (.aload_n 0, 1) := by decide +kernel
theorem dX3_wanted_11 : decode cX3_wanted 11 = .ok (.getfield 78, 3) := by decide +kernel
theorem dX3_wanted_14 : decode cX3_wanted 14 = .ok (.invokevirtual 146, 3) := by decide +kernel
theorem dX3_wanted_17 : decode cX3_wanted 17 = .ok (.ifCond .ne 5, 3) := by decide +kernel
theorem dX3_wanted_20 : decode cX3_wanted 20 = .ok (.iload_n 1, 1) := by decide +kernel
theorem dX3_wanted_21 : decode cX3_wanted 21 = .ok (.ireturn, 1) := by decide +kernel
theorem dX3_wanted_22 : decode cX3_wanted 22 = .ok (.iinc 1 1, 3) := by decide +kernel
theorem dX3_wanted_25 : decode cX3_wanted 25 = .ok (.goto (-23), 3) := by decide +kernel
theorem dX3_wanted_28 : decode cX3_wanted 28 = .ok (.iconst (-1), 1) := by decide +kernel
theorem dX3_wanted_29 : decode cX3_wanted 29 = .ok (.ireturn, 1) := by decide +kernel
set_option maxRecDepth 20000 in
theorem ggX3_shippingWanted_X3_wanted : GoodIn wsX3_shippingWanted wsX3_wanted := goodIn_r _ [5, 6, 7, 8, 9, 4, 10, 11, 12, 13, 14, 15, 16, 17, 18, 19, 20, 21, 22, 23, 24, 25, 26, 27, 28, 29, 30, 31, 32, 33, 34, 35, 36, 37, 38, 39, 40, 41, 42, 43, 44, 45, 46, 47, 48, 49, 50, 51, 52, 53, 54, 55, 56, 57, 58, 59, 60, 61, 62, 63, 64, 65, 66, 67, 68, 69, 70, 71, 77, 78, 79, 80, 81, 82, 83, 84, 85, 86, 87, 88] (by decide +kernel) (by decide +kernel)
set_option maxRecDepth 20000 in
theorem gX3_shippingWanted_X3_wanted : GoodIn wsX3_shippingWanted (wsV RX3 152 RX3 yX3_wanted wsX3_wanted) := goodIn_app (goodIn_of _ (by decide +kernel)) ggX3_shippingWanted_X3_wanted
set_option maxRecDepth 20000 in
theorem ggX3_shippingWanted_X3_ok : GoodIn wsX3_shippingWanted wsX3_ok := goodIn_r _ [75, 76, 77, 78, 79, 80, 81, 82, 83, 84, 85, 86, 87, 88] (by decide +kernel) (by decide +kernel)
set_option maxRecDepth 20000 in
theorem gX3_shippingWanted_X3_ok : GoodIn wsX3_shippingWanted (wsV RX3 108 RX3 yX3_ok wsX3_ok) := goodIn_app (goodIn_of _ (by decide +kernel)) ggX3_shippingWanted_X3_ok
theorem dX3_shippingWanted_0 : decode cX3_shippingWanted 0 = .ok (.aload_n 0, 1) := by decide +kernel
theorem dX3_shippingWanted_1 : decode cX3_shippingWanted 1 = .ok (.aload_n 0, 1) := by decide +kernel
theorem dX3_shippingWanted_2 : decode cX3_shippingWanted 2 = .ok (.invokevirtual 152, 3) := by decide +kernel
theorem dX3_shippingWanted_5 : decode cX3_shippingWanted 5 = .ok (.invokevirtual 108, 3) := by decide +kernel
theorem dX3_shippingWanted_8 : decode cX3_shippingWanted 8 = .ok (.ireturn, 1) := by decide +kernel
set_option maxRecDepth 20000 in
theorem ggX3_shelfFor_X3_isHere : GoodIn wsX3_shelfFor wsX3_isHere := goodIn_r _ [5, 6, 18, 19, 20, 21, 22, 23, 24, 25, 26, 27, 28, 29] (by decide +kernel) (by decide +kernel)
set_option maxRecDepth 20000 in
theorem gX3_shelfFor_X3_isHere : GoodIn wsX3_shelfFor (wsV RX3 51 RX3 yX3_isHere wsX3_isHere) := goodIn_app (goodIn_of _ (by decide +kernel)) ggX3_shelfFor_X3_isHere
set_option maxRecDepth 20000 in
theorem ggX3_shelfFor_X3_until : GoodIn wsX3_shelfFor wsX3_until := goodIn_r _ [10, 6, 11, 12, 13, 4, 14, 15, 16, 17, 18, 19, 20, 21, 22, 23, 24, 25, 26, 27, 28, 29] (by decide +kernel) (by decide +kernel)
set_option maxRecDepth 20000 in
theorem gX3_shelfFor_X3_until : GoodIn wsX3_shelfFor (wsV RX3 134 RX3 yX3_until wsX3_until) := goodIn_app (goodIn_of _ (by decide +kernel)) ggX3_shelfFor_X3_until
theorem dX3_shelfFor_0 : decode cX3_shelfFor 0 = .ok (.aload_n 0, 1) := by decide +kernel
theorem dX3_shelfFor_1 : decode cX3_shelfFor 1 = .ok (.iload_n 1, 1) := by decide +kernel
theorem dX3_shelfFor_2 : decode cX3_shelfFor 2 = .ok (.invokevirtual 51, 3) := by decide +kernel
theorem dX3_shelfFor_5 : decode cX3_shelfFor 5 = .ok (.ifCond .ne 5, 3) := by decide +kernel
theorem dX3_shelfFor_8 : decode cX3_shelfFor 8 = .ok (.iconst (-1), 1) := by decide +kernel
theorem dX3_shelfFor_9 : decode cX3_shelfFor 9 = .ok (.ireturn, 1) := by decide +kernel
theorem dX3_shelfFor_10 : decode cX3_shelfFor 10 = .ok (.iconst 0, 1) := by decide +kernel
theorem dX3_shelfFor_11 : decode cX3_shelfFor 11 = .ok (.istore_n 2, 1) := by decide +kernel
theorem dX3_shelfFor_12 : decode cX3_shelfFor 12 = .ok (.iconst 1, 1) := by decide +kernel
theorem dX3_shelfFor_13 : decode cX3_shelfFor 13 = .ok (.istore_n 3, 1) := by decide +kernel
theorem dX3_shelfFor_14 : decode cX3_shelfFor 14 = .ok (.iload_n 3, 1) := by decide +kernel
theorem dX3_shelfFor_15 : decode cX3_shelfFor 15 = .ok (.iconst 4, 1) := by decide +kernel
theorem dX3_shelfFor_16 : decode cX3_shelfFor 16 = .ok (.if_icmp .ge 46, 3) := by decide +kernel
theorem dX3_shelfFor_19 : decode cX3_shelfFor 19 = .ok (.aload_n 0, 1) := by decide +kernel
theorem dX3_shelfFor_20 : decode cX3_shelfFor 20 = .ok (.iload_n 1, 1) := by decide +kernel
theorem dX3_shelfFor_21 : decode cX3_shelfFor 21 = .ok (.iload_n 2, 1) := by decide +kernel
theorem dX3_shelfFor_22 : decode cX3_shelfFor 22 = .ok (.invokevirtual 134, 3) := by decide +kernel
theorem dX3_shelfFor_25 : decode cX3_shelfFor 25 = .ok (.iconst (-1), 1) := by decide +kernel
theorem dX3_shelfFor_26 : decode cX3_shelfFor 26 = .ok (.if_icmp .eq 30, 3) := by decide +kernel
theorem dX3_shelfFor_29 : decode cX3_shelfFor 29 = .ok (.aload_n 0, 1) := by decide +kernel
theorem dX3_shelfFor_30 : decode cX3_shelfFor 30 = .ok (.iload_n 1, 1) := by decide +kernel
theorem dX3_shelfFor_31 : decode cX3_shelfFor 31 = .ok (.iload_n 3, 1) := by decide +kernel
theorem dX3_shelfFor_32 : decode cX3_shelfFor 32 = .ok (.invokevirtual 134, 3) := by decide +kernel
theorem dX3_shelfFor_35 : decode cX3_shelfFor 35 = .ok (.iconst (-1), 1) := by decide +kernel
theorem dX3_shelfFor_36 : decode cX3_shelfFor 36 = .ok (.if_icmp .eq 18, 3) := by decide +kernel
theorem dX3_shelfFor_39 : decode cX3_shelfFor 39 = .ok (.aload_n 0, 1) := by decide +kernel
theorem dX3_shelfFor_40 : decode cX3_shelfFor 40 = .ok (.iload_n 1, 1) := by decide +kernel
theorem dX3_shelfFor_41 : decode cX3_shelfFor 41 = .ok (.iload_n 3, 1) := by decide +kernel
theorem dX3_shelfFor_42 : decode cX3_shelfFor 42 = .ok (.invokevirtual 134, 3) := by decide +kernel
theorem dX3_shelfFor_45 : decode cX3_shelfFor 45 = .ok (.aload_n 0, 1) := by decide +kernel
theorem dX3_shelfFor_46 : decode cX3_shelfFor 46 = .ok (.iload_n 1, 1) := by decide +kernel
theorem dX3_shelfFor_47 : decode cX3_shelfFor 47 = .ok (.iload_n 2, 1) := by decide +kernel
theorem dX3_shelfFor_48 : decode cX3_shelfFor 48 = .ok (.invokevirtual 134, 3) := by decide +kernel
theorem dX3_shelfFor_51 : decode cX3_shelfFor 51 = .ok (.if_icmp .le 5, 3) := by decide +kernel
theorem dX3_shelfFor_54 : decode cX3_shelfFor 54 = .ok (.iload_n 3, 1) := by decide +kernel
theorem dX3_shelfFor_55 : decode cX3_shelfFor 55 = .ok (.istore_n 2, 1) := by decide +kernel
theorem dX3_shelfFor_56 : decode cX3_shelfFor 56 = .ok (.iinc 3 1, 3) := by decide +kernel
theorem dX3_shelfFor_59 : decode cX3_shelfFor 59 = .ok (.goto (-45), 3) := by decide +kernel
theorem dX3_shelfFor_62 : decode cX3_shelfFor 62 = .ok (.iload_n 2, 1) := by decide +kernel
theorem dX3_shelfFor_63 : decode cX3_shelfFor 63 = .ok (.ireturn, 1) := by decide +kernel
set_option maxRecDepth 20000 in
theorem ggX3_bestShelf_X3_isTin : GoodIn wsX3_bestShelf wsX3_isTin := goodIn_r _ [6, 7, 8, 9, 5, 10, 35, 36, 37, 38, 39, 40, 41, 42, 43, 44, 45, 46] (by decide +kernel) (by decide +kernel)
set_option maxRecDepth 20000 in
theorem gX3_bestShelf_X3_isTin : GoodIn wsX3_bestShelf (wsV RX3 96 RX3 yX3_isTin wsX3_isTin) := goodIn_app (goodIn_of _ (by decide +kernel)) ggX3_bestShelf_X3_isTin
set_option maxRecDepth 20000 in
theorem ggX3_bestShelf_X3_shelfFor : GoodIn wsX3_bestShelf wsX3_shelfFor := goodIn_r _ [14, 15, 16, 17, 5, 18, 19, 20, 21, 22, 23, 24, 25, 26, 27, 28, 29, 30, 35, 36, 37, 38, 39, 40, 41, 42, 43, 44, 45, 46] (by decide +kernel) (by decide +kernel)
set_option maxRecDepth 20000 in
theorem gX3_bestShelf_X3_shelfFor : GoodIn wsX3_bestShelf (wsV RX3 155 RX3 yX3_shelfFor wsX3_shelfFor) := goodIn_app (goodIn_of _ (by decide +kernel)) ggX3_bestShelf_X3_shelfFor
set_option maxRecDepth 20000 in
theorem ggX3_bestShelf_X3_no : GoodIn wsX3_bestShelf wsX3_no := goodIn_r _ [34, 1, 35, 36, 37, 38, 39, 40, 41, 42, 43, 44, 45, 46] (by decide +kernel) (by decide +kernel)
set_option maxRecDepth 20000 in
theorem gX3_bestShelf_X3_no : GoodIn wsX3_bestShelf (wsV RX3 87 RX3 yX3_no wsX3_no) := goodIn_app (goodIn_of _ (by decide +kernel)) ggX3_bestShelf_X3_no
theorem dX3_bestShelf_0 : decode cX3_bestShelf 0 = .ok (.aload_n 0, 1) := by decide +kernel
theorem dX3_bestShelf_1 : decode cX3_bestShelf 1 = .ok (.iconst 0, 1) := by decide +kernel
theorem dX3_bestShelf_2 : decode cX3_bestShelf 2 = .ok (.putfield 31, 3) := by decide +kernel
theorem dX3_bestShelf_5 : decode cX3_bestShelf 5 = .ok (.aload_n 0, 1) := by decide +kernel
theorem dX3_bestShelf_6 : decode cX3_bestShelf 6 = .ok (.iload_n 1, 1) := by decide +kernel
theorem dX3_bestShelf_7 : decode cX3_bestShelf 7 = .ok (.invokevirtual 96, 3) := by decide +kernel
theorem dX3_bestShelf_10 : decode cX3_bestShelf 10 = .ok (.ifCond .eq 11, 3) := by decide +kernel
theorem dX3_bestShelf_13 : decode cX3_bestShelf 13 = .ok (.aload_n 0, 1) := by decide +kernel
theorem dX3_bestShelf_14 : decode cX3_bestShelf 14 = .ok (.iload_n 1, 1) := by decide +kernel
theorem dX3_bestShelf_15 : decode cX3_bestShelf 15 = .ok (.invokevirtual 155, 3) := by decide +kernel
theorem dX3_bestShelf_18 : decode cX3_bestShelf 18 = .ok (.goto 8, 3) := by decide +kernel
theorem dX3_bestShelf_21 : decode cX3_bestShelf 21 = .ok (.aload_n 0, 1) := by decide +kernel
theorem dX3_bestShelf_22 : decode cX3_bestShelf 22 = .ok (.iconst 1, 1) := by decide +kernel
theorem dX3_bestShelf_23 : decode cX3_bestShelf 23 = .ok (.invokevirtual 87, 3) := by decide +kernel
theorem dX3_bestShelf_26 : decode cX3_bestShelf 26 = .ok (.ireturn, 1) := by decide +kernel
set_option maxRecDepth 20000 in
theorem ggX3_meanVacuum_X3_isHere : GoodIn wsX3_meanVacuum wsX3_isHere := goodIn_r _ [8, 3, 13, 14, 15, 16, 17, 18, 19, 20, 21, 22, 23, 24] (by decide +kernel) (by decide +kernel)
set_option maxRecDepth 20000 in
theorem gX3_meanVacuum_X3_isHere : GoodIn wsX3_meanVacuum (wsV RX3 51 RX3 yX3_isHere wsX3_isHere) := goodIn_app (goodIn_of _ (by decide +kernel)) ggX3_meanVacuum_X3_isHere
set_option maxRecDepth 20000 in
theorem ggX3_meanVacuum_X3_count : GoodIn wsX3_meanVacuum wsX3_count := goodIn_r _ [12, 2, 3, 13, 14, 15, 16, 17, 18, 19, 20, 21, 22, 23, 24] (by decide +kernel) (by decide +kernel)
set_option maxRecDepth 20000 in
theorem gX3_meanVacuum_X3_count : GoodIn wsX3_meanVacuum (wsV RX3 102 RX3 yX3_count wsX3_count) := goodIn_app (goodIn_of _ (by decide +kernel)) ggX3_meanVacuum_X3_count
theorem dX3_meanVacuum_0 : decode cX3_meanVacuum 0 = .ok (.aload_n 0, 1) := by decide +kernel
theorem dX3_meanVacuum_1 : decode cX3_meanVacuum 1 = .ok (.iconst 0, 1) := by decide +kernel
theorem dX3_meanVacuum_2 : decode cX3_meanVacuum 2 = .ok (.putfield 31, 3) := by decide +kernel
theorem dX3_meanVacuum_5 : decode cX3_meanVacuum 5 = .ok (.iconst 0, 1) := by decide +kernel
theorem dX3_meanVacuum_6 : decode cX3_meanVacuum 6 = .ok (.istore_n 1, 1) := by decide +kernel
theorem dX3_meanVacuum_7 : decode cX3_meanVacuum 7 = .ok (.iconst 0, 1) := by decide +kernel
theorem dX3_meanVacuum_8 : decode cX3_meanVacuum 8 = .ok (.istore_n 2, 1) := by decide +kernel
theorem dX3_meanVacuum_9 : decode cX3_meanVacuum 9 = .ok (.iload_n 2, 1) := by decide +kernel
theorem dX3_meanVacuum_10 : decode cX3_meanVacuum 10 = .ok (.aload_n 0, 1) := by decide +kernel
theorem dX3_meanVacuum_11 : decode cX3_meanVacuum 11 = .ok (.getfield 42, 3) := by decide +kernel
theorem dX3_meanVacuum_14 : decode cX3_meanVacuum 14 = .ok (.if_icmp .ge 33, 3) := by decide +kernel
theorem dX3_meanVacuum_17 : decode cX3_meanVacuum 17 = .ok (.iload_n 1, 1) := by decide +kernel
theorem dX3_meanVacuum_18 : decode cX3_meanVacuum 18 = .ok (.aload_n 0, 1) := by decide +kernel
theorem dX3_meanVacuum_19 : decode cX3_meanVacuum 19 = .ok (.iload_n 2, 1) := by decide +kernel
theorem dX3_meanVacuum_20 : decode cX3_meanVacuum 20 = .ok (.invokevirtual 51, 3) := by decide +kernel
theorem dX3_meanVacuum_23 : decode cX3_meanVacuum 23 = .ok (.ifCond .eq 15, 3) := by decide +kernel
theorem dX3_meanVacuum_26 : decode cX3_meanVacuum 26 = .ok (.aload_n 0, 1) := by decide +kernel
theorem dX3_meanVacuum_27 : decode cX3_meanVacuum 27 = .ok (.getfield 25, 3) := by decide +kernel
theorem dX3_meanVacuum_30 : decode cX3_meanVacuum 30 = .ok (.bipush 73, 2) := by decide +kernel
theorem dX3_meanVacuum_32 : decode cX3_meanVacuum 32 = .ok (.iload_n 2, 1) := by decide +kernel
theorem dX3_meanVacuum_33 : decode cX3_meanVacuum 33 = .ok (.iadd, 1) := by decide +kernel
theorem dX3_meanVacuum_34 : decode cX3_meanVacuum 34 = .ok (.iaload, 1) := by decide +kernel
theorem dX3_meanVacuum_35 : decode cX3_meanVacuum 35 = .ok (.goto 4, 3) := by decide +kernel
theorem dX3_meanVacuum_38 : decode cX3_meanVacuum 38 = .ok (.iconst 0, 1) := by decide +kernel
theorem dX3_meanVacuum_39 : decode cX3_meanVacuum 39 = .ok (.iadd, 1) := by decide +kernel
theorem dX3_meanVacuum_40 : decode cX3_meanVacuum 40 = .ok (.istore_n 1, 1) := by decide +kernel
theorem dX3_meanVacuum_41 : decode cX3_meanVacuum 41 = .ok (.iinc 2 1, 3) := by decide +kernel
theorem dX3_meanVacuum_44 : decode cX3_meanVacuum 44 = .ok (.goto (-35), 3) := by decide +kernel
theorem dX3_meanVacuum_47 : decode cX3_meanVacuum 47 = .ok (.aload_n 0, 1) := by decide +kernel
theorem dX3_meanVacuum_48 : decode cX3_meanVacuum 48 = .ok (.iconst 0, 1) := by decide +kernel
theorem dX3_meanVacuum_49 : decode cX3_meanVacuum 49 = .ok (.invokevirtual 102, 3) := by decide +kernel
theorem dX3_meanVacuum_52 : decode cX3_meanVacuum 52 = .ok (.ifCond .ne 7, 3) := by decide +kernel
theorem dX3_meanVacuum_55 : decode cX3_meanVacuum 55 = .ok (.dconst 0, 1) := by decide +kernel
theorem dX3_meanVacuum_56 : decode cX3_meanVacuum 56 = .ok (.goto 12, 3) := by decide +kernel
theorem dX3_meanVacuum_59 : decode cX3_meanVacuum 59 = .ok (.iload_n 1, 1) := by decide +kernel
theorem dX3_meanVacuum_60 : decode cX3_meanVacuum 60 = .ok (.i2d, 1) := by decide +kernel
theorem dX3_meanVacuum_61 : decode cX3_meanVacuum 61 = .ok (.aload_n 0, 1) := by decide +kernel
theorem dX3_meanVacuum_62 : decode cX3_meanVacuum 62 = .ok (.iconst 0, 1) := by decide +kernel
theorem dX3_meanVacuum_63 : decode cX3_meanVacuum 63 = .ok (.invokevirtual 102, 3) := by decide +kernel
theorem dX3_meanVacuum_66 : decode cX3_meanVacuum 66 = .ok (.i2d, 1) := by decide +kernel
theorem dX3_meanVacuum_67 : decode cX3_meanVacuum 67 = .ok (.ddiv, 1) := by decide +kernel
theorem dX3_meanVacuum_68 : decode cX3_meanVacuum 68 = .ok (.dreturn, 1) := by decide +kernel
set_option maxRecDepth 20000 in
theorem ggX3_digest_X3_count : GoodIn wsX3_digest wsX3_count := goodIn_r _ [14, 5, 3, 112, 113, 114, 115, 116, 117, 118, 119, 120, 121, 122, 123] (by decide +kernel) (by decide +kernel)
set_option maxRecDepth 20000 in
theorem gX3_digest_X3_count : GoodIn wsX3_digest (wsV RX3 102 RX3 yX3_count wsX3_count) := goodIn_app (goodIn_of _ (by decide +kernel)) ggX3_digest_X3_count
set_option maxRecDepth 20000 in
theorem ggX3_digest_X3_allSwelled : GoodIn wsX3_digest wsX3_allSwelled := goodIn_r _ [18, 4, 3, 112, 113, 114, 115, 116, 117, 118, 119, 120, 121, 122, 123] (by decide +kernel) (by decide +kernel)
set_option maxRecDepth 20000 in
theorem gX3_digest_X3_allSwelled : GoodIn wsX3_digest (wsV RX3 111 RX3 yX3_allSwelled wsX3_allSwelled) := goodIn_app (goodIn_of _ (by decide +kernel)) ggX3_digest_X3_allSwelled
set_option maxRecDepth 20000 in
theorem ggX3_digest_X3_firstBy : GoodIn wsX3_digest wsX3_firstBy := goodIn_r _ [22, 5, 23, 24, 25, 13, 26, 3, 27, 28, 29, 30, 8, 9, 112, 113, 114, 115, 116, 117, 118, 119, 120, 121, 122, 123] (by decide +kernel) (by decide +kernel)
set_option maxRecDepth 20000 in
theorem gX3_digest_X3_firstBy : GoodIn wsX3_digest (wsV RX3 81 RX3 yX3_firstBy wsX3_firstBy) := goodIn_app (goodIn_of _ (by decide +kernel)) ggX3_digest_X3_firstBy
set_option maxRecDepth 20000 in
theorem ggX3_digest_X3_best : GoodIn wsX3_digest wsX3_best := goodIn_r _ [34, 35, 36, 37, 38, 13, 39, 40, 10, 11, 12, 14, 5, 3, 41, 42, 43, 44, 45, 46, 47, 48, 49, 50, 51, 52, 53, 54, 55, 56, 57, 4, 23, 24, 25, 26, 58, 59, 60, 61, 9, 62, 63, 64, 65, 66, 67, 68, 69, 70, 71, 8, 72, 73, 74, 75, 19, 20, 21, 22, 27, 28, 29, 30, 76, 77, 78, 79, 112, 113, 114, 115, 116, 117, 118, 119, 120, 121, 122, 123] (by decide +kernel) (by decide +kernel)
set_option maxRecDepth 20000 in
theorem gX3_digest_X3_best : GoodIn wsX3_digest (wsV RX3 149 RX3 yX3_best wsX3_best) := goodIn_app (goodIn_of _ (by decide +kernel)) ggX3_digest_X3_best
set_option maxRecDepth 20000 in
theorem ggX3_digest_X3_wanted : GoodIn wsX3_digest wsX3_wanted := goodIn_r _ [83, 40, 36, 37, 38, 13, 39, 35, 10, 11, 12, 14, 5, 3, 41, 42, 43, 44, 45, 46, 47, 48, 49, 50, 51, 52, 53, 54, 55, 56, 57, 4, 23, 24, 25, 26, 58, 59, 60, 61, 9, 62, 63, 64, 65, 66, 67, 68, 69, 70, 71, 8, 72, 73, 74, 75, 19, 20, 21, 22, 27, 28, 29, 30, 76, 77, 78, 79, 112, 113, 114, 115, 116, 117, 118, 119, 120, 121, 122, 123] (by decide +kernel) (by decide +kernel)
set_option maxRecDepth 20000 in
theorem gX3_digest_X3_wanted : GoodIn wsX3_digest (wsV RX3 152 RX3 yX3_wanted wsX3_wanted) := goodIn_app (goodIn_of _ (by decide +kernel)) ggX3_digest_X3_wanted
set_option maxRecDepth 20000 in
theorem ggX3_digest_X3_on : GoodIn wsX3_digest wsX3_on := goodIn_r _ [87, 5, 9, 23, 24, 25, 13, 26, 3, 112, 113, 114, 115, 116, 117, 118, 119, 120, 121, 122, 123] (by decide +kernel) (by decide +kernel)
set_option maxRecDepth 20000 in
theorem gX3_digest_X3_on : GoodIn wsX3_digest (wsV RX3 115 RX3 yX3_on wsX3_on) := goodIn_app (goodIn_of _ (by decide +kernel)) ggX3_digest_X3_on
set_option maxRecDepth 20000 in
theorem ggX3_digest_X3_left : GoodIn wsX3_digest wsX3_left := goodIn_r _ [91, 5, 66, 23, 24, 25, 13, 26, 3, 112, 113, 114, 115, 116, 117, 118, 119, 120, 121, 122, 123] (by decide +kernel) (by decide +kernel)
set_option maxRecDepth 20000 in
theorem gX3_digest_X3_left : GoodIn wsX3_digest (wsV RX3 128 RX3 yX3_left wsX3_left) := goodIn_app (goodIn_of _ (by decide +kernel)) ggX3_digest_X3_left
set_option maxRecDepth 20000 in
theorem ggX3_digest_X3_untilRecalled : GoodIn wsX3_digest wsX3_untilRecalled := goodIn_r _ [95, 3, 41, 42, 43, 13, 44, 45, 46, 47, 48, 49, 54, 55, 56, 57, 5, 4, 35, 40, 23, 24, 25, 26, 58, 59, 60, 61, 9, 62, 63, 64, 65, 66, 67, 68, 69, 70, 71, 8, 72, 73, 74, 75, 19, 20, 21, 22, 27, 28, 29, 30, 76, 77, 78, 79, 112, 113, 114, 115, 116, 117, 118, 119, 120, 121, 122, 123] (by decide +kernel) (by decide +kernel)
set_option maxRecDepth 20000 in
theorem gX3_digest_X3_untilRecalled : GoodIn wsX3_digest (wsV RX3 143 RX3 yX3_untilRecalled wsX3_untilRecalled) := goodIn_app (goodIn_of _ (by decide +kernel)) ggX3_digest_X3_untilRecalled
set_option maxRecDepth 20000 in
theorem ggX3_digest_X3_place : GoodIn wsX3_digest wsX3_place := goodIn_r _ [99, 9, 23, 24, 25, 13, 26, 3, 112, 113, 114, 115, 116, 117, 118, 119, 120, 121, 122, 123] (by decide +kernel) (by decide +kernel)
set_option maxRecDepth 20000 in
theorem gX3_digest_X3_place : GoodIn wsX3_digest (wsV RX3 118 RX3 yX3_place wsX3_place) := goodIn_app (goodIn_of _ (by decide +kernel)) ggX3_digest_X3_place
set_option maxRecDepth 20000 in
theorem ggX3_digest_X3_ahead : GoodIn wsX3_digest wsX3_ahead := goodIn_r _ [103, 5, 23, 24, 25, 13, 26, 3, 27, 28, 29, 30, 8, 9, 112, 113, 114, 115, 116, 117, 118, 119, 120, 121, 122, 123] (by decide +kernel) (by decide +kernel)
set_option maxRecDepth 20000 in
theorem gX3_digest_X3_ahead : GoodIn wsX3_digest (wsV RX3 131 RX3 yX3_ahead wsX3_ahead) := goodIn_app (goodIn_of _ (by decide +kernel)) ggX3_digest_X3_ahead
set_option maxRecDepth 20000 in
theorem ggX3_digest_X3_isHere : GoodIn wsX3_digest wsX3_isHere := goodIn_r _ [26, 3, 112, 113, 114, 115, 116, 117, 118, 119, 120, 121, 122, 123] (by decide +kernel) (by decide +kernel)
set_option maxRecDepth 20000 in
theorem gX3_digest_X3_isHere : GoodIn wsX3_digest (wsV RX3 51 RX3 yX3_isHere wsX3_isHere) := goodIn_app (goodIn_of _ (by decide +kernel)) ggX3_digest_X3_isHere
set_option maxRecDepth 20000 in
theorem ggX3_digest_X3_until : GoodIn wsX3_digest wsX3_until := goodIn_r _ [107, 3, 67, 68, 69, 13, 70, 71, 66, 8, 112, 113, 114, 115, 116, 117, 118, 119, 120, 121, 122, 123] (by decide +kernel) (by decide +kernel)
set_option maxRecDepth 20000 in
theorem gX3_digest_X3_until : GoodIn wsX3_digest (wsV RX3 134 RX3 yX3_until wsX3_until) := goodIn_app (goodIn_of _ (by decide +kernel)) ggX3_digest_X3_until
set_option maxRecDepth 20000 in
theorem ggX3_digest_X3_shelfFor : GoodIn wsX3_digest wsX3_shelfFor := goodIn_r _ [111, 23, 24, 25, 13, 26, 3, 104, 105, 106, 107, 67, 68, 69, 70, 71, 66, 8, 112, 113, 114, 115, 116, 117, 118, 119, 120, 121, 122, 123] (by decide +kernel) (by decide +kernel)
set_option maxRecDepth 20000 in
theorem gX3_digest_X3_shelfFor : GoodIn wsX3_digest (wsV RX3 155 RX3 yX3_shelfFor wsX3_shelfFor) := goodIn_app (goodIn_of _ (by decide +kernel)) ggX3_digest_X3_shelfFor
theorem dX3_digest_0 : decode cX3_digest 0 = .ok (.aload_n 0, 1) := by decide +kernel
theorem dX3_digest_1 : decode cX3_digest 1 = .ok (.iconst 0, 1) := by decide +kernel
theorem dX3_digest_2 : decode cX3_digest 2 = .ok (.putfield 31, 3) := by decide +kernel
theorem dX3_digest_5 : decode cX3_digest 5 = .ok (.bipush 12, 2) := by decide +kernel
theorem dX3_digest_7 : decode cX3_digest 7 = .ok (.newarray .int, 2) := by decide +kernel
theorem dX3_digest_9 : decode cX3_digest 9 = .ok (.dup, 1) := by decide +kernel
theorem dX3_digest_10 : decode cX3_digest 10 = .ok (.iconst 0, 1) := by decide +kernel
theorem dX3_digest_11 : decode cX3_digest 11 = .ok (.aload_n 0, 1) := by decide +kernel
theorem dX3_digest_12 : decode cX3_digest 12 = .ok (.getfield 25, 3) := by decide +kernel
theorem dX3_digest_15 : decode cX3_digest 15 = .ok (.iconst 0, 1) := by decide +kernel
theorem dX3_digest_16 : decode cX3_digest 16 = .ok (.iaload, 1) := by decide +kernel
theorem dX3_digest_17 : decode cX3_digest 17 = .ok (.iastore, 1) := by decide +kernel
theorem dX3_digest_18 : decode cX3_digest 18 = .ok (.dup, 1) := by decide +kernel
theorem dX3_digest_19 : decode cX3_digest 19 = .ok (.iconst 1, 1) := by decide +kernel
theorem dX3_digest_20 : decode cX3_digest 20 = .ok (.aload_n 0, 1) := by decide +kernel
theorem dX3_digest_21 : decode cX3_digest 21 = .ok (.getfield 39, 3) := by decide +kernel
theorem dX3_digest_24 : decode cX3_digest 24 = .ok (.iastore, 1) := by decide +kernel
theorem dX3_digest_25 : decode cX3_digest 25 = .ok (.dup, 1) := by decide +kernel
theorem dX3_digest_26 : decode cX3_digest 26 = .ok (.iconst 2, 1) := by decide +kernel
theorem dX3_digest_27 : decode cX3_digest 27 = .ok (.aload_n 0, 1) := by decide +kernel
theorem dX3_digest_28 : decode cX3_digest 28 = .ok (.getfield 42, 3) := by decide +kernel
theorem dX3_digest_31 : decode cX3_digest 31 = .ok (.iastore, 1) := by decide +kernel
theorem dX3_digest_32 : decode cX3_digest 32 = .ok (.dup, 1) := by decide +kernel
theorem dX3_digest_33 : decode cX3_digest 33 = .ok (.iconst 3, 1) := by decide +kernel
theorem dX3_digest_34 : decode cX3_digest 34 = .ok (.aload_n 0, 1) := by decide +kernel
theorem dX3_digest_35 : decode cX3_digest 35 = .ok (.iconst 0, 1) := by decide +kernel
theorem dX3_digest_36 : decode cX3_digest 36 = .ok (.invokevirtual 102, 3) := by decide +kernel
theorem dX3_digest_39 : decode cX3_digest 39 = .ok (.iastore, 1) := by decide +kernel
theorem dX3_digest_40 : decode cX3_digest 40 = .ok (.dup, 1) := by decide +kernel
theorem dX3_digest_41 : decode cX3_digest 41 = .ok (.iconst 4, 1) := by decide +kernel
theorem dX3_digest_42 : decode cX3_digest 42 = .ok (.aload_n 0, 1) := by decide +kernel
theorem dX3_digest_43 : decode cX3_digest 43 = .ok (.iconst 1, 1) := by decide +kernel
theorem dX3_digest_44 : decode cX3_digest 44 = .ok (.invokevirtual 102, 3) := by decide +kernel
theorem dX3_digest_47 : decode cX3_digest 47 = .ok (.iastore, 1) := by decide +kernel
theorem dX3_digest_48 : decode cX3_digest 48 = .ok (.dup, 1) := by decide +kernel
theorem dX3_digest_49 : decode cX3_digest 49 = .ok (.iconst 5, 1) := by decide +kernel
theorem dX3_digest_50 : decode cX3_digest 50 = .ok (.aload_n 0, 1) := by decide +kernel
theorem dX3_digest_51 : decode cX3_digest 51 = .ok (.iconst 2, 1) := by decide +kernel
theorem dX3_digest_52 : decode cX3_digest 52 = .ok (.invokevirtual 102, 3) := by decide +kernel
theorem dX3_digest_55 : decode cX3_digest 55 = .ok (.iastore, 1) := by decide +kernel
theorem dX3_digest_56 : decode cX3_digest 56 = .ok (.dup, 1) := by decide +kernel
theorem dX3_digest_57 : decode cX3_digest 57 = .ok (.bipush 6, 2) := by decide +kernel
theorem dX3_digest_59 : decode cX3_digest 59 = .ok (.aload_n 0, 1) := by decide +kernel
theorem dX3_digest_60 : decode cX3_digest 60 = .ok (.invokevirtual 111, 3) := by decide +kernel
theorem dX3_digest_63 : decode cX3_digest 63 = .ok (.iastore, 1) := by decide +kernel
theorem dX3_digest_64 : decode cX3_digest 64 = .ok (.dup, 1) := by decide +kernel
theorem dX3_digest_65 : decode cX3_digest 65 = .ok (.bipush 7, 2) := by decide +kernel
theorem dX3_digest_67 : decode cX3_digest 67 = .ok (.aload_n 0, 1) := by decide +kernel
theorem dX3_digest_68 : decode cX3_digest 68 = .ok (.iconst 0, 1) := by decide +kernel
theorem dX3_digest_69 : decode cX3_digest 69 = .ok (.invokevirtual 81, 3) := by decide +kernel
theorem dX3_digest_72 : decode cX3_digest 72 = .ok (.iastore, 1) := by decide +kernel
theorem dX3_digest_73 : decode cX3_digest 73 = .ok (.dup, 1) := by decide +kernel
theorem dX3_digest_74 : decode cX3_digest 74 = .ok (.bipush 8, 2) := by decide +kernel
theorem dX3_digest_76 : decode cX3_digest 76 = .ok (.aload_n 0, 1) := by decide +kernel
theorem dX3_digest_77 : decode cX3_digest 77 = .ok (.iconst 1, 1) := by decide +kernel
theorem dX3_digest_78 : decode cX3_digest 78 = .ok (.invokevirtual 81, 3) := by decide +kernel
theorem dX3_digest_81 : decode cX3_digest 81 = .ok (.iastore, 1) := by decide +kernel
theorem dX3_digest_82 : decode cX3_digest 82 = .ok (.dup, 1) := by decide +kernel
theorem dX3_digest_83 : decode cX3_digest 83 = .ok (.bipush 9, 2) := by decide +kernel
theorem dX3_digest_85 : decode cX3_digest 85 = .ok (.aload_n 0, 1) := by decide +kernel
theorem dX3_digest_86 : decode cX3_digest 86 = .ok (.iconst 2, 1) := by decide +kernel
theorem dX3_digest_87 : decode cX3_digest 87 = .ok (.invokevirtual 81, 3) := by decide +kernel
theorem dX3_digest_90 : decode cX3_digest 90 = .ok (.iastore, 1) := by decide +kernel
theorem dX3_digest_91 : decode cX3_digest 91 = .ok (.dup, 1) := by decide +kernel
theorem dX3_digest_92 : decode cX3_digest 92 = .ok (.bipush 10, 2) := by decide +kernel
theorem dX3_digest_94 : decode cX3_digest 94 = .ok (.aload_n 0, 1) := by decide +kernel
theorem dX3_digest_95 : decode cX3_digest 95 = .ok (.invokevirtual 149, 3) := by decide +kernel
theorem dX3_digest_98 : decode cX3_digest 98 = .ok (.iastore, 1) := by decide +kernel
theorem dX3_digest_99 : decode cX3_digest 99 = .ok (.dup, 1) := by decide +kernel
theorem dX3_digest_100 : decode cX3_digest 100 = .ok (.bipush 11, 2) := by decide +kernel
theorem dX3_digest_102 : decode cX3_digest 102 = .ok (.aload_n 0, 1) := by decide +kernel
theorem dX3_digest_103 : decode cX3_digest 103 = .ok (.invokevirtual 152, 3) := by decide +kernel
theorem dX3_digest_106 : decode cX3_digest 106 = .ok (.iastore, 1) := by decide +kernel
theorem dX3_digest_107 : decode cX3_digest 107 = .ok (.astore_n 1, 1) := by decide +kernel
theorem dX3_digest_108 : decode cX3_digest 108 = .ok (.ldc2_w 158, 3) := by decide +kernel
theorem dX3_digest_111 : decode cX3_digest 111 = .ok (.lstore_n 2, 1) := by decide +kernel
theorem dX3_digest_112 : decode cX3_digest 112 = .ok (.aload_n 1, 1) := by decide +kernel
theorem dX3_digest_113 : decode cX3_digest 113 = .ok (.astore 4, 2) := by decide +kernel
theorem dX3_digest_115 : decode cX3_digest 115 = .ok (.aload 4, 2) := by decide +kernel
theorem dX3_digest_117 : decode cX3_digest 117 = .ok (.arraylength, 1) := by decide +kernel
theorem dX3_digest_118 : decode cX3_digest 118 = .ok (.istore 5, 2) := by decide +kernel
theorem dX3_digest_120 : decode cX3_digest 120 = .ok (.iconst 0, 1) := by decide +kernel
theorem dX3_digest_121 : decode cX3_digest 121 = .ok (.istore 6, 2) := by decide +kernel
theorem dX3_digest_123 : decode cX3_digest 123 = .ok (.iload 6, 2) := by decide +kernel
theorem dX3_digest_125 : decode cX3_digest 125 = .ok (.iload 5, 2) := by decide +kernel
theorem dX3_digest_127 : decode cX3_digest 127 = .ok (.if_icmp .ge 26, 3) := by decide +kernel
theorem dX3_digest_130 : decode cX3_digest 130 = .ok (.aload 4, 2) := by decide +kernel
theorem dX3_digest_132 : decode cX3_digest 132 = .ok (.iload 6, 2) := by decide +kernel
theorem dX3_digest_134 : decode cX3_digest 134 = .ok (.iaload, 1) := by decide +kernel
theorem dX3_digest_135 : decode cX3_digest 135 = .ok (.istore 7, 2) := by decide +kernel
theorem dX3_digest_137 : decode cX3_digest 137 = .ok (.lload_n 2, 1) := by decide +kernel
theorem dX3_digest_138 : decode cX3_digest 138 = .ok (.ldc2_w 160, 3) := by decide +kernel
theorem dX3_digest_141 : decode cX3_digest 141 = .ok (.lmul, 1) := by decide +kernel
theorem dX3_digest_142 : decode cX3_digest 142 = .ok (.iload 7, 2) := by decide +kernel
theorem dX3_digest_144 : decode cX3_digest 144 = .ok (.i2l, 1) := by decide +kernel
theorem dX3_digest_145 : decode cX3_digest 145 = .ok (.ladd, 1) := by decide +kernel
theorem dX3_digest_146 : decode cX3_digest 146 = .ok (.lstore_n 2, 1) := by decide +kernel
theorem dX3_digest_147 : decode cX3_digest 147 = .ok (.iinc 6 1, 3) := by decide +kernel
theorem dX3_digest_150 : decode cX3_digest 150 = .ok (.goto (-27), 3) := by decide +kernel
theorem dX3_digest_153 : decode cX3_digest 153 = .ok (.iconst 0, 1) := by decide +kernel
theorem dX3_digest_154 : decode cX3_digest 154 = .ok (.istore 4, 2) := by decide +kernel
theorem dX3_digest_156 : decode cX3_digest 156 = .ok (.iload 4, 2) := by decide +kernel
theorem dX3_digest_158 : decode cX3_digest 158 = .ok (.iconst 4, 1) := by decide +kernel
theorem dX3_digest_159 : decode cX3_digest 159 = .ok (.if_icmp .ge 36, 3) := by decide +kernel
theorem dX3_digest_162 : decode cX3_digest 162 = .ok (.lload_n 2, 1) := by decide +kernel
theorem dX3_digest_163 : decode cX3_digest 163 = .ok (.ldc2_w 160, 3) := by decide +kernel
theorem dX3_digest_166 : decode cX3_digest 166 = .ok (.lmul, 1) := by decide +kernel
theorem dX3_digest_167 : decode cX3_digest 167 = .ok (.aload_n 0, 1) := by decide +kernel
theorem dX3_digest_168 : decode cX3_digest 168 = .ok (.iload 4, 2) := by decide +kernel
theorem dX3_digest_170 : decode cX3_digest 170 = .ok (.invokevirtual 115, 3) := by decide +kernel
theorem dX3_digest_173 : decode cX3_digest 173 = .ok (.i2l, 1) := by decide +kernel
theorem dX3_digest_174 : decode cX3_digest 174 = .ok (.ladd, 1) := by decide +kernel
theorem dX3_digest_175 : decode cX3_digest 175 = .ok (.ldc2_w 160, 3) := by decide +kernel
theorem dX3_digest_178 : decode cX3_digest 178 = .ok (.lmul, 1) := by decide +kernel
theorem dX3_digest_179 : decode cX3_digest 179 = .ok (.aload_n 0, 1) := by decide +kernel
theorem dX3_digest_180 : decode cX3_digest 180 = .ok (.getfield 16, 3) := by decide +kernel
theorem dX3_digest_183 : decode cX3_digest 183 = .ok (.iload 4, 2) := by decide +kernel
theorem dX3_digest_185 : decode cX3_digest 185 = .ok (.iaload, 1) := by decide +kernel
theorem dX3_digest_186 : decode cX3_digest 186 = .ok (.i2l, 1) := by decide +kernel
theorem dX3_digest_187 : decode cX3_digest 187 = .ok (.ladd, 1) := by decide +kernel
theorem dX3_digest_188 : decode cX3_digest 188 = .ok (.lstore_n 2, 1) := by decide +kernel
theorem dX3_digest_189 : decode cX3_digest 189 = .ok (.iinc 4 1, 3) := by decide +kernel
theorem dX3_digest_192 : decode cX3_digest 192 = .ok (.goto (-36), 3) := by decide +kernel
theorem dX3_digest_195 : decode cX3_digest 195 = .ok (.iconst 0, 1) := by decide +kernel
theorem dX3_digest_196 : decode cX3_digest 196 = .ok (.istore 4, 2) := by decide +kernel
theorem dX3_digest_198 : decode cX3_digest 198 = .ok (.iload 4, 2) := by decide +kernel
theorem dX3_digest_200 : decode cX3_digest 200 = .ok (.aload_n 0, 1) := by decide +kernel
theorem dX3_digest_201 : decode cX3_digest 201 = .ok (.getfield 39, 3) := by decide +kernel
theorem dX3_digest_204 : decode cX3_digest 204 = .ok (.if_icmp .ge 66, 3) := by decide +kernel
theorem dX3_digest_207 : decode cX3_digest 207 = .ok (.lload_n 2, 1) := by decide +kernel
theorem dX3_digest_208 : decode cX3_digest 208 = .ok (.ldc2_w 160, 3) := by decide +kernel
theorem dX3_digest_211 : decode cX3_digest 211 = .ok (.lmul, 1) := by decide +kernel
theorem dX3_digest_212 : decode cX3_digest 212 = .ok (.aload_n 0, 1) := by decide +kernel
theorem dX3_digest_213 : decode cX3_digest 213 = .ok (.getfield 25, 3) := by decide +kernel
theorem dX3_digest_216 : decode cX3_digest 216 = .ok (.iconst 1, 1) := by decide +kernel
theorem dX3_digest_217 : decode cX3_digest 217 = .ok (.iload 4, 2) := by decide +kernel
theorem dX3_digest_219 : decode cX3_digest 219 = .ok (.iadd, 1) := by decide +kernel
theorem dX3_digest_220 : decode cX3_digest 220 = .ok (.iaload, 1) := by decide +kernel
theorem dX3_digest_221 : decode cX3_digest 221 = .ok (.i2l, 1) := by decide +kernel
theorem dX3_digest_222 : decode cX3_digest 222 = .ok (.ladd, 1) := by decide +kernel
theorem dX3_digest_223 : decode cX3_digest 223 = .ok (.ldc2_w 160, 3) := by decide +kernel
theorem dX3_digest_226 : decode cX3_digest 226 = .ok (.lmul, 1) := by decide +kernel
theorem dX3_digest_227 : decode cX3_digest 227 = .ok (.aload_n 0, 1) := by decide +kernel
theorem dX3_digest_228 : decode cX3_digest 228 = .ok (.iload 4, 2) := by decide +kernel
theorem dX3_digest_230 : decode cX3_digest 230 = .ok (.invokevirtual 128, 3) := by decide +kernel
theorem dX3_digest_233 : decode cX3_digest 233 = .ok (.i2l, 1) := by decide +kernel
theorem dX3_digest_234 : decode cX3_digest 234 = .ok (.ladd, 1) := by decide +kernel
theorem dX3_digest_235 : decode cX3_digest 235 = .ok (.ldc2_w 160, 3) := by decide +kernel
theorem dX3_digest_238 : decode cX3_digest 238 = .ok (.lmul, 1) := by decide +kernel
theorem dX3_digest_239 : decode cX3_digest 239 = .ok (.aload_n 0, 1) := by decide +kernel
theorem dX3_digest_240 : decode cX3_digest 240 = .ok (.getfield 25, 3) := by decide +kernel
theorem dX3_digest_243 : decode cX3_digest 243 = .ok (.bipush 7, 2) := by decide +kernel
theorem dX3_digest_245 : decode cX3_digest 245 = .ok (.iload 4, 2) := by decide +kernel
theorem dX3_digest_247 : decode cX3_digest 247 = .ok (.iadd, 1) := by decide +kernel
theorem dX3_digest_248 : decode cX3_digest 248 = .ok (.iaload, 1) := by decide +kernel
theorem dX3_digest_249 : decode cX3_digest 249 = .ok (.i2l, 1) := by decide +kernel
theorem dX3_digest_250 : decode cX3_digest 250 = .ok (.ladd, 1) := by decide +kernel
theorem dX3_digest_251 : decode cX3_digest 251 = .ok (.ldc2_w 160, 3) := by decide +kernel
theorem dX3_digest_254 : decode cX3_digest 254 = .ok (.lmul, 1) := by decide +kernel
theorem dX3_digest_255 : decode cX3_digest 255 = .ok (.aload_n 0, 1) := by decide +kernel
theorem dX3_digest_256 : decode cX3_digest 256 = .ok (.iload 4, 2) := by decide +kernel
theorem dX3_digest_258 : decode cX3_digest 258 = .ok (.invokevirtual 143, 3) := by decide +kernel
theorem dX3_digest_261 : decode cX3_digest 261 = .ok (.i2l, 1) := by decide +kernel
theorem dX3_digest_262 : decode cX3_digest 262 = .ok (.ladd, 1) := by decide +kernel
theorem dX3_digest_263 : decode cX3_digest 263 = .ok (.lstore_n 2, 1) := by decide +kernel
theorem dX3_digest_264 : decode cX3_digest 264 = .ok (.iinc 4 1, 3) := by decide +kernel
theorem dX3_digest_267 : decode cX3_digest 267 = .ok (.goto (-69), 3) := by decide +kernel
theorem dX3_digest_270 : decode cX3_digest 270 = .ok (.iconst 0, 1) := by decide +kernel
theorem dX3_digest_271 : decode cX3_digest 271 = .ok (.istore 4, 2) := by decide +kernel
theorem dX3_digest_273 : decode cX3_digest 273 = .ok (.iload 4, 2) := by decide +kernel
theorem dX3_digest_275 : decode cX3_digest 275 = .ok (.aload_n 0, 1) := by decide +kernel
theorem dX3_digest_276 : decode cX3_digest 276 = .ok (.getfield 42, 3) := by decide +kernel
theorem dX3_digest_279 : decode cX3_digest 279 = .ok (.if_icmp .ge 123, 3) := by decide +kernel
theorem dX3_digest_282 : decode cX3_digest 282 = .ok (.lload_n 2, 1) := by decide +kernel
theorem dX3_digest_283 : decode cX3_digest 283 = .ok (.ldc2_w 160, 3) := by decide +kernel
theorem dX3_digest_286 : decode cX3_digest 286 = .ok (.lmul, 1) := by decide +kernel
theorem dX3_digest_287 : decode cX3_digest 287 = .ok (.aload_n 0, 1) := by decide +kernel
theorem dX3_digest_288 : decode cX3_digest 288 = .ok (.iload 4, 2) := by decide +kernel
theorem dX3_digest_290 : decode cX3_digest 290 = .ok (.invokevirtual 118, 3) := by decide +kernel
theorem dX3_digest_293 : decode cX3_digest 293 = .ok (.i2l, 1) := by decide +kernel
theorem dX3_digest_294 : decode cX3_digest 294 = .ok (.ladd, 1) := by decide +kernel
theorem dX3_digest_295 : decode cX3_digest 295 = .ok (.ldc2_w 160, 3) := by decide +kernel
theorem dX3_digest_298 : decode cX3_digest 298 = .ok (.lmul, 1) := by decide +kernel
theorem dX3_digest_299 : decode cX3_digest 299 = .ok (.aload_n 0, 1) := by decide +kernel
theorem dX3_digest_300 : decode cX3_digest 300 = .ok (.getfield 25, 3) := by decide +kernel
theorem dX3_digest_303 : decode cX3_digest 303 = .ok (.bipush 73, 2) := by decide +kernel
theorem dX3_digest_305 : decode cX3_digest 305 = .ok (.iload 4, 2) := by decide +kernel
theorem dX3_digest_307 : decode cX3_digest 307 = .ok (.iadd, 1) := by decide +kernel
theorem dX3_digest_308 : decode cX3_digest 308 = .ok (.iaload, 1) := by decide +kernel
theorem dX3_digest_309 : decode cX3_digest 309 = .ok (.i2l, 1) := by decide +kernel
theorem dX3_digest_310 : decode cX3_digest 310 = .ok (.ladd, 1) := by decide +kernel
theorem dX3_digest_311 : decode cX3_digest 311 = .ok (.ldc2_w 160, 3) := by decide +kernel
theorem dX3_digest_314 : decode cX3_digest 314 = .ok (.lmul, 1) := by decide +kernel
theorem dX3_digest_315 : decode cX3_digest 315 = .ok (.aload_n 0, 1) := by decide +kernel
theorem dX3_digest_316 : decode cX3_digest 316 = .ok (.getfield 25, 3) := by decide +kernel
theorem dX3_digest_319 : decode cX3_digest 319 = .ok (.bipush 13, 2) := by decide +kernel
theorem dX3_digest_321 : decode cX3_digest 321 = .ok (.iload 4, 2) := by decide +kernel
theorem dX3_digest_323 : decode cX3_digest 323 = .ok (.iadd, 1) := by decide +kernel
theorem dX3_digest_324 : decode cX3_digest 324 = .ok (.iaload, 1) := by decide +kernel
theorem dX3_digest_325 : decode cX3_digest 325 = .ok (.iconst 1, 1) := by decide +kernel
theorem dX3_digest_326 : decode cX3_digest 326 = .ok (.if_icmp .ne 7, 3) := by decide +kernel
theorem dX3_digest_329 : decode cX3_digest 329 = .ok (.iconst 1, 1) := by decide +kernel
theorem dX3_digest_330 : decode cX3_digest 330 = .ok (.goto 4, 3) := by decide +kernel
theorem dX3_digest_333 : decode cX3_digest 333 = .ok (.iconst 0, 1) := by decide +kernel
theorem dX3_digest_334 : decode cX3_digest 334 = .ok (.i2l, 1) := by decide +kernel
theorem dX3_digest_335 : decode cX3_digest 335 = .ok (.ladd, 1) := by decide +kernel
theorem dX3_digest_336 : decode cX3_digest 336 = .ok (.lstore_n 2, 1) := by decide +kernel
theorem dX3_digest_337 : decode cX3_digest 337 = .ok (.lload_n 2, 1) := by decide +kernel
theorem dX3_digest_338 : decode cX3_digest 338 = .ok (.ldc2_w 160, 3) := by decide +kernel
theorem dX3_digest_341 : decode cX3_digest 341 = .ok (.lmul, 1) := by decide +kernel
theorem dX3_digest_342 : decode cX3_digest 342 = .ok (.aload_n 0, 1) := by decide +kernel
theorem dX3_digest_343 : decode cX3_digest 343 = .ok (.iload 4, 2) := by decide +kernel
theorem dX3_digest_345 : decode cX3_digest 345 = .ok (.iconst 1, 1) := by decide +kernel
theorem dX3_digest_346 : decode cX3_digest 346 = .ok (.invokevirtual 131, 3) := by decide +kernel
theorem dX3_digest_349 : decode cX3_digest 349 = .ok (.i2l, 1) := by decide +kernel
theorem dX3_digest_350 : decode cX3_digest 350 = .ok (.ladd, 1) := by decide +kernel
theorem dX3_digest_351 : decode cX3_digest 351 = .ok (.ldc2_w 160, 3) := by decide +kernel
theorem dX3_digest_354 : decode cX3_digest 354 = .ok (.lmul, 1) := by decide +kernel
theorem dX3_digest_355 : decode cX3_digest 355 = .ok (.aload_n 0, 1) := by decide +kernel
theorem dX3_digest_356 : decode cX3_digest 356 = .ok (.iload 4, 2) := by decide +kernel
theorem dX3_digest_358 : decode cX3_digest 358 = .ok (.invokevirtual 51, 3) := by decide +kernel
theorem dX3_digest_361 : decode cX3_digest 361 = .ok (.ifCond .eq 19, 3) := by decide +kernel
theorem dX3_digest_364 : decode cX3_digest 364 = .ok (.aload_n 0, 1) := by decide +kernel
theorem dX3_digest_365 : decode cX3_digest 365 = .ok (.iload 4, 2) := by decide +kernel
theorem dX3_digest_367 : decode cX3_digest 367 = .ok (.aload_n 0, 1) := by decide +kernel
theorem dX3_digest_368 : decode cX3_digest 368 = .ok (.getfield 22, 3) := by decide +kernel
theorem dX3_digest_371 : decode cX3_digest 371 = .ok (.iload 4, 2) := by decide +kernel
theorem dX3_digest_373 : decode cX3_digest 373 = .ok (.iaload, 1) := by decide +kernel
theorem dX3_digest_374 : decode cX3_digest 374 = .ok (.invokevirtual 134, 3) := by decide +kernel
theorem dX3_digest_377 : decode cX3_digest 377 = .ok (.goto 4, 3) := by decide +kernel
theorem dX3_digest_380 : decode cX3_digest 380 = .ok (.iconst (-1), 1) := by decide +kernel
theorem dX3_digest_381 : decode cX3_digest 381 = .ok (.i2l, 1) := by decide +kernel
theorem dX3_digest_382 : decode cX3_digest 382 = .ok (.ladd, 1) := by decide +kernel
theorem dX3_digest_383 : decode cX3_digest 383 = .ok (.ldc2_w 160, 3) := by decide +kernel
theorem dX3_digest_386 : decode cX3_digest 386 = .ok (.lmul, 1) := by decide +kernel
theorem dX3_digest_387 : decode cX3_digest 387 = .ok (.aload_n 0, 1) := by decide +kernel
theorem dX3_digest_388 : decode cX3_digest 388 = .ok (.iload 4, 2) := by decide +kernel
theorem dX3_digest_390 : decode cX3_digest 390 = .ok (.invokevirtual 155, 3) := by decide +kernel
theorem dX3_digest_393 : decode cX3_digest 393 = .ok (.i2l, 1) := by decide +kernel
theorem dX3_digest_394 : decode cX3_digest 394 = .ok (.ladd, 1) := by decide +kernel
theorem dX3_digest_395 : decode cX3_digest 395 = .ok (.lstore_n 2, 1) := by decide +kernel
theorem dX3_digest_396 : decode cX3_digest 396 = .ok (.iinc 4 1, 3) := by decide +kernel
theorem dX3_digest_399 : decode cX3_digest 399 = .ok (.goto (-126), 3) := by decide +kernel
theorem dX3_digest_402 : decode cX3_digest 402 = .ok (.lload_n 2, 1) := by decide +kernel
theorem dX3_digest_403 : decode cX3_digest 403 = .ok (.lreturn, 1) := by decide +kernel
theorem dJ9_max_7cf53_0 : decode cJ9_max_7cf53 0 = .ok (.iload_n 0, 1) := by decide +kernel
theorem dJ9_max_7cf53_1 : decode cJ9_max_7cf53 1 = .ok (.iload_n 1, 1) := by decide +kernel
theorem dJ9_max_7cf53_2 : decode cJ9_max_7cf53 2 = .ok (.if_icmp .lt 7, 3) := by decide +kernel
theorem dJ9_max_7cf53_5 : decode cJ9_max_7cf53 5 = .ok (.iload_n 0, 1) := by decide +kernel
theorem dJ9_max_7cf53_6 : decode cJ9_max_7cf53 6 = .ok (.goto 4, 3) := by decide +kernel
theorem dJ9_max_7cf53_9 : decode cJ9_max_7cf53 9 = .ok (.iload_n 1, 1) := by decide +kernel
theorem dJ9_max_7cf53_10 : decode cJ9_max_7cf53 10 = .ok (.ireturn, 1) := by decide +kernel
