theorem dX0_init_0 : decode cX0_init 0 = .ok (.aload_n 0, 1) := by decide +kernel
theorem dX0_init_1 : decode cX0_init 1 = .ok (.invokespecial 1, 3) := by decide +kernel
theorem dX0_init_4 : decode cX0_init 4 = .ok (.aload_n 0, 1) := by decide +kernel
theorem dX0_init_5 : decode cX0_init 5 = .ok (.iconst 0, 1) := by decide +kernel
theorem dX0_init_6 : decode cX0_init 6 = .ok (.iload_n 1, 1) := by decide +kernel
theorem dX0_init_7 : decode cX0_init 7 = .ok (.invokestatic 7, 3) := by decide +kernel
theorem dX0_init_10 : decode cX0_init 10 = .ok (.newarray .int, 2) := by decide +kernel
theorem dX0_init_12 : decode cX0_init 12 = .ok (.putfield 13, 3) := by decide +kernel
theorem dX0_init_15 : decode cX0_init 15 = .ok (.return_, 1) := by decide +kernel
theorem dX0_get_0 : decode cX0_get 0 = .ok (.iload_n 1, 1) := by decide +kernel
theorem dX0_get_1 : decode cX0_get 1 = .ok (.ifCond .lt 21, 3) := by decide +kernel
theorem dX0_get_4 : decode cX0_get 4 = .ok (.iload_n 1, 1) := by decide +kernel
theorem dX0_get_5 : decode cX0_get 5 = .ok (.aload_n 0, 1) := by decide +kernel
theorem dX0_get_6 : decode cX0_get 6 = .ok (.getfield 13, 3) := by decide +kernel
theorem dX0_get_9 : decode cX0_get 9 = .ok (.arraylength, 1) := by decide +kernel
theorem dX0_get_10 : decode cX0_get 10 = .ok (.if_icmp .ge 12, 3) := by decide +kernel
theorem dX0_get_13 : decode cX0_get 13 = .ok (.aload_n 0, 1) := by decide +kernel
theorem dX0_get_14 : decode cX0_get 14 = .ok (.getfield 13, 3) := by decide +kernel
theorem dX0_get_17 : decode cX0_get 17 = .ok (.iload_n 1, 1) := by decide +kernel
theorem dX0_get_18 : decode cX0_get 18 = .ok (.iaload, 1) := by decide +kernel
theorem dX0_get_19 : decode cX0_get 19 = .ok (.goto 4, 3) := by decide +kernel
theorem dX0_get_22 : decode cX0_get 22 = .ok (.iconst 0, 1) := by decide +kernel
theorem dX0_get_23 : decode cX0_get 23 = .ok (.ireturn, 1) := by decide +kernel
theorem dX0_set_0 : decode cX0_set 0 = .ok (.iload_n 1, 1) := by decide +kernel
theorem dX0_set_1 : decode cX0_set 1 = .ok (.ifCond .lt 19, 3) := by decide +kernel
theorem dX0_set_4 : decode cX0_set 4 = .ok (.iload_n 1, 1) := by decide +kernel
theorem dX0_set_5 : decode cX0_set 5 = .ok (.aload_n 0, 1) := by decide +kernel
theorem dX0_set_6 : decode cX0_set 6 = .ok (.getfield 13, 3) := by decide +kernel
theorem dX0_set_9 : decode cX0_set 9 = .ok (.arraylength, 1) := by decide +kernel
theorem dX0_set_10 : decode cX0_set 10 = .ok (.if_icmp .ge 10, 3) := by decide +kernel
theorem dX0_set_13 : decode cX0_set 13 = .ok (.aload_n 0, 1) := by decide +kernel
theorem dX0_set_14 : decode cX0_set 14 = .ok (.getfield 13, 3) := by decide +kernel
theorem dX0_set_17 : decode cX0_set 17 = .ok (.iload_n 1, 1) := by decide +kernel
theorem dX0_set_18 : decode cX0_set 18 = .ok (.iload_n 2, 1) := by decide +kernel
theorem dX0_set_19 : decode cX0_set 19 = .ok (.iastore, 1) := by decide +kernel
theorem dX0_set_20 : decode cX0_set 20 = .ok (.return_, 1) := by decide +kernel
set_option maxRecDepth 20000 in
theorem ggX0_copyFrom_X0_get : GoodIn wsX0_copyFrom wsX0_get := goodIn_r _ [6, 1, 7] (by decide +kernel) (by decide +kernel)
set_option maxRecDepth 20000 in
theorem gX0_copyFrom_X0_get : GoodIn wsX0_copyFrom (wsV RX0 19 RX0 yX0_get wsX0_get) := goodIn_app (goodIn_of _ (by decide +kernel)) ggX0_copyFrom_X0_get
theorem dX0_copyFrom_0 : decode cX0_copyFrom 0 = .ok (.iconst 0, 1) := by decide +kernel
theorem dX0_copyFrom_1 : decode cX0_copyFrom 1 = .ok (.istore_n 2, 1) := by decide +kernel
theorem dX0_copyFrom_2 : decode cX0_copyFrom 2 = .ok (.iload_n 2, 1) := by decide +kernel
theorem dX0_copyFrom_3 : decode cX0_copyFrom 3 = .ok (.aload_n 0, 1) := by decide +kernel
theorem dX0_copyFrom_4 : decode cX0_copyFrom 4 = .ok (.getfield 13, 3) := by decide +kernel
theorem dX0_copyFrom_7 : decode cX0_copyFrom 7 = .ok (.arraylength, 1) := by decide +kernel
theorem dX0_copyFrom_8 : decode cX0_copyFrom 8 = .ok (.if_icmp .ge 20, 3) := by decide +kernel
theorem dX0_copyFrom_11 : decode cX0_copyFrom 11 = .ok (.aload_n 0, 1) := by decide +kernel
theorem dX0_copyFrom_12 : decode cX0_copyFrom 12 = .ok (.getfield 13, 3) := by decide +kernel
theorem dX0_copyFrom_15 : decode cX0_copyFrom 15 = .ok (.iload_n 2, 1) := by decide +kernel
theorem dX0_copyFrom_16 : decode cX0_copyFrom 16 = .ok (.aload_n 1, 1) := by decide +kernel
theorem dX0_copyFrom_17 : decode cX0_copyFrom 17 = .ok (.iload_n 2, 1) := by decide +kernel
theorem dX0_copyFrom_18 : decode cX0_copyFrom 18 = .ok (.invokevirtual 19, 3) := by decide +kernel
theorem dX0_copyFrom_21 : decode cX0_copyFrom 21 = .ok (.iastore, 1) := by decide +kernel
theorem dX0_copyFrom_22 : decode cX0_copyFrom 22 = .ok (.iinc 2 1, 3) := by decide +kernel
theorem dX0_copyFrom_25 : decode cX0_copyFrom 25 = .ok (.goto (-23), 3) := by decide +kernel
theorem dX0_copyFrom_28 : decode cX0_copyFrom 28 = .ok (.return_, 1) := by decide +kernel
set_option maxRecDepth 20000 in
theorem ggX1_init_X0_init : GoodIn wsX1_init wsX0_init := goodIn_r _ [19, 20, 2, 3, 21, 22, 23, 24, 25, 26, 27] (by decide +kernel) (by decide +kernel)
set_option maxRecDepth 20000 in
theorem gX1_init_X0_init : GoodIn wsX1_init (wsX0_init) := ggX1_init_X0_init
theorem dX1_init_0 : decode cX1_init 0 = .ok (.aload_n 0, 1) := by decide +kernel
theorem dX1_init_1 : decode cX1_init 1 = .ok (.invokespecial 3, 3) := by decide +kernel
theorem dX1_init_4 : decode cX1_init 4 = .ok (.aload_n 0, 1) := by decide +kernel
theorem dX1_init_5 : decode cX1_init 5 = .ok (.new 9, 3) := by decide +kernel
theorem dX1_init_8 : decode cX1_init 8 = .ok (.dup, 1) := by decide +kernel
theorem dX1_init_9 : decode cX1_init 9 = .ok (.iconst 4, 1) := by decide +kernel
theorem dX1_init_10 : decode cX1_init 10 = .ok (.invokespecial 11, 3) := by decide +kernel
theorem dX1_init_13 : decode cX1_init 13 = .ok (.putfield 14, 3) := by decide +kernel
theorem dX1_init_16 : decode cX1_init 16 = .ok (.aload_n 0, 1) := by decide +kernel
theorem dX1_init_17 : decode cX1_init 17 = .ok (.new 9, 3) := by decide +kernel
theorem dX1_init_20 : decode cX1_init 20 = .ok (.dup, 1) := by decide +kernel
theorem dX1_init_21 : decode cX1_init 21 = .ok (.bipush 6, 2) := by decide +kernel
theorem dX1_init_23 : decode cX1_init 23 = .ok (.invokespecial 11, 3) := by decide +kernel
theorem dX1_init_26 : decode cX1_init 26 = .ok (.putfield 20, 3) := by decide +kernel
theorem dX1_init_29 : decode cX1_init 29 = .ok (.aload_n 0, 1) := by decide +kernel
theorem dX1_init_30 : decode cX1_init 30 = .ok (.new 9, 3) := by decide +kernel
theorem dX1_init_33 : decode cX1_init 33 = .ok (.dup, 1) := by decide +kernel
theorem dX1_init_34 : decode cX1_init 34 = .ok (.bipush 6, 2) := by decide +kernel
theorem dX1_init_36 : decode cX1_init 36 = .ok (.invokespecial 11, 3) := by decide +kernel
theorem dX1_init_39 : decode cX1_init 39 = .ok (.putfield 23, 3) := by decide +kernel
theorem dX1_init_42 : decode cX1_init 42 = .ok (.aload_n 0, 1) := by decide +kernel
theorem dX1_init_43 : decode cX1_init 43 = .ok (.new 9, 3) := by decide +kernel
theorem dX1_init_46 : decode cX1_init 46 = .ok (.dup, 1) := by decide +kernel
theorem dX1_init_47 : decode cX1_init 47 = .ok (.bipush 6, 2) := by decide +kernel
theorem dX1_init_49 : decode cX1_init 49 = .ok (.invokespecial 11, 3) := by decide +kernel
theorem dX1_init_52 : decode cX1_init 52 = .ok (.putfield 26, 3) := by decide +kernel
theorem dX1_init_55 : decode cX1_init 55 = .ok (.aload_n 0, 1) := by decide +kernel
theorem dX1_init_56 : decode cX1_init 56 = .ok (.new 9, 3) := by decide +kernel
theorem dX1_init_59 : decode cX1_init 59 = .ok (.dup, 1) := by decide +kernel
theorem dX1_init_60 : decode cX1_init 60 = .ok (.bipush 6, 2) := by decide +kernel
theorem dX1_init_62 : decode cX1_init 62 = .ok (.invokespecial 11, 3) := by decide +kernel
theorem dX1_init_65 : decode cX1_init 65 = .ok (.putfield 29, 3) := by decide +kernel
theorem dX1_init_68 : decode cX1_init 68 = .ok (.aload_n 0, 1) := by decide +kernel
theorem dX1_init_69 : decode cX1_init 69 = .ok (.new 9, 3) := by decide +kernel
theorem dX1_init_72 : decode cX1_init 72 = .ok (.dup, 1) := by decide +kernel
theorem dX1_init_73 : decode cX1_init 73 = .ok (.bipush 60, 2) := by decide +kernel
theorem dX1_init_75 : decode cX1_init 75 = .ok (.invokespecial 11, 3) := by decide +kernel
theorem dX1_init_78 : decode cX1_init 78 = .ok (.putfield 32, 3) := by decide +kernel
theorem dX1_init_81 : decode cX1_init 81 = .ok (.aload_n 0, 1) := by decide +kernel
theorem dX1_init_82 : decode cX1_init 82 = .ok (.new 9, 3) := by decide +kernel
theorem dX1_init_85 : decode cX1_init 85 = .ok (.dup, 1) := by decide +kernel
theorem dX1_init_86 : decode cX1_init 86 = .ok (.bipush 60, 2) := by decide +kernel
theorem dX1_init_88 : decode cX1_init 88 = .ok (.invokespecial 11, 3) := by decide +kernel
theorem dX1_init_91 : decode cX1_init 91 = .ok (.putfield 35, 3) := by decide +kernel
theorem dX1_init_94 : decode cX1_init 94 = .ok (.aload_n 0, 1) := by decide +kernel
theorem dX1_init_95 : decode cX1_init 95 = .ok (.new 9, 3) := by decide +kernel
theorem dX1_init_98 : decode cX1_init 98 = .ok (.dup, 1) := by decide +kernel
theorem dX1_init_99 : decode cX1_init 99 = .ok (.bipush 60, 2) := by decide +kernel
theorem dX1_init_101 : decode cX1_init 101 = .ok (.invokespecial 11, 3) := by decide +kernel
theorem dX1_init_104 : decode cX1_init 104 = .ok (.putfield 38, 3) := by decide +kernel
theorem dX1_init_107 : decode cX1_init 107 = .ok (.aload_n 0, 1) := by decide +kernel
theorem dX1_init_108 : decode cX1_init 108 = .ok (.new 9, 3) := by decide +kernel
theorem dX1_init_111 : decode cX1_init 111 = .ok (.dup, 1) := by decide +kernel
theorem dX1_init_112 : decode cX1_init 112 = .ok (.bipush 60, 2) := by decide +kernel
theorem dX1_init_114 : decode cX1_init 114 = .ok (.invokespecial 11, 3) := by decide +kernel
theorem dX1_init_117 : decode cX1_init 117 = .ok (.putfield 41, 3) := by decide +kernel
theorem dX1_init_120 : decode cX1_init 120 = .ok (.aload_n 0, 1) := by decide +kernel
theorem dX1_init_121 : decode cX1_init 121 = .ok (.iconst 0, 1) := by decide +kernel
theorem dX1_init_122 : decode cX1_init 122 = .ok (.putfield 44, 3) := by decide +kernel
theorem dX1_init_125 : decode cX1_init 125 = .ok (.return_, 1) := by decide +kernel
set_option maxRecDepth 20000 in
theorem ggX1_copyFrom_X0_copyFrom : GoodIn wsX1_copyFrom wsX0_copyFrom := goodIn_r _ [19, 20, 21, 22, 23, 18, 24, 39] (by decide +kernel) (by decide +kernel)
set_option maxRecDepth 20000 in
theorem gX1_copyFrom_X0_copyFrom : GoodIn wsX1_copyFrom (wsV RX1 48 RX0 yX0_copyFrom wsX0_copyFrom) := goodIn_app (goodIn_of _ (by decide +kernel)) ggX1_copyFrom_X0_copyFrom
theorem dX1_copyFrom_0 : decode cX1_copyFrom 0 = .ok (.aload_n 0, 1) := by decide +kernel
theorem dX1_copyFrom_1 : decode cX1_copyFrom 1 = .ok (.getfield 14, 3) := by decide +kernel
theorem dX1_copyFrom_4 : decode cX1_copyFrom 4 = .ok (.aload_n 1, 1) := by decide +kernel
theorem dX1_copyFrom_5 : decode cX1_copyFrom 5 = .ok (.getfield 14, 3) := by decide +kernel
theorem dX1_copyFrom_8 : decode cX1_copyFrom 8 = .ok (.invokevirtual 48, 3) := by decide +kernel
theorem dX1_copyFrom_11 : decode cX1_copyFrom 11 = .ok (.aload_n 0, 1) := by decide +kernel
theorem dX1_copyFrom_12 : decode cX1_copyFrom 12 = .ok (.getfield 20, 3) := by decide +kernel
theorem dX1_copyFrom_15 : decode cX1_copyFrom 15 = .ok (.aload_n 1, 1) := by decide +kernel
theorem dX1_copyFrom_16 : decode cX1_copyFrom 16 = .ok (.getfield 20, 3) := by decide +kernel
theorem dX1_copyFrom_19 : decode cX1_copyFrom 19 = .ok (.invokevirtual 48, 3) := by decide +kernel
theorem dX1_copyFrom_22 : decode cX1_copyFrom 22 = .ok (.aload_n 0, 1) := by decide +kernel
theorem dX1_copyFrom_23 : decode cX1_copyFrom 23 = .ok (.getfield 23, 3) := by decide +kernel
theorem dX1_copyFrom_26 : decode cX1_copyFrom 26 = .ok (.aload_n 1, 1) := by decide +kernel
theorem dX1_copyFrom_27 : decode cX1_copyFrom 27 = .ok (.getfield 23, 3) := by decide +kernel
theorem dX1_copyFrom_30 : decode cX1_copyFrom 30 = .ok (.invokevirtual 48, 3) := by decide +kernel
theorem dX1_copyFrom_33 : decode cX1_copyFrom 33 = .ok (.aload_n 0, 1) := by decide +kernel
theorem dX1_copyFrom_34 : decode cX1_copyFrom 34 = .ok (.getfield 26, 3) := by decide +kernel
theorem dX1_copyFrom_37 : decode cX1_copyFrom 37 = .ok (.aload_n 1, 1) := by decide +kernel
theorem dX1_copyFrom_38 : decode cX1_copyFrom 38 = .ok (.getfield 26, 3) := by decide +kernel
theorem dX1_copyFrom_41 : decode cX1_copyFrom 41 = .ok (.invokevirtual 48, 3) := by decide +kernel
theorem dX1_copyFrom_44 : decode cX1_copyFrom 44 = .ok (.aload_n 0, 1) := by decide +kernel
theorem dX1_copyFrom_45 : decode cX1_copyFrom 45 = .ok (.getfield 29, 3) := by decide +kernel
theorem dX1_copyFrom_48 : decode cX1_copyFrom 48 = .ok (.aload_n 1, 1) := by decide +kernel
theorem dX1_copyFrom_49 : decode cX1_copyFrom 49 = .ok (.getfield 29, 3) := by decide +kernel
theorem dX1_copyFrom_52 : decode cX1_copyFrom 52 = .ok (.invokevirtual 48, 3) := by decide +kernel
theorem dX1_copyFrom_55 : decode cX1_copyFrom 55 = .ok (.aload_n 0, 1) := by decide +kernel
theorem dX1_copyFrom_56 : decode cX1_copyFrom 56 = .ok (.aload_n 1, 1) := by decide +kernel
theorem dX1_copyFrom_57 : decode cX1_copyFrom 57 = .ok (.getfield 52, 3) := by decide +kernel
theorem dX1_copyFrom_60 : decode cX1_copyFrom 60 = .ok (.putfield 52, 3) := by decide +kernel
theorem dX1_copyFrom_63 : decode cX1_copyFrom 63 = .ok (.aload_n 0, 1) := by decide +kernel
theorem dX1_copyFrom_64 : decode cX1_copyFrom 64 = .ok (.getfield 32, 3) := by decide +kernel
theorem dX1_copyFrom_67 : decode cX1_copyFrom 67 = .ok (.aload_n 1, 1) := by decide +kernel
theorem dX1_copyFrom_68 : decode cX1_copyFrom 68 = .ok (.getfield 32, 3) := by decide +kernel
theorem dX1_copyFrom_71 : decode cX1_copyFrom 71 = .ok (.invokevirtual 48, 3) := by decide +kernel
theorem dX1_copyFrom_74 : decode cX1_copyFrom 74 = .ok (.aload_n 0, 1) := by decide +kernel
theorem dX1_copyFrom_75 : decode cX1_copyFrom 75 = .ok (.getfield 35, 3) := by decide +kernel
theorem dX1_copyFrom_78 : decode cX1_copyFrom 78 = .ok (.aload_n 1, 1) := by decide +kernel
theorem dX1_copyFrom_79 : decode cX1_copyFrom 79 = .ok (.getfield 35, 3) := by decide +kernel
theorem dX1_copyFrom_82 : decode cX1_copyFrom 82 = .ok (.invokevirtual 48, 3) := by decide +kernel
theorem dX1_copyFrom_85 : decode cX1_copyFrom 85 = .ok (.aload_n 0, 1) := by decide +kernel
theorem dX1_copyFrom_86 : decode cX1_copyFrom 86 = .ok (.getfield 38, 3) := by decide +kernel
theorem dX1_copyFrom_89 : decode cX1_copyFrom 89 = .ok (.aload_n 1, 1) := by decide +kernel
theorem dX1_copyFrom_90 : decode cX1_copyFrom 90 = .ok (.getfield 38, 3) := by decide +kernel
theorem dX1_copyFrom_93 : decode cX1_copyFrom 93 = .ok (.invokevirtual 48, 3) := by decide +kernel
theorem dX1_copyFrom_96 : decode cX1_copyFrom 96 = .ok (.aload_n 0, 1) := by decide +kernel
theorem dX1_copyFrom_97 : decode cX1_copyFrom 97 = .ok (.getfield 41, 3) := by decide +kernel
theorem dX1_copyFrom_100 : decode cX1_copyFrom 100 = .ok (.aload_n 1, 1) := by decide +kernel
theorem dX1_copyFrom_101 : decode cX1_copyFrom 101 = .ok (.getfield 41, 3) := by decide +kernel
theorem dX1_copyFrom_104 : decode cX1_copyFrom 104 = .ok (.invokevirtual 48, 3) := by decide +kernel
theorem dX1_copyFrom_107 : decode cX1_copyFrom 107 = .ok (.aload_n 0, 1) := by decide +kernel
theorem dX1_copyFrom_108 : decode cX1_copyFrom 108 = .ok (.aload_n 1, 1) := by decide +kernel
theorem dX1_copyFrom_109 : decode cX1_copyFrom 109 = .ok (.getfield 55, 3) := by decide +kernel
theorem dX1_copyFrom_112 : decode cX1_copyFrom 112 = .ok (.putfield 55, 3) := by decide +kernel
theorem dX1_copyFrom_115 : decode cX1_copyFrom 115 = .ok (.aload_n 0, 1) := by decide +kernel
theorem dX1_copyFrom_116 : decode cX1_copyFrom 116 = .ok (.aload_n 1, 1) := by decide +kernel
theorem dX1_copyFrom_117 : decode cX1_copyFrom 117 = .ok (.getfield 58, 3) := by decide +kernel
theorem dX1_copyFrom_120 : decode cX1_copyFrom 120 = .ok (.putfield 58, 3) := by decide +kernel
theorem dX1_copyFrom_123 : decode cX1_copyFrom 123 = .ok (.aload_n 0, 1) := by decide +kernel
theorem dX1_copyFrom_124 : decode cX1_copyFrom 124 = .ok (.aload_n 1, 1) := by decide +kernel
theorem dX1_copyFrom_125 : decode cX1_copyFrom 125 = .ok (.getfield 44, 3) := by decide +kernel
theorem dX1_copyFrom_128 : decode cX1_copyFrom 128 = .ok (.putfield 44, 3) := by decide +kernel
theorem dX1_copyFrom_131 : decode cX1_copyFrom 131 = .ok (.aload_n 0, 1) := by decide +kernel
theorem dX1_copyFrom_132 : decode cX1_copyFrom 132 = .ok (.aload_n 1, 1) := by decide +kernel
theorem dX1_copyFrom_133 : decode cX1_copyFrom 133 = .ok (.getfield 61, 3) := by decide +kernel
theorem dX1_copyFrom_136 : decode cX1_copyFrom 136 = .ok (.putfield 61, 3) := by decide +kernel
theorem dX1_copyFrom_139 : decode cX1_copyFrom 139 = .ok (.return_, 1) := by decide +kernel
set_option maxRecDepth 20000 in
theorem ggX1_takeBatch_X0_set : GoodIn wsX1_takeBatch wsX0_set := goodIn_r _ [8, 9, 24] (by decide +kernel) (by decide +kernel)
set_option maxRecDepth 20000 in
theorem gX1_takeBatch_X0_set : GoodIn wsX1_takeBatch (wsV RX1 64 RX0 yX0_set wsX0_set) := goodIn_app (goodIn_of _ (by decide +kernel)) ggX1_takeBatch_X0_set
theorem dX1_takeBatch_0 : decode cX1_takeBatch 0 = .ok (.aload_n 0, 1) := by decide +kernel
theorem dX1_takeBatch_1 : decode cX1_takeBatch 1 = .ok (.getfield 52, 3) := by decide +kernel
theorem dX1_takeBatch_4 : decode cX1_takeBatch 4 = .ok (.istore_n 3, 1) := by decide +kernel
theorem dX1_takeBatch_5 : decode cX1_takeBatch 5 = .ok (.aload_n 0, 1) := by decide +kernel
theorem dX1_takeBatch_6 : decode cX1_takeBatch 6 = .ok (.getfield 20, 3) := by decide +kernel
theorem dX1_takeBatch_9 : decode cX1_takeBatch 9 = .ok (.iload_n 3, 1) := by decide +kernel
theorem dX1_takeBatch_10 : decode cX1_takeBatch 10 = .ok (.iload_n 1, 1) := by decide +kernel
theorem dX1_takeBatch_11 : decode cX1_takeBatch 11 = .ok (.invokevirtual 64, 3) := by decide +kernel
theorem dX1_takeBatch_14 : decode cX1_takeBatch 14 = .ok (.aload_n 0, 1) := by decide +kernel
theorem dX1_takeBatch_15 : decode cX1_takeBatch 15 = .ok (.getfield 23, 3) := by decide +kernel
theorem dX1_takeBatch_18 : decode cX1_takeBatch 18 = .ok (.iload_n 3, 1) := by decide +kernel
theorem dX1_takeBatch_19 : decode cX1_takeBatch 19 = .ok (.iload_n 2, 1) := by decide +kernel
theorem dX1_takeBatch_20 : decode cX1_takeBatch 20 = .ok (.invokevirtual 64, 3) := by decide +kernel
theorem dX1_takeBatch_23 : decode cX1_takeBatch 23 = .ok (.aload_n 0, 1) := by decide +kernel
theorem dX1_takeBatch_24 : decode cX1_takeBatch 24 = .ok (.dup, 1) := by decide +kernel
theorem dX1_takeBatch_25 : decode cX1_takeBatch 25 = .ok (.getfield 52, 3) := by decide +kernel
theorem dX1_takeBatch_28 : decode cX1_takeBatch 28 = .ok (.iconst 1, 1) := by decide +kernel
theorem dX1_takeBatch_29 : decode cX1_takeBatch 29 = .ok (.iadd, 1) := by decide +kernel
theorem dX1_takeBatch_30 : decode cX1_takeBatch 30 = .ok (.putfield 52, 3) := by decide +kernel
theorem dX1_takeBatch_33 : decode cX1_takeBatch 33 = .ok (.iload_n 3, 1) := by decide +kernel
theorem dX1_takeBatch_34 : decode cX1_takeBatch 34 = .ok (.ireturn, 1) := by decide +kernel
set_option maxRecDepth 20000 in
theorem ggX1_takeTins_X0_set : GoodIn wsX1_takeTins wsX0_set := goodIn_r _ [11, 12, 31] (by decide +kernel) (by decide +kernel)
set_option maxRecDepth 20000 in
theorem gX1_takeTins_X0_set : GoodIn wsX1_takeTins (wsV RX1 64 RX0 yX0_set wsX0_set) := goodIn_app (goodIn_of _ (by decide +kernel)) ggX1_takeTins_X0_set
set_option maxRecDepth 20000 in
theorem ggX1_takeTins_X0_get : GoodIn wsX1_takeTins wsX0_get := goodIn_r _ [16, 12, 31] (by decide +kernel) (by decide +kernel)
set_option maxRecDepth 20000 in
theorem gX1_takeTins_X0_get : GoodIn wsX1_takeTins (wsV RX1 68 RX0 yX0_get wsX0_get) := goodIn_app (goodIn_of _ (by decide +kernel)) ggX1_takeTins_X0_get
theorem dX1_takeTins_0 : decode cX1_takeTins 0 = .ok (.aload_n 0, 1) := by decide +kernel
theorem dX1_takeTins_1 : decode cX1_takeTins 1 = .ok (.getfield 55, 3) := by decide +kernel
theorem dX1_takeTins_4 : decode cX1_takeTins 4 = .ok (.istore 4, 2) := by decide +kernel
theorem dX1_takeTins_6 : decode cX1_takeTins 6 = .ok (.iconst 0, 1) := by decide +kernel
theorem dX1_takeTins_7 : decode cX1_takeTins 7 = .ok (.istore 5, 2) := by decide +kernel
theorem dX1_takeTins_9 : decode cX1_takeTins 9 = .ok (.iload 5, 2) := by decide +kernel
theorem dX1_takeTins_11 : decode cX1_takeTins 11 = .ok (.iload_n 3, 1) := by decide +kernel
theorem dX1_takeTins_12 : decode cX1_takeTins 12 = .ok (.if_icmp .ge 74, 3) := by decide +kernel
theorem dX1_takeTins_15 : decode cX1_takeTins 15 = .ok (.aload_n 0, 1) := by decide +kernel
theorem dX1_takeTins_16 : decode cX1_takeTins 16 = .ok (.getfield 32, 3) := by decide +kernel
theorem dX1_takeTins_19 : decode cX1_takeTins 19 = .ok (.aload_n 0, 1) := by decide +kernel
theorem dX1_takeTins_20 : decode cX1_takeTins 20 = .ok (.getfield 55, 3) := by decide +kernel
theorem dX1_takeTins_23 : decode cX1_takeTins 23 = .ok (.iload_n 1, 1) := by decide +kernel
theorem dX1_takeTins_24 : decode cX1_takeTins 24 = .ok (.invokevirtual 64, 3) := by decide +kernel
theorem dX1_takeTins_27 : decode cX1_takeTins 27 = .ok (.aload_n 0, 1) := by decide +kernel
theorem dX1_takeTins_28 : decode cX1_takeTins 28 = .ok (.getfield 35, 3) := by decide +kernel
theorem dX1_takeTins_31 : decode cX1_takeTins 31 = .ok (.aload_n 0, 1) := by decide +kernel
theorem dX1_takeTins_32 : decode cX1_takeTins 32 = .ok (.getfield 55, 3) := by decide +kernel
theorem dX1_takeTins_35 : decode cX1_takeTins 35 = .ok (.iload_n 2, 1) := by decide +kernel
theorem dX1_takeTins_36 : decode cX1_takeTins 36 = .ok (.invokevirtual 64, 3) := by decide +kernel
theorem dX1_takeTins_39 : decode cX1_takeTins 39 = .ok (.aload_n 0, 1) := by decide +kernel
theorem dX1_takeTins_40 : decode cX1_takeTins 40 = .ok (.getfield 38, 3) := by decide +kernel
theorem dX1_takeTins_43 : decode cX1_takeTins 43 = .ok (.aload_n 0, 1) := by decide +kernel
theorem dX1_takeTins_44 : decode cX1_takeTins 44 = .ok (.getfield 55, 3) := by decide +kernel
theorem dX1_takeTins_47 : decode cX1_takeTins 47 = .ok (.aload_n 0, 1) := by decide +kernel
theorem dX1_takeTins_48 : decode cX1_takeTins 48 = .ok (.getfield 20, 3) := by decide +kernel
theorem dX1_takeTins_51 : decode cX1_takeTins 51 = .ok (.iload_n 1, 1) := by decide +kernel
theorem dX1_takeTins_52 : decode cX1_takeTins 52 = .ok (.invokevirtual 68, 3) := by decide +kernel
theorem dX1_takeTins_55 : decode cX1_takeTins 55 = .ok (.invokevirtual 64, 3) := by decide +kernel
theorem dX1_takeTins_58 : decode cX1_takeTins 58 = .ok (.aload_n 0, 1) := by decide +kernel
theorem dX1_takeTins_59 : decode cX1_takeTins 59 = .ok (.getfield 41, 3) := by decide +kernel
theorem dX1_takeTins_62 : decode cX1_takeTins 62 = .ok (.aload_n 0, 1) := by decide +kernel
theorem dX1_takeTins_63 : decode cX1_takeTins 63 = .ok (.getfield 55, 3) := by decide +kernel
theorem dX1_takeTins_66 : decode cX1_takeTins 66 = .ok (.iconst 1, 1) := by decide +kernel
theorem dX1_takeTins_67 : decode cX1_takeTins 67 = .ok (.invokevirtual 64, 3) := by decide +kernel
theorem dX1_takeTins_70 : decode cX1_takeTins 70 = .ok (.aload_n 0, 1) := by decide +kernel
theorem dX1_takeTins_71 : decode cX1_takeTins 71 = .ok (.dup, 1) := by decide +kernel
theorem dX1_takeTins_72 : decode cX1_takeTins 72 = .ok (.getfield 55, 3) := by decide +kernel
theorem dX1_takeTins_75 : decode cX1_takeTins 75 = .ok (.iconst 1, 1) := by decide +kernel
theorem dX1_takeTins_76 : decode cX1_takeTins 76 = .ok (.iadd, 1) := by decide +kernel
theorem dX1_takeTins_77 : decode cX1_takeTins 77 = .ok (.putfield 55, 3) := by decide +kernel
theorem dX1_takeTins_80 : decode cX1_takeTins 80 = .ok (.iinc 5 1, 3) := by decide +kernel
theorem dX1_takeTins_83 : decode cX1_takeTins 83 = .ok (.goto (-74), 3) := by decide +kernel
theorem dX1_takeTins_86 : decode cX1_takeTins 86 = .ok (.iload 4, 2) := by decide +kernel
theorem dX1_takeTins_88 : decode cX1_takeTins 88 = .ok (.ireturn, 1) := by decide +kernel
set_option maxRecDepth 20000 in
theorem ggX1_holds_X0_get : GoodIn wsX1_holds wsX0_get := goodIn_r _ [6, 7, 22] (by decide +kernel) (by decide +kernel)
set_option maxRecDepth 20000 in
theorem gX1_holds_X0_get : GoodIn wsX1_holds (wsV RX1 68 RX0 yX0_get wsX0_get) := goodIn_app (goodIn_of _ (by decide +kernel)) ggX1_holds_X0_get
theorem dX1_holds_0 : decode cX1_holds 0 = .ok (.aload_n 0, 1) := by decide +kernel
theorem dX1_holds_1 : decode cX1_holds 1 = .ok (.getfield 41, 3) := by decide +kernel
theorem dX1_holds_4 : decode cX1_holds 4 = .ok (.iload_n 1, 1) := by decide +kernel
theorem dX1_holds_5 : decode cX1_holds 5 = .ok (.invokevirtual 68, 3) := by decide +kernel
theorem dX1_holds_8 : decode cX1_holds 8 = .ok (.iconst 1, 1) := by decide +kernel
theorem dX1_holds_9 : decode cX1_holds 9 = .ok (.if_icmp .ne 7, 3) := by decide +kernel
theorem dX1_holds_12 : decode cX1_holds 12 = .ok (.iconst 1, 1) := by decide +kernel
theorem dX1_holds_13 : decode cX1_holds 13 = .ok (.goto 4, 3) := by decide +kernel
theorem dX1_holds_16 : decode cX1_holds 16 = .ok (.iconst 0, 1) := by decide +kernel
theorem dX1_holds_17 : decode cX1_holds 17 = .ok (.ireturn, 1) := by decide +kernel
set_option maxRecDepth 20000 in
theorem ggX1_isBatchRecalled_X0_get : GoodIn wsX1_isBatchRecalled wsX0_get := goodIn_r _ [6, 7, 22] (by decide +kernel) (by decide +kernel)
set_option maxRecDepth 20000 in
theorem gX1_isBatchRecalled_X0_get : GoodIn wsX1_isBatchRecalled (wsV RX1 68 RX0 yX0_get wsX0_get) := goodIn_app (goodIn_of _ (by decide +kernel)) ggX1_isBatchRecalled_X0_get
theorem dX1_isBatchRecalled_0 : decode cX1_isBatchRecalled 0 = .ok (.aload_n 0, 1) := by decide +kernel
theorem dX1_isBatchRecalled_1 : decode cX1_isBatchRecalled 1 = .ok (.getfield 29, 3) := by decide +kernel
theorem dX1_isBatchRecalled_4 : decode cX1_isBatchRecalled 4 = .ok (.iload_n 1, 1) := by decide +kernel
theorem dX1_isBatchRecalled_5 : decode cX1_isBatchRecalled 5 = .ok (.invokevirtual 68, 3) := by decide +kernel
theorem dX1_isBatchRecalled_8 : decode cX1_isBatchRecalled 8 = .ok (.ifCond .eq 7, 3) := by decide +kernel
theorem dX1_isBatchRecalled_11 : decode cX1_isBatchRecalled 11 = .ok (.iconst 1, 1) := by decide +kernel
theorem dX1_isBatchRecalled_12 : decode cX1_isBatchRecalled 12 = .ok (.goto 4, 3) := by decide +kernel
theorem dX1_isBatchRecalled_15 : decode cX1_isBatchRecalled 15 = .ok (.iconst 0, 1) := by decide +kernel
theorem dX1_isBatchRecalled_16 : decode cX1_isBatchRecalled 16 = .ok (.ireturn, 1) := by decide +kernel
set_option maxRecDepth 20000 in
theorem ggX1_passDay_X1_wearTins : GoodIn wsX1_passDay wsX1_wearTins := goodIn_r _ [8, 9, 10, 11, 12, 13, 14, 15, 16, 17, 18, 7, 19, 20, 21, 22, 23, 24, 25, 26, 27, 28, 29, 30, 31, 32, 33, 34, 35, 36, 37, 38, 39, 40, 41, 42, 69, 70, 71, 72, 73, 74, 75, 76, 77, 78, 79, 80, 81, 82, 83] (by decide +kernel) (by decide +kernel)
set_option maxRecDepth 20000 in
theorem gX1_passDay_X1_wearTins : GoodIn wsX1_passDay (wsV RX1 72 RX1 yX1_wearTins wsX1_wearTins) := goodIn_app (goodIn_of _ (by decide +kernel)) ggX1_passDay_X1_wearTins
set_option maxRecDepth 20000 in
theorem ggX1_passDay_X1_recallSwelled : GoodIn wsX1_passDay wsX1_recallSwelled := goodIn_r _ [46, 47, 42, 48, 49, 50, 7, 51, 52, 21, 22, 23, 24, 25, 26, 53, 54, 55, 56, 9, 20, 32, 34, 35, 36, 37, 69, 70, 71, 72, 73, 74, 75, 76, 77, 78, 79, 80, 81, 82, 83] (by decide +kernel) (by decide +kernel)
set_option maxRecDepth 20000 in
theorem gX1_passDay_X1_recallSwelled : GoodIn wsX1_passDay (wsV RX1 75 RX1 yX1_recallSwelled wsX1_recallSwelled) := goodIn_app (goodIn_of _ (by decide +kernel)) ggX1_passDay_X1_recallSwelled
set_option maxRecDepth 20000 in
theorem ggX1_passDay_X1_firstBy : GoodIn wsX1_passDay wsX1_firstBy := goodIn_r _ [60, 9, 16, 17, 18, 7, 19, 20, 21, 22, 23, 24, 25, 26, 61, 62, 63, 64, 10, 33, 11, 69, 70, 71, 72, 73, 74, 75, 76, 77, 78, 79, 80, 81, 82, 83] (by decide +kernel) (by decide +kernel)
set_option maxRecDepth 20000 in
theorem gX1_passDay_X1_firstBy : GoodIn wsX1_passDay (wsV RX1 78 RX1 yX1_firstBy wsX1_firstBy) := goodIn_app (goodIn_of _ (by decide +kernel)) ggX1_passDay_X1_firstBy
set_option maxRecDepth 20000 in
theorem ggX1_passDay_X1_ship : GoodIn wsX1_passDay wsX1_ship := goodIn_r _ [68, 20, 34, 35, 36, 24, 37, 26, 69, 70, 71, 72, 73, 74, 75, 76, 77, 78, 79, 80, 81, 82, 83] (by decide +kernel) (by decide +kernel)
set_option maxRecDepth 20000 in
theorem gX1_passDay_X1_ship : GoodIn wsX1_passDay (wsV RX1 81 RX1 yX1_ship wsX1_ship) := goodIn_app (goodIn_of _ (by decide +kernel)) ggX1_passDay_X1_ship
theorem dX1_passDay_0 : decode cX1_passDay 0 = .ok (.aload_n 0, 1) := by decide +kernel
theorem dX1_passDay_1 : decode cX1_passDay 1 = .ok (.invokevirtual 72, 3) := by decide +kernel
theorem dX1_passDay_4 : decode cX1_passDay 4 = .ok (.aload_n 0, 1) := by decide +kernel
theorem dX1_passDay_5 : decode cX1_passDay 5 = .ok (.invokevirtual 75, 3) := by decide +kernel
theorem dX1_passDay_8 : decode cX1_passDay 8 = .ok (.iconst 0, 1) := by decide +kernel
theorem dX1_passDay_9 : decode cX1_passDay 9 = .ok (.istore_n 1, 1) := by decide +kernel
theorem dX1_passDay_10 : decode cX1_passDay 10 = .ok (.iload_n 1, 1) := by decide +kernel
theorem dX1_passDay_11 : decode cX1_passDay 11 = .ok (.aload_n 0, 1) := by decide +kernel
theorem dX1_passDay_12 : decode cX1_passDay 12 = .ok (.getfield 58, 3) := by decide +kernel
theorem dX1_passDay_15 : decode cX1_passDay 15 = .ok (.if_icmp .ge 21, 3) := by decide +kernel
theorem dX1_passDay_18 : decode cX1_passDay 18 = .ok (.aload_n 0, 1) := by decide +kernel
theorem dX1_passDay_19 : decode cX1_passDay 19 = .ok (.aload_n 0, 1) := by decide +kernel
theorem dX1_passDay_20 : decode cX1_passDay 20 = .ok (.aload_n 0, 1) := by decide +kernel
theorem dX1_passDay_21 : decode cX1_passDay 21 = .ok (.getfield 44, 3) := by decide +kernel
theorem dX1_passDay_24 : decode cX1_passDay 24 = .ok (.invokevirtual 78, 3) := by decide +kernel
theorem dX1_passDay_27 : decode cX1_passDay 27 = .ok (.invokevirtual 81, 3) := by decide +kernel
theorem dX1_passDay_30 : decode cX1_passDay 30 = .ok (.iinc 1 1, 3) := by decide +kernel
theorem dX1_passDay_33 : decode cX1_passDay 33 = .ok (.goto (-23), 3) := by decide +kernel
theorem dX1_passDay_36 : decode cX1_passDay 36 = .ok (.aload_n 0, 1) := by decide +kernel
theorem dX1_passDay_37 : decode cX1_passDay 37 = .ok (.dup, 1) := by decide +kernel
theorem dX1_passDay_38 : decode cX1_passDay 38 = .ok (.getfield 61, 3) := by decide +kernel
theorem dX1_passDay_41 : decode cX1_passDay 41 = .ok (.iconst 1, 1) := by decide +kernel
theorem dX1_passDay_42 : decode cX1_passDay 42 = .ok (.iadd, 1) := by decide +kernel
theorem dX1_passDay_43 : decode cX1_passDay 43 = .ok (.putfield 61, 3) := by decide +kernel
theorem dX1_passDay_46 : decode cX1_passDay 46 = .ok (.return_, 1) := by decide +kernel
set_option maxRecDepth 20000 in
theorem ggX1_wearTins_X1_holds : GoodIn wsX1_wearTins wsX1_holds := goodIn_r _ [12, 13, 14, 15, 16, 17, 18, 19, 36, 37, 38, 39, 40, 41, 42, 43, 44, 45, 46, 47, 48, 49, 50] (by decide +kernel) (by decide +kernel)
set_option maxRecDepth 20000 in
theorem gX1_wearTins_X1_holds : GoodIn wsX1_wearTins (wsV RX1 84 RX1 yX1_holds wsX1_holds) := goodIn_app (goodIn_of _ (by decide +kernel)) ggX1_wearTins_X1_holds
set_option maxRecDepth 20000 in
theorem ggX1_wearTins_X0_get : GoodIn wsX1_wearTins wsX0_get := goodIn_r _ [18, 19, 50] (by decide +kernel) (by decide +kernel)
set_option maxRecDepth 20000 in
theorem gX1_wearTins_X0_get : GoodIn wsX1_wearTins (wsV RX1 68 RX0 yX0_get wsX0_get) := goodIn_app (goodIn_of _ (by decide +kernel)) ggX1_wearTins_X0_get
set_option maxRecDepth 20000 in
theorem ggX1_wearTins_X1_wearOn : GoodIn wsX1_wearTins wsX1_wearOn := goodIn_r _ [23, 24, 25, 26, 14, 15, 16, 17, 18, 19, 36, 37, 38, 39, 40, 41, 42, 43, 44, 45, 46, 47, 48, 49, 50] (by decide +kernel) (by decide +kernel)
set_option maxRecDepth 20000 in
theorem gX1_wearTins_X1_wearOn : GoodIn wsX1_wearTins (wsV RX1 88 RX1 yX1_wearOn wsX1_wearOn) := goodIn_app (goodIn_of _ (by decide +kernel)) ggX1_wearTins_X1_wearOn
set_option maxRecDepth 20000 in
theorem ggX1_wearTins_X0_set : GoodIn wsX1_wearTins wsX0_set := goodIn_r _ [30, 19, 50] (by decide +kernel) (by decide +kernel)
set_option maxRecDepth 20000 in
theorem gX1_wearTins_X0_set : GoodIn wsX1_wearTins (wsV RX1 64 RX0 yX0_set wsX0_set) := goodIn_app (goodIn_of _ (by decide +kernel)) ggX1_wearTins_X0_set
set_option maxRecDepth 20000 in
theorem ggX1_wearTins_X1_swellLid : GoodIn wsX1_wearTins wsX1_swellLid := goodIn_r _ [34, 25, 35, 13, 14, 15, 16, 17, 18, 19, 27, 28, 29, 30, 36, 37, 38, 39, 40, 41, 42, 43, 44, 45, 46, 47, 48, 49, 50] (by decide +kernel) (by decide +kernel)
set_option maxRecDepth 20000 in
theorem gX1_wearTins_X1_swellLid : GoodIn wsX1_wearTins (wsV RX1 97 RX1 yX1_swellLid wsX1_swellLid) := goodIn_app (goodIn_of _ (by decide +kernel)) ggX1_wearTins_X1_swellLid
theorem dX1_wearTins_0 : decode cX1_wearTins 0 = .ok (.iconst 0, 1) := by decide +kernel
theorem dX1_wearTins_1 : decode cX1_wearTins 1 = .ok (.istore_n 1, 1) := by decide +kernel
theorem dX1_wearTins_2 : decode cX1_wearTins 2 = .ok (.iload_n 1, 1) := by decide +kernel
theorem dX1_wearTins_3 : decode cX1_wearTins 3 = .ok (.aload_n 0, 1) := by decide +kernel
theorem dX1_wearTins_4 : decode cX1_wearTins 4 = .ok (.getfield 55, 3) := by decide +kernel
theorem dX1_wearTins_7 : decode cX1_wearTins 7 = .ok (.if_icmp .ge 67, 3) := by decide +kernel
theorem dX1_wearTins_10 : decode cX1_wearTins 10 = .ok (.aload_n 0, 1) := by decide +kernel
theorem dX1_wearTins_11 : decode cX1_wearTins 11 = .ok (.iload_n 1, 1) := by decide +kernel
theorem dX1_wearTins_12 : decode cX1_wearTins 12 = .ok (.invokevirtual 84, 3) := by decide +kernel
theorem dX1_wearTins_15 : decode cX1_wearTins 15 = .ok (.ifCond .eq 53, 3) := by decide +kernel
theorem dX1_wearTins_18 : decode cX1_wearTins 18 = .ok (.aload_n 0, 1) := by decide +kernel
theorem dX1_wearTins_19 : decode cX1_wearTins 19 = .ok (.getfield 38, 3) := by decide +kernel
theorem dX1_wearTins_22 : decode cX1_wearTins 22 = .ok (.iload_n 1, 1) := by decide +kernel
theorem dX1_wearTins_23 : decode cX1_wearTins 23 = .ok (.iconst 0, 1) := by decide +kernel
theorem dX1_wearTins_24 : decode cX1_wearTins 24 = .ok (.aload_n 0, 1) := by decide +kernel
theorem dX1_wearTins_25 : decode cX1_wearTins 25 = .ok (.getfield 38, 3) := by decide +kernel
theorem dX1_wearTins_28 : decode cX1_wearTins 28 = .ok (.iload_n 1, 1) := by decide +kernel
theorem dX1_wearTins_29 : decode cX1_wearTins 29 = .ok (.invokevirtual 68, 3) := by decide +kernel
theorem dX1_wearTins_32 : decode cX1_wearTins 32 = .ok (.aload_n 0, 1) := by decide +kernel
theorem dX1_wearTins_33 : decode cX1_wearTins 33 = .ok (.iload_n 1, 1) := by decide +kernel
theorem dX1_wearTins_34 : decode cX1_wearTins 34 = .ok (.aload_n 0, 1) := by decide +kernel
theorem dX1_wearTins_35 : decode cX1_wearTins 35 = .ok (.getfield 35, 3) := by decide +kernel
theorem dX1_wearTins_38 : decode cX1_wearTins 38 = .ok (.iload_n 1, 1) := by decide +kernel
theorem dX1_wearTins_39 : decode cX1_wearTins 39 = .ok (.invokevirtual 68, 3) := by decide +kernel
theorem dX1_wearTins_42 : decode cX1_wearTins 42 = .ok (.invokevirtual 88, 3) := by decide +kernel
theorem dX1_wearTins_45 : decode cX1_wearTins 45 = .ok (.isub, 1) := by decide +kernel
theorem dX1_wearTins_46 : decode cX1_wearTins 46 = .ok (.invokestatic 92, 3) := by decide +kernel
theorem dX1_wearTins_49 : decode cX1_wearTins 49 = .ok (.invokevirtual 64, 3) := by decide +kernel
theorem dX1_wearTins_52 : decode cX1_wearTins 52 = .ok (.aload_n 0, 1) := by decide +kernel
theorem dX1_wearTins_53 : decode cX1_wearTins 53 = .ok (.getfield 38, 3) := by decide +kernel
theorem dX1_wearTins_56 : decode cX1_wearTins 56 = .ok (.iload_n 1, 1) := by decide +kernel
theorem dX1_wearTins_57 : decode cX1_wearTins 57 = .ok (.invokevirtual 68, 3) := by decide +kernel
theorem dX1_wearTins_60 : decode cX1_wearTins 60 = .ok (.ifCond .ne 8, 3) := by decide +kernel
theorem dX1_wearTins_63 : decode cX1_wearTins 63 = .ok (.aload_n 0, 1) := by decide +kernel
theorem dX1_wearTins_64 : decode cX1_wearTins 64 = .ok (.iload_n 1, 1) := by decide +kernel
theorem dX1_wearTins_65 : decode cX1_wearTins 65 = .ok (.invokevirtual 97, 3) := by decide +kernel
theorem dX1_wearTins_68 : decode cX1_wearTins 68 = .ok (.iinc 1 1, 3) := by decide +kernel
theorem dX1_wearTins_71 : decode cX1_wearTins 71 = .ok (.goto (-69), 3) := by decide +kernel
theorem dX1_wearTins_74 : decode cX1_wearTins 74 = .ok (.return_, 1) := by decide +kernel
set_option maxRecDepth 20000 in
theorem ggX1_swellLid_X0_get : GoodIn wsX1_swellLid wsX0_get := goodIn_r _ [8, 9, 28] (by decide +kernel) (by decide +kernel)
set_option maxRecDepth 20000 in
theorem gX1_swellLid_X0_get : GoodIn wsX1_swellLid (wsV RX1 68 RX0 yX0_get wsX0_get) := goodIn_app (goodIn_of _ (by decide +kernel)) ggX1_swellLid_X0_get
set_option maxRecDepth 20000 in
theorem ggX1_swellLid_X0_set : GoodIn wsX1_swellLid wsX0_set := goodIn_r _ [13, 9, 28] (by decide +kernel) (by decide +kernel)
set_option maxRecDepth 20000 in
theorem gX1_swellLid_X0_set : GoodIn wsX1_swellLid (wsV RX1 64 RX0 yX0_set wsX0_set) := goodIn_app (goodIn_of _ (by decide +kernel)) ggX1_swellLid_X0_set
theorem dX1_swellLid_0 : decode cX1_swellLid 0 = .ok (.aload_n 0, 1) := by decide +kernel
theorem dX1_swellLid_1 : decode cX1_swellLid 1 = .ok (.getfield 32, 3) := by decide +kernel
theorem dX1_swellLid_4 : decode cX1_swellLid 4 = .ok (.iload_n 1, 1) := by decide +kernel
theorem dX1_swellLid_5 : decode cX1_swellLid 5 = .ok (.invokevirtual 68, 3) := by decide +kernel
theorem dX1_swellLid_8 : decode cX1_swellLid 8 = .ok (.istore_n 2, 1) := by decide +kernel
theorem dX1_swellLid_9 : decode cX1_swellLid 9 = .ok (.aload_n 0, 1) := by decide +kernel
theorem dX1_swellLid_10 : decode cX1_swellLid 10 = .ok (.getfield 26, 3) := by decide +kernel
theorem dX1_swellLid_13 : decode cX1_swellLid 13 = .ok (.iload_n 2, 1) := by decide +kernel
theorem dX1_swellLid_14 : decode cX1_swellLid 14 = .ok (.aload_n 0, 1) := by decide +kernel
theorem dX1_swellLid_15 : decode cX1_swellLid 15 = .ok (.getfield 26, 3) := by decide +kernel
theorem dX1_swellLid_18 : decode cX1_swellLid 18 = .ok (.iload_n 2, 1) := by decide +kernel
theorem dX1_swellLid_19 : decode cX1_swellLid 19 = .ok (.invokevirtual 68, 3) := by decide +kernel
theorem dX1_swellLid_22 : decode cX1_swellLid 22 = .ok (.iconst 1, 1) := by decide +kernel
theorem dX1_swellLid_23 : decode cX1_swellLid 23 = .ok (.iadd, 1) := by decide +kernel
theorem dX1_swellLid_24 : decode cX1_swellLid 24 = .ok (.invokevirtual 64, 3) := by decide +kernel
theorem dX1_swellLid_27 : decode cX1_swellLid 27 = .ok (.aload_n 0, 1) := by decide +kernel
theorem dX1_swellLid_28 : decode cX1_swellLid 28 = .ok (.getfield 41, 3) := by decide +kernel
theorem dX1_swellLid_31 : decode cX1_swellLid 31 = .ok (.iload_n 1, 1) := by decide +kernel
theorem dX1_swellLid_32 : decode cX1_swellLid 32 = .ok (.iconst 3, 1) := by decide +kernel
theorem dX1_swellLid_33 : decode cX1_swellLid 33 = .ok (.invokevirtual 64, 3) := by decide +kernel
theorem dX1_swellLid_36 : decode cX1_swellLid 36 = .ok (.return_, 1) := by decide +kernel
set_option maxRecDepth 20000 in
theorem ggX1_recallSwelled_X1_isBatchRecalled : GoodIn wsX1_recallSwelled wsX1_isBatchRecalled := goodIn_r _ [7, 8, 9, 10, 11, 12, 13, 14, 26, 27, 28, 29, 30, 31, 32, 33, 34, 35, 36, 37, 38, 39, 40] (by decide +kernel) (by decide +kernel)
set_option maxRecDepth 20000 in
theorem gX1_recallSwelled_X1_isBatchRecalled : GoodIn wsX1_recallSwelled (wsV RX1 100 RX1 yX1_isBatchRecalled wsX1_isBatchRecalled) := goodIn_app (goodIn_of _ (by decide +kernel)) ggX1_recallSwelled_X1_isBatchRecalled
set_option maxRecDepth 20000 in
theorem ggX1_recallSwelled_X0_get : GoodIn wsX1_recallSwelled wsX0_get := goodIn_r _ [13, 14, 40] (by decide +kernel) (by decide +kernel)
set_option maxRecDepth 20000 in
theorem gX1_recallSwelled_X0_get : GoodIn wsX1_recallSwelled (wsV RX1 68 RX0 yX0_get wsX0_get) := goodIn_app (goodIn_of _ (by decide +kernel)) ggX1_recallSwelled_X0_get
set_option maxRecDepth 20000 in
theorem ggX1_recallSwelled_X1_recallBatch : GoodIn wsX1_recallSwelled wsX1_recallBatch := goodIn_r _ [18, 8, 19, 20, 21, 22, 23, 24, 12, 25, 14, 9, 10, 11, 13, 26, 27, 28, 29, 30, 31, 32, 33, 34, 35, 36, 37, 38, 39, 40] (by decide +kernel) (by decide +kernel)
set_option maxRecDepth 20000 in
theorem gX1_recallSwelled_X1_recallBatch : GoodIn wsX1_recallSwelled (wsV RX1 103 RX1 yX1_recallBatch wsX1_recallBatch) := goodIn_app (goodIn_of _ (by decide +kernel)) ggX1_recallSwelled_X1_recallBatch
theorem dX1_recallSwelled_0 : decode cX1_recallSwelled 0 = .ok (.iconst 0, 1) := by decide +kernel
theorem dX1_recallSwelled_1 : decode cX1_recallSwelled 1 = .ok (.istore_n 1, 1) := by decide +kernel
theorem dX1_recallSwelled_2 : decode cX1_recallSwelled 2 = .ok (.iload_n 1, 1) := by decide +kernel
theorem dX1_recallSwelled_3 : decode cX1_recallSwelled 3 = .ok (.aload_n 0, 1) := by decide +kernel
theorem dX1_recallSwelled_4 : decode cX1_recallSwelled 4 = .ok (.getfield 52, 3) := by decide +kernel
theorem dX1_recallSwelled_7 : decode cX1_recallSwelled 7 = .ok (.if_icmp .ge 35, 3) := by decide +kernel
theorem dX1_recallSwelled_10 : decode cX1_recallSwelled 10 = .ok (.aload_n 0, 1) := by decide +kernel
theorem dX1_recallSwelled_11 : decode cX1_recallSwelled 11 = .ok (.iload_n 1, 1) := by decide +kernel
theorem dX1_recallSwelled_12 : decode cX1_recallSwelled 12 = .ok (.invokevirtual 100, 3) := by decide +kernel
theorem dX1_recallSwelled_15 : decode cX1_recallSwelled 15 = .ok (.ifCond .ne 21, 3) := by decide +kernel
theorem dX1_recallSwelled_18 : decode cX1_recallSwelled 18 = .ok (.aload_n 0, 1) := by decide +kernel
theorem dX1_recallSwelled_19 : decode cX1_recallSwelled 19 = .ok (.getfield 26, 3) := by decide +kernel
theorem dX1_recallSwelled_22 : decode cX1_recallSwelled 22 = .ok (.iload_n 1, 1) := by decide +kernel
theorem dX1_recallSwelled_23 : decode cX1_recallSwelled 23 = .ok (.invokevirtual 68, 3) := by decide +kernel
theorem dX1_recallSwelled_26 : decode cX1_recallSwelled 26 = .ok (.iconst 3, 1) := by decide +kernel
theorem dX1_recallSwelled_27 : decode cX1_recallSwelled 27 = .ok (.if_icmp .lt 9, 3) := by decide +kernel
theorem dX1_recallSwelled_30 : decode cX1_recallSwelled 30 = .ok (.aload_n 0, 1) := by decide +kernel
theorem dX1_recallSwelled_31 : decode cX1_recallSwelled 31 = .ok (.iload_n 1, 1) := by decide +kernel
theorem dX1_recallSwelled_32 : decode cX1_recallSwelled 32 = .ok (.invokevirtual 103, 3) := by decide +kernel
theorem dX1_recallSwelled_35 : decode cX1_recallSwelled 35 = .ok (.pop, 1) := by decide +kernel
theorem dX1_recallSwelled_36 : decode cX1_recallSwelled 36 = .ok (.iinc 1 1, 3) := by decide +kernel
theorem dX1_recallSwelled_39 : decode cX1_recallSwelled 39 = .ok (.goto (-37), 3) := by decide +kernel
theorem dX1_recallSwelled_42 : decode cX1_recallSwelled 42 = .ok (.return_, 1) := by decide +kernel
set_option maxRecDepth 20000 in
theorem ggX1_ship_X0_set : GoodIn wsX1_ship wsX0_set := goodIn_r _ [6, 7, 22] (by decide +kernel) (by decide +kernel)
set_option maxRecDepth 20000 in
theorem gX1_ship_X0_set : GoodIn wsX1_ship (wsV RX1 64 RX0 yX0_set wsX0_set) := goodIn_app (goodIn_of _ (by decide +kernel)) ggX1_ship_X0_set
theorem dX1_ship_0 : decode cX1_ship 0 = .ok (.iload_n 1, 1) := by decide +kernel
theorem dX1_ship_1 : decode cX1_ship 1 = .ok (.iconst (-1), 1) := by decide +kernel
theorem dX1_ship_2 : decode cX1_ship 2 = .ok (.if_icmp .eq 12, 3) := by decide +kernel
theorem dX1_ship_5 : decode cX1_ship 5 = .ok (.aload_n 0, 1) := by decide +kernel
theorem dX1_ship_6 : decode cX1_ship 6 = .ok (.getfield 41, 3) := by decide +kernel
theorem dX1_ship_9 : decode cX1_ship 9 = .ok (.iload_n 1, 1) := by decide +kernel
theorem dX1_ship_10 : decode cX1_ship 10 = .ok (.iconst 2, 1) := by decide +kernel
theorem dX1_ship_11 : decode cX1_ship 11 = .ok (.invokevirtual 64, 3) := by decide +kernel
theorem dX1_ship_14 : decode cX1_ship 14 = .ok (.return_, 1) := by decide +kernel
set_option maxRecDepth 20000 in
theorem ggX1_recallBatch_X0_set : GoodIn wsX1_recallBatch wsX0_set := goodIn_r _ [9, 10, 29] (by decide +kernel) (by decide +kernel)
set_option maxRecDepth 20000 in
theorem gX1_recallBatch_X0_set : GoodIn wsX1_recallBatch (wsV RX1 64 RX0 yX0_set wsX0_set) := goodIn_app (goodIn_of _ (by decide +kernel)) ggX1_recallBatch_X0_set
set_option maxRecDepth 20000 in
theorem ggX1_recallBatch_X0_get : GoodIn wsX1_recallBatch wsX0_get := goodIn_r _ [14, 10, 29] (by decide +kernel) (by decide +kernel)
set_option maxRecDepth 20000 in
theorem gX1_recallBatch_X0_get : GoodIn wsX1_recallBatch (wsV RX1 68 RX0 yX0_get wsX0_get) := goodIn_app (goodIn_of _ (by decide +kernel)) ggX1_recallBatch_X0_get
theorem dX1_recallBatch_0 : decode cX1_recallBatch 0 = .ok (.aload_n 0, 1) := by decide +kernel
theorem dX1_recallBatch_1 : decode cX1_recallBatch 1 = .ok (.getfield 29, 3) := by decide +kernel
theorem dX1_recallBatch_4 : decode cX1_recallBatch 4 = .ok (.iload_n 1, 1) := by decide +kernel
theorem dX1_recallBatch_5 : decode cX1_recallBatch 5 = .ok (.iconst 1, 1) := by decide +kernel
theorem dX1_recallBatch_6 : decode cX1_recallBatch 6 = .ok (.invokevirtual 64, 3) := by decide +kernel
theorem dX1_recallBatch_9 : decode cX1_recallBatch 9 = .ok (.iconst 0, 1) := by decide +kernel
theorem dX1_recallBatch_10 : decode cX1_recallBatch 10 = .ok (.istore_n 2, 1) := by decide +kernel
theorem dX1_recallBatch_11 : decode cX1_recallBatch 11 = .ok (.iconst 0, 1) := by decide +kernel
theorem dX1_recallBatch_12 : decode cX1_recallBatch 12 = .ok (.istore_n 3, 1) := by decide +kernel
theorem dX1_recallBatch_13 : decode cX1_recallBatch 13 = .ok (.iload_n 3, 1) := by decide +kernel
theorem dX1_recallBatch_14 : decode cX1_recallBatch 14 = .ok (.aload_n 0, 1) := by decide +kernel
theorem dX1_recallBatch_15 : decode cX1_recallBatch 15 = .ok (.getfield 55, 3) := by decide +kernel
theorem dX1_recallBatch_18 : decode cX1_recallBatch 18 = .ok (.if_icmp .ge 45, 3) := by decide +kernel
theorem dX1_recallBatch_21 : decode cX1_recallBatch 21 = .ok (.aload_n 0, 1) := by decide +kernel
theorem dX1_recallBatch_22 : decode cX1_recallBatch 22 = .ok (.getfield 41, 3) := by decide +kernel
theorem dX1_recallBatch_25 : decode cX1_recallBatch 25 = .ok (.iload_n 3, 1) := by decide +kernel
theorem dX1_recallBatch_26 : decode cX1_recallBatch 26 = .ok (.invokevirtual 68, 3) := by decide +kernel
theorem dX1_recallBatch_29 : decode cX1_recallBatch 29 = .ok (.iconst 1, 1) := by decide +kernel
theorem dX1_recallBatch_30 : decode cX1_recallBatch 30 = .ok (.if_icmp .ne 27, 3) := by decide +kernel
theorem dX1_recallBatch_33 : decode cX1_recallBatch 33 = .ok (.aload_n 0, 1) := by decide +kernel
theorem dX1_recallBatch_34 : decode cX1_recallBatch 34 = .ok (.getfield 32, 3) := by decide +kernel
theorem dX1_recallBatch_37 : decode cX1_recallBatch 37 = .ok (.iload_n 3, 1) := by decide +kernel
theorem dX1_recallBatch_38 : decode cX1_recallBatch 38 = .ok (.invokevirtual 68, 3) := by decide +kernel
theorem dX1_recallBatch_41 : decode cX1_recallBatch 41 = .ok (.iload_n 1, 1) := by decide +kernel
theorem dX1_recallBatch_42 : decode cX1_recallBatch 42 = .ok (.if_icmp .ne 15, 3) := by decide +kernel
theorem dX1_recallBatch_45 : decode cX1_recallBatch 45 = .ok (.aload_n 0, 1) := by decide +kernel
theorem dX1_recallBatch_46 : decode cX1_recallBatch 46 = .ok (.getfield 41, 3) := by decide +kernel
theorem dX1_recallBatch_49 : decode cX1_recallBatch 49 = .ok (.iload_n 3, 1) := by decide +kernel
theorem dX1_recallBatch_50 : decode cX1_recallBatch 50 = .ok (.iconst 3, 1) := by decide +kernel
theorem dX1_recallBatch_51 : decode cX1_recallBatch 51 = .ok (.invokevirtual 64, 3) := by decide +kernel
theorem dX1_recallBatch_54 : decode cX1_recallBatch 54 = .ok (.iinc 2 1, 3) := by decide +kernel
theorem dX1_recallBatch_57 : decode cX1_recallBatch 57 = .ok (.iinc 3 1, 3) := by decide +kernel
theorem dX1_recallBatch_60 : decode cX1_recallBatch 60 = .ok (.goto (-47), 3) := by decide +kernel
theorem dX1_recallBatch_63 : decode cX1_recallBatch 63 = .ok (.iload_n 2, 1) := by decide +kernel
theorem dX1_recallBatch_64 : decode cX1_recallBatch 64 = .ok (.ireturn, 1) := by decide +kernel
set_option maxRecDepth 20000 in
theorem ggX1_firstBy_X1_holds : GoodIn wsX1_firstBy wsX1_holds := goodIn_r _ [6, 7, 8, 9, 10, 11, 12, 13, 21, 22, 23, 24, 25, 26, 27, 28, 29, 30, 31, 32, 33, 34, 35] (by decide +kernel) (by decide +kernel)
set_option maxRecDepth 20000 in
theorem gX1_firstBy_X1_holds : GoodIn wsX1_firstBy (wsV RX1 84 RX1 yX1_holds wsX1_holds) := goodIn_app (goodIn_of _ (by decide +kernel)) ggX1_firstBy_X1_holds
set_option maxRecDepth 20000 in
theorem ggX1_firstBy_X1_rankBy : GoodIn wsX1_firstBy wsX1_rankBy := goodIn_r _ [17, 18, 19, 20, 8, 9, 10, 11, 12, 13, 21, 22, 23, 24, 25, 26, 27, 28, 29, 30, 31, 32, 33, 34, 35] (by decide +kernel) (by decide +kernel)
set_option maxRecDepth 20000 in
theorem gX1_firstBy_X1_rankBy : GoodIn wsX1_firstBy (wsV RX1 106 RX1 yX1_rankBy wsX1_rankBy) := goodIn_app (goodIn_of _ (by decide +kernel)) ggX1_firstBy_X1_rankBy
theorem dX1_firstBy_0 : decode cX1_firstBy 0 = .ok (.iconst (-1), 1) := by decide +kernel
theorem dX1_firstBy_1 : decode cX1_firstBy 1 = .ok (.istore_n 2, 1) := by decide +kernel
theorem dX1_firstBy_2 : decode cX1_firstBy 2 = .ok (.iconst 0, 1) := by decide +kernel
theorem dX1_firstBy_3 : decode cX1_firstBy 3 = .ok (.istore_n 3, 1) := by decide +kernel
theorem dX1_firstBy_4 : decode cX1_firstBy 4 = .ok (.iconst 0, 1) := by decide +kernel
theorem dX1_firstBy_5 : decode cX1_firstBy 5 = .ok (.istore 4, 2) := by decide +kernel
theorem dX1_firstBy_7 : decode cX1_firstBy 7 = .ok (.iload 4, 2) := by decide +kernel
theorem dX1_firstBy_9 : decode cX1_firstBy 9 = .ok (.aload_n 0, 1) := by decide +kernel
theorem dX1_firstBy_10 : decode cX1_firstBy 10 = .ok (.getfield 55, 3) := by decide +kernel
theorem dX1_firstBy_13 : decode cX1_firstBy 13 = .ok (.if_icmp .ge 43, 3) := by decide +kernel
theorem dX1_firstBy_16 : decode cX1_firstBy 16 = .ok (.aload_n 0, 1) := by decide +kernel
theorem dX1_firstBy_17 : decode cX1_firstBy 17 = .ok (.iload 4, 2) := by decide +kernel
theorem dX1_firstBy_19 : decode cX1_firstBy 19 = .ok (.invokevirtual 84, 3) := by decide +kernel
theorem dX1_firstBy_22 : decode cX1_firstBy 22 = .ok (.ifCond .eq 28, 3) := by decide +kernel
theorem dX1_firstBy_25 : decode cX1_firstBy 25 = .ok (.aload_n 0, 1) := by decide +kernel
theorem dX1_firstBy_26 : decode cX1_firstBy 26 = .ok (.iload 4, 2) := by decide +kernel
theorem dX1_firstBy_28 : decode cX1_firstBy 28 = .ok (.iload_n 1, 1) := by decide +kernel
theorem dX1_firstBy_29 : decode cX1_firstBy 29 = .ok (.invokevirtual 106, 3) := by decide +kernel
theorem dX1_firstBy_32 : decode cX1_firstBy 32 = .ok (.istore 5, 2) := by decide +kernel
theorem dX1_firstBy_34 : decode cX1_firstBy 34 = .ok (.iload_n 2, 1) := by decide +kernel
theorem dX1_firstBy_35 : decode cX1_firstBy 35 = .ok (.ifCond .lt 9, 3) := by decide +kernel
theorem dX1_firstBy_38 : decode cX1_firstBy 38 = .ok (.iload 5, 2) := by decide +kernel
theorem dX1_firstBy_40 : decode cX1_firstBy 40 = .ok (.iload_n 3, 1) := by decide +kernel
theorem dX1_firstBy_41 : decode cX1_firstBy 41 = .ok (.if_icmp .ge 9, 3) := by decide +kernel
theorem dX1_firstBy_44 : decode cX1_firstBy 44 = .ok (.iload 4, 2) := by decide +kernel
theorem dX1_firstBy_46 : decode cX1_firstBy 46 = .ok (.istore_n 2, 1) := by decide +kernel
theorem dX1_firstBy_47 : decode cX1_firstBy 47 = .ok (.iload 5, 2) := by decide +kernel
theorem dX1_firstBy_49 : decode cX1_firstBy 49 = .ok (.istore_n 3, 1) := by decide +kernel
theorem dX1_firstBy_50 : decode cX1_firstBy 50 = .ok (.iinc 4 1, 3) := by decide +kernel
theorem dX1_firstBy_53 : decode cX1_firstBy 53 = .ok (.goto (-46), 3) := by decide +kernel
theorem dX1_firstBy_56 : decode cX1_firstBy 56 = .ok (.iload_n 2, 1) := by decide +kernel
theorem dX1_firstBy_57 : decode cX1_firstBy 57 = .ok (.ireturn, 1) := by decide +kernel
set_option maxRecDepth 20000 in
theorem ggX1_countAheadOf_X1_rankBy : GoodIn wsX1_countAheadOf wsX1_rankBy := goodIn_r _ [6, 7, 8, 9, 10, 11, 12, 13, 14, 15, 21, 22, 23, 24, 25, 26, 27, 28, 29, 30, 31, 32, 33, 34, 35] (by decide +kernel) (by decide +kernel)
set_option maxRecDepth 20000 in
theorem gX1_countAheadOf_X1_rankBy : GoodIn wsX1_countAheadOf (wsV RX1 106 RX1 yX1_rankBy wsX1_rankBy) := goodIn_app (goodIn_of _ (by decide +kernel)) ggX1_countAheadOf_X1_rankBy
set_option maxRecDepth 20000 in
theorem ggX1_countAheadOf_X1_holds : GoodIn wsX1_countAheadOf wsX1_holds := goodIn_r _ [19, 20, 10, 11, 12, 13, 14, 15, 21, 22, 23, 24, 25, 26, 27, 28, 29, 30, 31, 32, 33, 34, 35] (by decide +kernel) (by decide +kernel)
set_option maxRecDepth 20000 in
theorem gX1_countAheadOf_X1_holds : GoodIn wsX1_countAheadOf (wsV RX1 84 RX1 yX1_holds wsX1_holds) := goodIn_app (goodIn_of _ (by decide +kernel)) ggX1_countAheadOf_X1_holds
theorem dX1_countAheadOf_0 : decode cX1_countAheadOf 0 = .ok (.aload_n 0, 1) := by decide +kernel
theorem dX1_countAheadOf_1 : decode cX1_countAheadOf 1 = .ok (.iload_n 1, 1) := by decide +kernel
theorem dX1_countAheadOf_2 : decode cX1_countAheadOf 2 = .ok (.iload_n 2, 1) := by decide +kernel
theorem dX1_countAheadOf_3 : decode cX1_countAheadOf 3 = .ok (.invokevirtual 106, 3) := by decide +kernel
theorem dX1_countAheadOf_6 : decode cX1_countAheadOf 6 = .ok (.istore_n 3, 1) := by decide +kernel
theorem dX1_countAheadOf_7 : decode cX1_countAheadOf 7 = .ok (.iconst 0, 1) := by decide +kernel
theorem dX1_countAheadOf_8 : decode cX1_countAheadOf 8 = .ok (.istore 4, 2) := by decide +kernel
theorem dX1_countAheadOf_10 : decode cX1_countAheadOf 10 = .ok (.iconst 0, 1) := by decide +kernel
theorem dX1_countAheadOf_11 : decode cX1_countAheadOf 11 = .ok (.istore 5, 2) := by decide +kernel
theorem dX1_countAheadOf_13 : decode cX1_countAheadOf 13 = .ok (.iload 5, 2) := by decide +kernel
theorem dX1_countAheadOf_15 : decode cX1_countAheadOf 15 = .ok (.aload_n 0, 1) := by decide +kernel
theorem dX1_countAheadOf_16 : decode cX1_countAheadOf 16 = .ok (.getfield 55, 3) := by decide +kernel
theorem dX1_countAheadOf_19 : decode cX1_countAheadOf 19 = .ok (.if_icmp .ge 32, 3) := by decide +kernel
theorem dX1_countAheadOf_22 : decode cX1_countAheadOf 22 = .ok (.aload_n 0, 1) := by decide +kernel
theorem dX1_countAheadOf_23 : decode cX1_countAheadOf 23 = .ok (.iload 5, 2) := by decide +kernel
theorem dX1_countAheadOf_25 : decode cX1_countAheadOf 25 = .ok (.invokevirtual 84, 3) := by decide +kernel
theorem dX1_countAheadOf_28 : decode cX1_countAheadOf 28 = .ok (.ifCond .eq 17, 3) := by decide +kernel
theorem dX1_countAheadOf_31 : decode cX1_countAheadOf 31 = .ok (.aload_n 0, 1) := by decide +kernel
theorem dX1_countAheadOf_32 : decode cX1_countAheadOf 32 = .ok (.iload 5, 2) := by decide +kernel
theorem dX1_countAheadOf_34 : decode cX1_countAheadOf 34 = .ok (.iload_n 2, 1) := by decide +kernel
theorem dX1_countAheadOf_35 : decode cX1_countAheadOf 35 = .ok (.invokevirtual 106, 3) := by decide +kernel
theorem dX1_countAheadOf_38 : decode cX1_countAheadOf 38 = .ok (.iload_n 3, 1) := by decide +kernel
theorem dX1_countAheadOf_39 : decode cX1_countAheadOf 39 = .ok (.if_icmp .ge 6, 3) := by decide +kernel
theorem dX1_countAheadOf_42 : decode cX1_countAheadOf 42 = .ok (.iinc 4 1, 3) := by decide +kernel
theorem dX1_countAheadOf_45 : decode cX1_countAheadOf 45 = .ok (.iinc 5 1, 3) := by decide +kernel
theorem dX1_countAheadOf_48 : decode cX1_countAheadOf 48 = .ok (.goto (-35), 3) := by decide +kernel
theorem dX1_countAheadOf_51 : decode cX1_countAheadOf 51 = .ok (.iload 4, 2) := by decide +kernel
theorem dX1_countAheadOf_53 : decode cX1_countAheadOf 53 = .ok (.ireturn, 1) := by decide +kernel
set_option maxRecDepth 20000 in
theorem ggX1_rankBy_X0_get : GoodIn wsX1_rankBy wsX0_get := goodIn_r _ [8, 9, 24] (by decide +kernel) (by decide +kernel)
set_option maxRecDepth 20000 in
theorem gX1_rankBy_X0_get : GoodIn wsX1_rankBy (wsV RX1 68 RX0 yX0_get wsX0_get) := goodIn_app (goodIn_of _ (by decide +kernel)) ggX1_rankBy_X0_get
theorem dX1_rankBy_0 : decode cX1_rankBy 0 = .ok (.iload_n 2, 1) := by decide +kernel
theorem dX1_rankBy_1 : decode cX1_rankBy 1 = .ok (.iconst 1, 1) := by decide +kernel
theorem dX1_rankBy_2 : decode cX1_rankBy 2 = .ok (.if_icmp .ne 17, 3) := by decide +kernel
theorem dX1_rankBy_5 : decode cX1_rankBy 5 = .ok (.aload_n 0, 1) := by decide +kernel
theorem dX1_rankBy_6 : decode cX1_rankBy 6 = .ok (.getfield 38, 3) := by decide +kernel
theorem dX1_rankBy_9 : decode cX1_rankBy 9 = .ok (.iload_n 1, 1) := by decide +kernel
theorem dX1_rankBy_10 : decode cX1_rankBy 10 = .ok (.invokevirtual 68, 3) := by decide +kernel
theorem dX1_rankBy_13 : decode cX1_rankBy 13 = .ok (.bipush 60, 2) := by decide +kernel
theorem dX1_rankBy_15 : decode cX1_rankBy 15 = .ok (.imul, 1) := by decide +kernel
theorem dX1_rankBy_16 : decode cX1_rankBy 16 = .ok (.iload_n 1, 1) := by decide +kernel
theorem dX1_rankBy_17 : decode cX1_rankBy 17 = .ok (.iadd, 1) := by decide +kernel
theorem dX1_rankBy_18 : decode cX1_rankBy 18 = .ok (.ireturn, 1) := by decide +kernel
theorem dX1_rankBy_19 : decode cX1_rankBy 19 = .ok (.iload_n 2, 1) := by decide +kernel
theorem dX1_rankBy_20 : decode cX1_rankBy 20 = .ok (.iconst 2, 1) := by decide +kernel
theorem dX1_rankBy_21 : decode cX1_rankBy 21 = .ok (.if_icmp .ne 26, 3) := by decide +kernel
theorem dX1_rankBy_24 : decode cX1_rankBy 24 = .ok (.iconst 3, 1) := by decide +kernel
theorem dX1_rankBy_25 : decode cX1_rankBy 25 = .ok (.aload_n 0, 1) := by decide +kernel
theorem dX1_rankBy_26 : decode cX1_rankBy 26 = .ok (.getfield 14, 3) := by decide +kernel
theorem dX1_rankBy_29 : decode cX1_rankBy 29 = .ok (.aload_n 0, 1) := by decide +kernel
theorem dX1_rankBy_30 : decode cX1_rankBy 30 = .ok (.getfield 35, 3) := by decide +kernel
theorem dX1_rankBy_33 : decode cX1_rankBy 33 = .ok (.iload_n 1, 1) := by decide +kernel
theorem dX1_rankBy_34 : decode cX1_rankBy 34 = .ok (.invokevirtual 68, 3) := by decide +kernel
theorem dX1_rankBy_37 : decode cX1_rankBy 37 = .ok (.invokevirtual 68, 3) := by decide +kernel
theorem dX1_rankBy_40 : decode cX1_rankBy 40 = .ok (.isub, 1) := by decide +kernel
theorem dX1_rankBy_41 : decode cX1_rankBy 41 = .ok (.bipush 60, 2) := by decide +kernel
theorem dX1_rankBy_43 : decode cX1_rankBy 43 = .ok (.imul, 1) := by decide +kernel
theorem dX1_rankBy_44 : decode cX1_rankBy 44 = .ok (.iload_n 1, 1) := by decide +kernel
theorem dX1_rankBy_45 : decode cX1_rankBy 45 = .ok (.iadd, 1) := by decide +kernel
theorem dX1_rankBy_46 : decode cX1_rankBy 46 = .ok (.ireturn, 1) := by decide +kernel
theorem dX1_rankBy_47 : decode cX1_rankBy 47 = .ok (.iload_n 1, 1) := by decide +kernel
theorem dX1_rankBy_48 : decode cX1_rankBy 48 = .ok (.ireturn, 1) := by decide +kernel
set_option maxRecDepth 20000 in
theorem ggX1_wearOn_X0_get : GoodIn wsX1_wearOn wsX0_get := goodIn_r _ [8, 9, 24] (by decide +kernel) (by decide +kernel)
set_option maxRecDepth 20000 in
theorem gX1_wearOn_X0_get : GoodIn wsX1_wearOn (wsV RX1 68 RX0 yX0_get wsX0_get) := goodIn_app (goodIn_of _ (by decide +kernel)) ggX1_wearOn_X0_get
theorem dX1_wearOn_0 : decode cX1_wearOn 0 = .ok (.aload_n 0, 1) := by decide +kernel
theorem dX1_wearOn_1 : decode cX1_wearOn 1 = .ok (.getfield 23, 3) := by decide +kernel
theorem dX1_wearOn_4 : decode cX1_wearOn 4 = .ok (.aload_n 0, 1) := by decide +kernel
theorem dX1_wearOn_5 : decode cX1_wearOn 5 = .ok (.getfield 32, 3) := by decide +kernel
theorem dX1_wearOn_8 : decode cX1_wearOn 8 = .ok (.iload_n 1, 1) := by decide +kernel
theorem dX1_wearOn_9 : decode cX1_wearOn 9 = .ok (.invokevirtual 68, 3) := by decide +kernel
theorem dX1_wearOn_12 : decode cX1_wearOn 12 = .ok (.invokevirtual 68, 3) := by decide +kernel
theorem dX1_wearOn_15 : decode cX1_wearOn 15 = .ok (.aload_n 0, 1) := by decide +kernel
theorem dX1_wearOn_16 : decode cX1_wearOn 16 = .ok (.getfield 14, 3) := by decide +kernel
theorem dX1_wearOn_19 : decode cX1_wearOn 19 = .ok (.iload_n 2, 1) := by decide +kernel
theorem dX1_wearOn_20 : decode cX1_wearOn 20 = .ok (.invokevirtual 68, 3) := by decide +kernel
theorem dX1_wearOn_23 : decode cX1_wearOn 23 = .ok (.iadd, 1) := by decide +kernel
theorem dX1_wearOn_24 : decode cX1_wearOn 24 = .ok (.ireturn, 1) := by decide +kernel
set_option maxRecDepth 20000 in
theorem ggX1_daysToSwell_X1_wearOn : GoodIn wsX1_daysToSwell wsX1_wearOn := goodIn_r _ [6, 7, 8, 9, 10, 11, 12, 13, 14, 15, 16, 17, 18, 19, 20, 21, 22, 23, 24, 25, 26, 27, 28, 29, 30] (by decide +kernel) (by decide +kernel)
set_option maxRecDepth 20000 in
theorem gX1_daysToSwell_X1_wearOn : GoodIn wsX1_daysToSwell (wsV RX1 88 RX1 yX1_wearOn wsX1_wearOn) := goodIn_app (goodIn_of _ (by decide +kernel)) ggX1_daysToSwell_X1_wearOn
set_option maxRecDepth 20000 in
theorem ggX1_daysToSwell_X0_get : GoodIn wsX1_daysToSwell wsX0_get := goodIn_r _ [14, 15, 30] (by decide +kernel) (by decide +kernel)
set_option maxRecDepth 20000 in
theorem gX1_daysToSwell_X0_get : GoodIn wsX1_daysToSwell (wsV RX1 68 RX0 yX0_get wsX0_get) := goodIn_app (goodIn_of _ (by decide +kernel)) ggX1_daysToSwell_X0_get
theorem dX1_daysToSwell_0 : decode cX1_daysToSwell 0 = .ok (.aload_n 0, 1) := by decide +kernel
theorem dX1_daysToSwell_1 : decode cX1_daysToSwell 1 = .ok (.iload_n 1, 1) := by decide +kernel
theorem dX1_daysToSwell_2 : decode cX1_daysToSwell 2 = .ok (.iload_n 2, 1) := by decide +kernel
theorem dX1_daysToSwell_3 : decode cX1_daysToSwell 3 = .ok (.invokevirtual 88, 3) := by decide +kernel
theorem dX1_daysToSwell_6 : decode cX1_daysToSwell 6 = .ok (.istore_n 3, 1) := by decide +kernel
theorem dX1_daysToSwell_7 : decode cX1_daysToSwell 7 = .ok (.iload_n 3, 1) := by decide +kernel
theorem dX1_daysToSwell_8 : decode cX1_daysToSwell 8 = .ok (.ifCond .gt 5, 3) := by decide +kernel
theorem dX1_daysToSwell_11 : decode cX1_daysToSwell 11 = .ok (.iconst (-1), 1) := by decide +kernel
theorem dX1_daysToSwell_12 : decode cX1_daysToSwell 12 = .ok (.ireturn, 1) := by decide +kernel
theorem dX1_daysToSwell_13 : decode cX1_daysToSwell 13 = .ok (.aload_n 0, 1) := by decide +kernel
theorem dX1_daysToSwell_14 : decode cX1_daysToSwell 14 = .ok (.getfield 38, 3) := by decide +kernel
theorem dX1_daysToSwell_17 : decode cX1_daysToSwell 17 = .ok (.iload_n 1, 1) := by decide +kernel
theorem dX1_daysToSwell_18 : decode cX1_daysToSwell 18 = .ok (.invokevirtual 68, 3) := by decide +kernel
theorem dX1_daysToSwell_21 : decode cX1_daysToSwell 21 = .ok (.iload_n 3, 1) := by decide +kernel
theorem dX1_daysToSwell_22 : decode cX1_daysToSwell 22 = .ok (.iadd, 1) := by decide +kernel
theorem dX1_daysToSwell_23 : decode cX1_daysToSwell 23 = .ok (.iconst 1, 1) := by decide +kernel
theorem dX1_daysToSwell_24 : decode cX1_daysToSwell 24 = .ok (.isub, 1) := by decide +kernel
theorem dX1_daysToSwell_25 : decode cX1_daysToSwell 25 = .ok (.iload_n 3, 1) := by decide +kernel
theorem dX1_daysToSwell_26 : decode cX1_daysToSwell 26 = .ok (.idiv, 1) := by decide +kernel
theorem dX1_daysToSwell_27 : decode cX1_daysToSwell 27 = .ok (.ireturn, 1) := by decide +kernel
set_option maxRecDepth 20000 in
theorem ggX1_countAt_X0_get : GoodIn wsX1_countAt wsX0_get := goodIn_r _ [7, 8, 23] (by decide +kernel) (by decide +kernel)
set_option maxRecDepth 20000 in
theorem gX1_countAt_X0_get : GoodIn wsX1_countAt (wsV RX1 68 RX0 yX0_get wsX0_get) := goodIn_app (goodIn_of _ (by decide +kernel)) ggX1_countAt_X0_get
theorem dX1_countAt_0 : decode cX1_countAt 0 = .ok (.iconst 0, 1) := by decide +kernel
theorem dX1_countAt_1 : decode cX1_countAt 1 = .ok (.istore_n 2, 1) := by decide +kernel
theorem dX1_countAt_2 : decode cX1_countAt 2 = .ok (.iconst 0, 1) := by decide +kernel
theorem dX1_countAt_3 : decode cX1_countAt 3 = .ok (.istore_n 3, 1) := by decide +kernel
theorem dX1_countAt_4 : decode cX1_countAt 4 = .ok (.iload_n 3, 1) := by decide +kernel
theorem dX1_countAt_5 : decode cX1_countAt 5 = .ok (.aload_n 0, 1) := by decide +kernel
theorem dX1_countAt_6 : decode cX1_countAt 6 = .ok (.getfield 55, 3) := by decide +kernel
theorem dX1_countAt_9 : decode cX1_countAt 9 = .ok (.if_icmp .ge 24, 3) := by decide +kernel
theorem dX1_countAt_12 : decode cX1_countAt 12 = .ok (.aload_n 0, 1) := by decide +kernel
theorem dX1_countAt_13 : decode cX1_countAt 13 = .ok (.getfield 41, 3) := by decide +kernel
theorem dX1_countAt_16 : decode cX1_countAt 16 = .ok (.iload_n 3, 1) := by decide +kernel
theorem dX1_countAt_17 : decode cX1_countAt 17 = .ok (.invokevirtual 68, 3) := by decide +kernel
theorem dX1_countAt_20 : decode cX1_countAt 20 = .ok (.iload_n 1, 1) := by decide +kernel
theorem dX1_countAt_21 : decode cX1_countAt 21 = .ok (.if_icmp .ne 6, 3) := by decide +kernel
theorem dX1_countAt_24 : decode cX1_countAt 24 = .ok (.iinc 2 1, 3) := by decide +kernel
theorem dX1_countAt_27 : decode cX1_countAt 27 = .ok (.iinc 3 1, 3) := by decide +kernel
theorem dX1_countAt_30 : decode cX1_countAt 30 = .ok (.goto (-26), 3) := by decide +kernel
theorem dX1_countAt_33 : decode cX1_countAt 33 = .ok (.iload_n 2, 1) := by decide +kernel
theorem dX1_countAt_34 : decode cX1_countAt 34 = .ok (.ireturn, 1) := by decide +kernel
set_option maxRecDepth 20000 in
theorem ggX1_countHeldWith_X1_holds : GoodIn wsX1_countHeldWith wsX1_holds := goodIn_r _ [6, 7, 8, 9, 10, 11, 12, 13, 14, 15, 16, 17, 18, 19, 20, 21, 22, 23, 24, 25, 26, 27, 28] (by decide +kernel) (by decide +kernel)
set_option maxRecDepth 20000 in
theorem gX1_countHeldWith_X1_holds : GoodIn wsX1_countHeldWith (wsV RX1 84 RX1 yX1_holds wsX1_holds) := goodIn_app (goodIn_of _ (by decide +kernel)) ggX1_countHeldWith_X1_holds
set_option maxRecDepth 20000 in
theorem ggX1_countHeldWith_X0_get : GoodIn wsX1_countHeldWith wsX0_get := goodIn_r _ [12, 13, 28] (by decide +kernel) (by decide +kernel)
set_option maxRecDepth 20000 in
theorem gX1_countHeldWith_X0_get : GoodIn wsX1_countHeldWith (wsV RX1 68 RX0 yX0_get wsX0_get) := goodIn_app (goodIn_of _ (by decide +kernel)) ggX1_countHeldWith_X0_get
theorem dX1_countHeldWith_0 : decode cX1_countHeldWith 0 = .ok (.iconst 0, 1) := by decide +kernel
theorem dX1_countHeldWith_1 : decode cX1_countHeldWith 1 = .ok (.istore_n 3, 1) := by decide +kernel
theorem dX1_countHeldWith_2 : decode cX1_countHeldWith 2 = .ok (.iconst 0, 1) := by decide +kernel
theorem dX1_countHeldWith_3 : decode cX1_countHeldWith 3 = .ok (.istore 4, 2) := by decide +kernel
theorem dX1_countHeldWith_5 : decode cX1_countHeldWith 5 = .ok (.iload 4, 2) := by decide +kernel
theorem dX1_countHeldWith_7 : decode cX1_countHeldWith 7 = .ok (.aload_n 0, 1) := by decide +kernel
theorem dX1_countHeldWith_8 : decode cX1_countHeldWith 8 = .ok (.getfield 55, 3) := by decide +kernel
theorem dX1_countHeldWith_11 : decode cX1_countHeldWith 11 = .ok (.if_icmp .ge 31, 3) := by decide +kernel
theorem dX1_countHeldWith_14 : decode cX1_countHeldWith 14 = .ok (.aload_n 0, 1) := by decide +kernel
theorem dX1_countHeldWith_15 : decode cX1_countHeldWith 15 = .ok (.iload 4, 2) := by decide +kernel
theorem dX1_countHeldWith_17 : decode cX1_countHeldWith 17 = .ok (.invokevirtual 84, 3) := by decide +kernel
theorem dX1_countHeldWith_20 : decode cX1_countHeldWith 20 = .ok (.ifCond .eq 16, 3) := by decide +kernel
theorem dX1_countHeldWith_23 : decode cX1_countHeldWith 23 = .ok (.aload_n 1, 1) := by decide +kernel
theorem dX1_countHeldWith_24 : decode cX1_countHeldWith 24 = .ok (.iload 4, 2) := by decide +kernel
theorem dX1_countHeldWith_26 : decode cX1_countHeldWith 26 = .ok (.invokevirtual 68, 3) := by decide +kernel
theorem dX1_countHeldWith_29 : decode cX1_countHeldWith 29 = .ok (.iload_n 2, 1) := by decide +kernel
theorem dX1_countHeldWith_30 : decode cX1_countHeldWith 30 = .ok (.if_icmp .ne 6, 3) := by decide +kernel
theorem dX1_countHeldWith_33 : decode cX1_countHeldWith 33 = .ok (.iinc 3 1, 3) := by decide +kernel
theorem dX1_countHeldWith_36 : decode cX1_countHeldWith 36 = .ok (.iinc 4 1, 3) := by decide +kernel
theorem dX1_countHeldWith_39 : decode cX1_countHeldWith 39 = .ok (.goto (-34), 3) := by decide +kernel
theorem dX1_countHeldWith_42 : decode cX1_countHeldWith 42 = .ok (.iload_n 3, 1) := by decide +kernel
theorem dX1_countHeldWith_43 : decode cX1_countHeldWith 43 = .ok (.ireturn, 1) := by decide +kernel
set_option maxRecDepth 20000 in
theorem ggX1_vacuumHeld_X1_holds : GoodIn wsX1_vacuumHeld wsX1_holds := goodIn_r _ [7, 8, 9, 10, 11, 12, 13, 14, 15, 16, 17, 18, 19, 20, 21, 22, 23, 24, 25, 26, 27, 28, 29] (by decide +kernel) (by decide +kernel)
set_option maxRecDepth 20000 in
theorem gX1_vacuumHeld_X1_holds : GoodIn wsX1_vacuumHeld (wsV RX1 84 RX1 yX1_holds wsX1_holds) := goodIn_app (goodIn_of _ (by decide +kernel)) ggX1_vacuumHeld_X1_holds
set_option maxRecDepth 20000 in
theorem ggX1_vacuumHeld_X0_get : GoodIn wsX1_vacuumHeld wsX0_get := goodIn_r _ [13, 14, 29] (by decide +kernel) (by decide +kernel)
set_option maxRecDepth 20000 in
theorem gX1_vacuumHeld_X0_get : GoodIn wsX1_vacuumHeld (wsV RX1 68 RX0 yX0_get wsX0_get) := goodIn_app (goodIn_of _ (by decide +kernel)) ggX1_vacuumHeld_X0_get
theorem dX1_vacuumHeld_0 : decode cX1_vacuumHeld 0 = .ok (.iconst 0, 1) := by decide +kernel
theorem dX1_vacuumHeld_1 : decode cX1_vacuumHeld 1 = .ok (.istore_n 1, 1) := by decide +kernel
theorem dX1_vacuumHeld_2 : decode cX1_vacuumHeld 2 = .ok (.iconst 0, 1) := by decide +kernel
theorem dX1_vacuumHeld_3 : decode cX1_vacuumHeld 3 = .ok (.istore_n 2, 1) := by decide +kernel
theorem dX1_vacuumHeld_4 : decode cX1_vacuumHeld 4 = .ok (.iload_n 2, 1) := by decide +kernel
theorem dX1_vacuumHeld_5 : decode cX1_vacuumHeld 5 = .ok (.aload_n 0, 1) := by decide +kernel
theorem dX1_vacuumHeld_6 : decode cX1_vacuumHeld 6 = .ok (.getfield 55, 3) := by decide +kernel
theorem dX1_vacuumHeld_9 : decode cX1_vacuumHeld 9 = .ok (.if_icmp .ge 28, 3) := by decide +kernel
theorem dX1_vacuumHeld_12 : decode cX1_vacuumHeld 12 = .ok (.aload_n 0, 1) := by decide +kernel
theorem dX1_vacuumHeld_13 : decode cX1_vacuumHeld 13 = .ok (.iload_n 2, 1) := by decide +kernel
theorem dX1_vacuumHeld_14 : decode cX1_vacuumHeld 14 = .ok (.invokevirtual 84, 3) := by decide +kernel
theorem dX1_vacuumHeld_17 : decode cX1_vacuumHeld 17 = .ok (.ifCond .eq 14, 3) := by decide +kernel
theorem dX1_vacuumHeld_20 : decode cX1_vacuumHeld 20 = .ok (.iload_n 1, 1) := by decide +kernel
theorem dX1_vacuumHeld_21 : decode cX1_vacuumHeld 21 = .ok (.aload_n 0, 1) := by decide +kernel
theorem dX1_vacuumHeld_22 : decode cX1_vacuumHeld 22 = .ok (.getfield 38, 3) := by decide +kernel
theorem dX1_vacuumHeld_25 : decode cX1_vacuumHeld 25 = .ok (.iload_n 2, 1) := by decide +kernel
theorem dX1_vacuumHeld_26 : decode cX1_vacuumHeld 26 = .ok (.invokevirtual 68, 3) := by decide +kernel
theorem dX1_vacuumHeld_29 : decode cX1_vacuumHeld 29 = .ok (.iadd, 1) := by decide +kernel
theorem dX1_vacuumHeld_30 : decode cX1_vacuumHeld 30 = .ok (.istore_n 1, 1) := by decide +kernel
theorem dX1_vacuumHeld_31 : decode cX1_vacuumHeld 31 = .ok (.iinc 2 1, 3) := by decide +kernel
theorem dX1_vacuumHeld_34 : decode cX1_vacuumHeld 34 = .ok (.goto (-30), 3) := by decide +kernel
theorem dX1_vacuumHeld_37 : decode cX1_vacuumHeld 37 = .ok (.iload_n 1, 1) := by decide +kernel
theorem dX1_vacuumHeld_38 : decode cX1_vacuumHeld 38 = .ok (.ireturn, 1) := by decide +kernel
set_option maxRecDepth 20000 in
theorem ggX2_init_X1_init : GoodIn wsX2_init wsX1_init := goodIn_r _ [10, 11, 2, 3, 12, 13, 14, 15, 16, 17, 18, 19, 20, 21, 22, 23, 24, 25, 26, 27, 28, 29, 30, 31, 32, 33, 34, 51, 35, 36, 37, 38, 39, 40, 41, 42, 43, 44, 45, 46, 47, 48] (by decide +kernel) (by decide +kernel)
set_option maxRecDepth 20000 in
theorem gX2_init_X1_init_n9 : GoodIn wsX2_init (wsX1_init) := ggX2_init_X1_init
theorem dX2_init_0 : decode cX2_init 0 = .ok (.aload_n 0, 1) := by decide +kernel
theorem dX2_init_1 : decode cX2_init 1 = .ok (.invokespecial 1, 3) := by decide +kernel
theorem dX2_init_4 : decode cX2_init 4 = .ok (.aload_n 0, 1) := by decide +kernel
theorem dX2_init_5 : decode cX2_init 5 = .ok (.new 7, 3) := by decide +kernel
theorem dX2_init_8 : decode cX2_init 8 = .ok (.dup, 1) := by decide +kernel
theorem dX2_init_9 : decode cX2_init 9 = .ok (.invokespecial 9, 3) := by decide +kernel
theorem dX2_init_12 : decode cX2_init 12 = .ok (.putfield 10, 3) := by decide +kernel
theorem dX2_init_15 : decode cX2_init 15 = .ok (.aload_n 0, 1) := by decide +kernel
theorem dX2_init_16 : decode cX2_init 16 = .ok (.new 7, 3) := by decide +kernel
theorem dX2_init_19 : decode cX2_init 19 = .ok (.dup, 1) := by decide +kernel
theorem dX2_init_20 : decode cX2_init 20 = .ok (.invokespecial 9, 3) := by decide +kernel
theorem dX2_init_23 : decode cX2_init 23 = .ok (.putfield 16, 3) := by decide +kernel
theorem dX2_init_26 : decode cX2_init 26 = .ok (.return_, 1) := by decide +kernel
set_option maxRecDepth 20000 in
theorem ggX2_addBatch_X2_isWithin : GoodIn wsX2_addBatch wsX2_isWithin := goodIn_r _ [9] (by decide +kernel) (by decide +kernel)
set_option maxRecDepth 20000 in
theorem gX2_addBatch_X2_isWithin : GoodIn wsX2_addBatch (va_wsS RX2 19 yX2_isWithin wsX2_isWithin) := goodIn_app (goodIn_of _ (by decide +kernel)) ggX2_addBatch_X2_isWithin
set_option maxRecDepth 20000 in
theorem ggX2_addBatch_X1_takeBatch : GoodIn wsX2_addBatch wsX1_takeBatch := goodIn_r _ [14, 15, 16, 17, 18, 19, 20, 21, 22, 23, 26, 27, 28, 29, 30, 31, 32, 33, 34, 35, 36, 37, 38, 39, 40] (by decide +kernel) (by decide +kernel)
set_option maxRecDepth 20000 in
theorem gX2_addBatch_X1_takeBatch : GoodIn wsX2_addBatch (wsV RX2 39 RX1 yX1_takeBatch wsX1_takeBatch) := goodIn_app (goodIn_of _ (by decide +kernel)) ggX2_addBatch_X1_takeBatch
theorem dX2_addBatch_0 : decode cX2_addBatch 0 = .ok (.iload_n 1, 1) := by decide +kernel
theorem dX2_addBatch_1 : decode cX2_addBatch 1 = .ok (.iconst 1, 1) := by decide +kernel
theorem dX2_addBatch_2 : decode cX2_addBatch 2 = .ok (.bipush 99, 2) := by decide +kernel
theorem dX2_addBatch_4 : decode cX2_addBatch 4 = .ok (.invokestatic 19, 3) := by decide +kernel
theorem dX2_addBatch_7 : decode cX2_addBatch 7 = .ok (.ifCond .eq 12, 3) := by decide +kernel
theorem dX2_addBatch_10 : decode cX2_addBatch 10 = .ok (.iload_n 2, 1) := by decide +kernel
theorem dX2_addBatch_11 : decode cX2_addBatch 11 = .ok (.iconst 0, 1) := by decide +kernel
theorem dX2_addBatch_12 : decode cX2_addBatch 12 = .ok (.iconst 5, 1) := by decide +kernel
theorem dX2_addBatch_13 : decode cX2_addBatch 13 = .ok (.invokestatic 19, 3) := by decide +kernel
theorem dX2_addBatch_16 : decode cX2_addBatch 16 = .ok (.ifCond .ne 13, 3) := by decide +kernel
theorem dX2_addBatch_19 : decode cX2_addBatch 19 = .ok (.new 23, 3) := by decide +kernel
theorem dX2_addBatch_22 : decode cX2_addBatch 22 = .ok (.dup, 1) := by decide +kernel
theorem dX2_addBatch_23 : decode cX2_addBatch 23 = .ok (.ldc 25, 2) := by decide +kernel
theorem dX2_addBatch_25 : decode cX2_addBatch 25 = .ok (.invokespecial 27, 3) := by decide +kernel
theorem dX2_addBatch_28 : decode cX2_addBatch 28 = .ok (.athrow, 1) := by decide +kernel
theorem dX2_addBatch_29 : decode cX2_addBatch 29 = .ok (.aload_n 0, 1) := by decide +kernel
theorem dX2_addBatch_30 : decode cX2_addBatch 30 = .ok (.getfield 10, 3) := by decide +kernel
theorem dX2_addBatch_33 : decode cX2_addBatch 33 = .ok (.getfield 30, 3) := by decide +kernel
theorem dX2_addBatch_36 : decode cX2_addBatch 36 = .ok (.bipush 6, 2) := by decide +kernel
theorem dX2_addBatch_38 : decode cX2_addBatch 38 = .ok (.if_icmp .lt 13, 3) := by decide +kernel
theorem dX2_addBatch_41 : decode cX2_addBatch 41 = .ok (.new 34, 3) := by decide +kernel
theorem dX2_addBatch_44 : decode cX2_addBatch 44 = .ok (.dup, 1) := by decide +kernel
theorem dX2_addBatch_45 : decode cX2_addBatch 45 = .ok (.ldc 36, 2) := by decide +kernel
theorem dX2_addBatch_47 : decode cX2_addBatch 47 = .ok (.invokespecial 38, 3) := by decide +kernel
theorem dX2_addBatch_50 : decode cX2_addBatch 50 = .ok (.athrow, 1) := by decide +kernel
theorem dX2_addBatch_51 : decode cX2_addBatch 51 = .ok (.aload_n 0, 1) := by decide +kernel
theorem dX2_addBatch_52 : decode cX2_addBatch 52 = .ok (.getfield 10, 3) := by decide +kernel
theorem dX2_addBatch_55 : decode cX2_addBatch 55 = .ok (.iload_n 1, 1) := by decide +kernel
theorem dX2_addBatch_56 : decode cX2_addBatch 56 = .ok (.iload_n 2, 1) := by decide +kernel
theorem dX2_addBatch_57 : decode cX2_addBatch 57 = .ok (.invokevirtual 39, 3) := by decide +kernel
theorem dX2_addBatch_60 : decode cX2_addBatch 60 = .ok (.ireturn, 1) := by decide +kernel
set_option maxRecDepth 20000 in
theorem ggX2_seal_X2_needBatch : GoodIn wsX2_seal wsX2_needBatch := goodIn_ca (goodIn_r _ [10, 11, 12, 5, 13, 14, 9, 15, 45, 46, 47, 48, 49, 50, 51, 52, 53, 54, 55, 56, 57, 58, 59, 60] (by decide +kernel) (by decide +kernel)) (goodIn_sub (fun _ h => List.mem_cons_of_mem _ (List.mem_append_right _ h)) (by decide +kernel))
set_option maxRecDepth 20000 in
theorem gX2_seal_X2_needBatch : GoodIn wsX2_seal (wsV RX2 43 RX2 yX2_needBatch wsX2_needBatch) := goodIn_app (goodIn_of _ (by decide +kernel)) ggX2_seal_X2_needBatch
set_option maxRecDepth 20000 in
theorem ggX2_seal_X2_needShelf : GoodIn wsX2_seal wsX2_needShelf := goodIn_ca (goodIn_r _ [18, 11, 12, 13, 14, 9, 15] (by decide +kernel) (by decide +kernel)) (goodIn_sub (fun _ h => List.mem_cons_of_mem _ (List.mem_append_right _ h)) (by decide +kernel))
set_option maxRecDepth 20000 in
theorem gX2_seal_X2_needShelf : GoodIn wsX2_seal (va_wsS RX2 47 yX2_needShelf wsX2_needShelf) := goodIn_app (goodIn_of _ (by decide +kernel)) ggX2_seal_X2_needShelf
set_option maxRecDepth 20000 in
theorem ggX2_seal_X2_isWithin : GoodIn wsX2_seal wsX2_isWithin := goodIn_r _ [15] (by decide +kernel) (by decide +kernel)
set_option maxRecDepth 20000 in
theorem gX2_seal_X2_isWithin : GoodIn wsX2_seal (va_wsS RX2 19 yX2_isWithin wsX2_isWithin) := goodIn_app (goodIn_of _ (by decide +kernel)) ggX2_seal_X2_isWithin
set_option maxRecDepth 20000 in
theorem ggX2_seal_X1_isBatchRecalled : GoodIn wsX2_seal wsX1_isBatchRecalled := goodIn_r _ [23, 24, 25, 26, 27, 28, 29, 30, 47, 48, 49, 50, 51, 52, 53, 54, 55, 56, 57, 58, 59, 60, 61] (by decide +kernel) (by decide +kernel)
set_option maxRecDepth 20000 in
theorem gX2_seal_X1_isBatchRecalled : GoodIn wsX2_seal (wsV RX2 55 RX1 yX1_isBatchRecalled wsX1_isBatchRecalled) := goodIn_app (goodIn_of _ (by decide +kernel)) ggX2_seal_X1_isBatchRecalled
set_option maxRecDepth 20000 in
theorem ggX2_seal_X1_takeTins : GoodIn wsX2_seal wsX1_takeTins := goodIn_r _ [34, 35, 36, 37, 38, 39, 40, 41, 42, 43, 28, 44, 30, 25, 26, 27, 29, 47, 48, 49, 50, 51, 52, 53, 54, 55, 56, 57, 58, 59, 60, 61] (by decide +kernel) (by decide +kernel)
set_option maxRecDepth 20000 in
theorem gX2_seal_X1_takeTins : GoodIn wsX2_seal (wsV RX2 61 RX1 yX1_takeTins wsX1_takeTins) := goodIn_app (goodIn_of _ (by decide +kernel)) ggX2_seal_X1_takeTins
theorem dX2_seal_0 : decode cX2_seal 0 = .ok (.aload_n 0, 1) := by decide +kernel
theorem dX2_seal_1 : decode cX2_seal 1 = .ok (.iload_n 1, 1) := by decide +kernel
theorem dX2_seal_2 : decode cX2_seal 2 = .ok (.invokevirtual 43, 3) := by decide +kernel
theorem dX2_seal_5 : decode cX2_seal 5 = .ok (.iload_n 2, 1) := by decide +kernel
theorem dX2_seal_6 : decode cX2_seal 6 = .ok (.invokestatic 47, 3) := by decide +kernel
theorem dX2_seal_9 : decode cX2_seal 9 = .ok (.iload_n 3, 1) := by decide +kernel
theorem dX2_seal_10 : decode cX2_seal 10 = .ok (.iconst 1, 1) := by decide +kernel
theorem dX2_seal_11 : decode cX2_seal 11 = .ok (.bipush 20, 2) := by decide +kernel
theorem dX2_seal_13 : decode cX2_seal 13 = .ok (.invokestatic 19, 3) := by decide +kernel
theorem dX2_seal_16 : decode cX2_seal 16 = .ok (.ifCond .ne 13, 3) := by decide +kernel
theorem dX2_seal_19 : decode cX2_seal 19 = .ok (.new 23, 3) := by decide +kernel
theorem dX2_seal_22 : decode cX2_seal 22 = .ok (.dup, 1) := by decide +kernel
theorem dX2_seal_23 : decode cX2_seal 23 = .ok (.ldc 50, 2) := by decide +kernel
theorem dX2_seal_25 : decode cX2_seal 25 = .ok (.invokespecial 27, 3) := by decide +kernel
theorem dX2_seal_28 : decode cX2_seal 28 = .ok (.athrow, 1) := by decide +kernel
theorem dX2_seal_29 : decode cX2_seal 29 = .ok (.aload_n 0, 1) := by decide +kernel
theorem dX2_seal_30 : decode cX2_seal 30 = .ok (.getfield 10, 3) := by decide +kernel
theorem dX2_seal_33 : decode cX2_seal 33 = .ok (.getfield 52, 3) := by decide +kernel
theorem dX2_seal_36 : decode cX2_seal 36 = .ok (.iload_n 3, 1) := by decide +kernel
theorem dX2_seal_37 : decode cX2_seal 37 = .ok (.iadd, 1) := by decide +kernel
theorem dX2_seal_38 : decode cX2_seal 38 = .ok (.bipush 60, 2) := by decide +kernel
theorem dX2_seal_40 : decode cX2_seal 40 = .ok (.if_icmp .gt 14, 3) := by decide +kernel
theorem dX2_seal_43 : decode cX2_seal 43 = .ok (.aload_n 0, 1) := by decide +kernel
theorem dX2_seal_44 : decode cX2_seal 44 = .ok (.getfield 10, 3) := by decide +kernel
theorem dX2_seal_47 : decode cX2_seal 47 = .ok (.iload_n 1, 1) := by decide +kernel
theorem dX2_seal_48 : decode cX2_seal 48 = .ok (.invokevirtual 55, 3) := by decide +kernel
theorem dX2_seal_51 : decode cX2_seal 51 = .ok (.ifCond .eq 13, 3) := by decide +kernel
theorem dX2_seal_54 : decode cX2_seal 54 = .ok (.new 34, 3) := by decide +kernel
theorem dX2_seal_57 : decode cX2_seal 57 = .ok (.dup, 1) := by decide +kernel
theorem dX2_seal_58 : decode cX2_seal 58 = .ok (.ldc 59, 2) := by decide +kernel
theorem dX2_seal_60 : decode cX2_seal 60 = .ok (.invokespecial 38, 3) := by decide +kernel
theorem dX2_seal_63 : decode cX2_seal 63 = .ok (.athrow, 1) := by decide +kernel
theorem dX2_seal_64 : decode cX2_seal 64 = .ok (.aload_n 0, 1) := by decide +kernel
theorem dX2_seal_65 : decode cX2_seal 65 = .ok (.getfield 10, 3) := by decide +kernel
theorem dX2_seal_68 : decode cX2_seal 68 = .ok (.iload_n 1, 1) := by decide +kernel
theorem dX2_seal_69 : decode cX2_seal 69 = .ok (.iload_n 2, 1) := by decide +kernel
theorem dX2_seal_70 : decode cX2_seal 70 = .ok (.iload_n 3, 1) := by decide +kernel
theorem dX2_seal_71 : decode cX2_seal 71 = .ok (.invokevirtual 61, 3) := by decide +kernel
theorem dX2_seal_74 : decode cX2_seal 74 = .ok (.ireturn, 1) := by decide +kernel
set_option maxRecDepth 20000 in
theorem ggX2_move_X2_needTin : GoodIn wsX2_move wsX2_needTin := goodIn_ca (goodIn_r _ [8, 9, 10, 3, 11, 12, 7, 13, 34, 35, 36, 37, 38, 39, 40, 41, 42, 43, 44, 45, 46, 47, 48, 49] (by decide +kernel) (by decide +kernel)) (goodIn_sub (fun _ h => List.mem_cons_of_mem _ (List.mem_append_right _ h)) (by decide +kernel))
set_option maxRecDepth 20000 in
theorem gX2_move_X2_needTin : GoodIn wsX2_move (wsV RX2 65 RX2 yX2_needTin wsX2_needTin) := goodIn_app (goodIn_of _ (by decide +kernel)) ggX2_move_X2_needTin
set_option maxRecDepth 20000 in
theorem ggX2_move_X2_needShelf : GoodIn wsX2_move wsX2_needShelf := goodIn_ca (goodIn_r _ [16, 9, 10, 11, 12, 7, 13] (by decide +kernel) (by decide +kernel)) (goodIn_sub (fun _ h => List.mem_cons_of_mem _ (List.mem_append_right _ h)) (by decide +kernel))
set_option maxRecDepth 20000 in
theorem gX2_move_X2_needShelf : GoodIn wsX2_move (va_wsS RX2 47 yX2_needShelf wsX2_needShelf) := goodIn_app (goodIn_of _ (by decide +kernel)) ggX2_move_X2_needShelf
set_option maxRecDepth 20000 in
theorem ggX2_move_X1_holds : GoodIn wsX2_move wsX1_holds := goodIn_r _ [21, 22, 23, 24, 25, 26, 27, 28, 36, 37, 38, 39, 40, 41, 42, 43, 44, 45, 46, 47, 48, 49, 50] (by decide +kernel) (by decide +kernel)
set_option maxRecDepth 20000 in
theorem gX2_move_X1_holds : GoodIn wsX2_move (wsV RX2 68 RX1 yX1_holds wsX1_holds) := goodIn_app (goodIn_of _ (by decide +kernel)) ggX2_move_X1_holds
set_option maxRecDepth 20000 in
theorem ggX2_move_X0_get : GoodIn wsX2_move wsX0_get := goodIn_r _ [27, 28, 50] (by decide +kernel) (by decide +kernel)
set_option maxRecDepth 20000 in
theorem gX2_move_X0_get : GoodIn wsX2_move (wsV RX2 77 RX0 yX0_get wsX0_get) := goodIn_app (goodIn_of _ (by decide +kernel)) ggX2_move_X0_get
set_option maxRecDepth 20000 in
theorem ggX2_move_X0_set : GoodIn wsX2_move wsX0_set := goodIn_r _ [33, 28, 50] (by decide +kernel) (by decide +kernel)
set_option maxRecDepth 20000 in
theorem gX2_move_X0_set : GoodIn wsX2_move (wsV RX2 83 RX0 yX0_set wsX0_set) := goodIn_app (goodIn_of _ (by decide +kernel)) ggX2_move_X0_set
theorem dX2_move_0 : decode cX2_move 0 = .ok (.aload_n 0, 1) := by decide +kernel
theorem dX2_move_1 : decode cX2_move 1 = .ok (.iload_n 1, 1) := by decide +kernel
theorem dX2_move_2 : decode cX2_move 2 = .ok (.invokevirtual 65, 3) := by decide +kernel
theorem dX2_move_5 : decode cX2_move 5 = .ok (.iload_n 2, 1) := by decide +kernel
theorem dX2_move_6 : decode cX2_move 6 = .ok (.invokestatic 47, 3) := by decide +kernel
theorem dX2_move_9 : decode cX2_move 9 = .ok (.aload_n 0, 1) := by decide +kernel
theorem dX2_move_10 : decode cX2_move 10 = .ok (.getfield 10, 3) := by decide +kernel
theorem dX2_move_13 : decode cX2_move 13 = .ok (.iload_n 1, 1) := by decide +kernel
theorem dX2_move_14 : decode cX2_move 14 = .ok (.invokevirtual 68, 3) := by decide +kernel
theorem dX2_move_17 : decode cX2_move 17 = .ok (.ifCond .ne 13, 3) := by decide +kernel
theorem dX2_move_20 : decode cX2_move 20 = .ok (.new 34, 3) := by decide +kernel
theorem dX2_move_23 : decode cX2_move 23 = .ok (.dup, 1) := by decide +kernel
theorem dX2_move_24 : decode cX2_move 24 = .ok (.ldc 71, 2) := by decide +kernel
theorem dX2_move_26 : decode cX2_move 26 = .ok (.invokespecial 38, 3) := by decide +kernel
theorem dX2_move_29 : decode cX2_move 29 = .ok (.athrow, 1) := by decide +kernel
theorem dX2_move_30 : decode cX2_move 30 = .ok (.aload_n 0, 1) := by decide +kernel
theorem dX2_move_31 : decode cX2_move 31 = .ok (.getfield 10, 3) := by decide +kernel
theorem dX2_move_34 : decode cX2_move 34 = .ok (.getfield 73, 3) := by decide +kernel
theorem dX2_move_37 : decode cX2_move 37 = .ok (.iload_n 1, 1) := by decide +kernel
theorem dX2_move_38 : decode cX2_move 38 = .ok (.invokevirtual 77, 3) := by decide +kernel
theorem dX2_move_41 : decode cX2_move 41 = .ok (.istore_n 3, 1) := by decide +kernel
theorem dX2_move_42 : decode cX2_move 42 = .ok (.aload_n 0, 1) := by decide +kernel
theorem dX2_move_43 : decode cX2_move 43 = .ok (.getfield 10, 3) := by decide +kernel
theorem dX2_move_46 : decode cX2_move 46 = .ok (.getfield 73, 3) := by decide +kernel
theorem dX2_move_49 : decode cX2_move 49 = .ok (.iload_n 1, 1) := by decide +kernel
theorem dX2_move_50 : decode cX2_move 50 = .ok (.iload_n 2, 1) := by decide +kernel
theorem dX2_move_51 : decode cX2_move 51 = .ok (.invokevirtual 83, 3) := by decide +kernel
theorem dX2_move_54 : decode cX2_move 54 = .ok (.iload_n 3, 1) := by decide +kernel
theorem dX2_move_55 : decode cX2_move 55 = .ok (.ireturn, 1) := by decide +kernel
set_option maxRecDepth 20000 in
theorem ggX2_setWarm_X2_needShelf : GoodIn wsX2_setWarm wsX2_needShelf := goodIn_ca (goodIn_r _ [7, 8, 9, 10, 11, 6, 12] (by decide +kernel) (by decide +kernel)) (goodIn_sub (fun _ h => List.mem_cons_of_mem _ (List.mem_append_right _ h)) (by decide +kernel))
set_option maxRecDepth 20000 in
theorem gX2_setWarm_X2_needShelf : GoodIn wsX2_setWarm (va_wsS RX2 47 yX2_needShelf wsX2_needShelf) := goodIn_app (goodIn_of _ (by decide +kernel)) ggX2_setWarm_X2_needShelf
set_option maxRecDepth 20000 in
theorem ggX2_setWarm_X2_isWithin : GoodIn wsX2_setWarm wsX2_isWithin := goodIn_r _ [12] (by decide +kernel) (by decide +kernel)
set_option maxRecDepth 20000 in
theorem gX2_setWarm_X2_isWithin : GoodIn wsX2_setWarm (va_wsS RX2 19 yX2_isWithin wsX2_isWithin) := goodIn_app (goodIn_of _ (by decide +kernel)) ggX2_setWarm_X2_isWithin
set_option maxRecDepth 20000 in
theorem ggX2_setWarm_X0_get : GoodIn wsX2_setWarm wsX0_get := goodIn_r _ [17, 18, 39] (by decide +kernel) (by decide +kernel)
set_option maxRecDepth 20000 in
theorem gX2_setWarm_X0_get : GoodIn wsX2_setWarm (wsV RX2 77 RX0 yX0_get wsX0_get) := goodIn_app (goodIn_of _ (by decide +kernel)) ggX2_setWarm_X0_get
set_option maxRecDepth 20000 in
theorem ggX2_setWarm_X0_set : GoodIn wsX2_setWarm wsX0_set := goodIn_r _ [22, 18, 39] (by decide +kernel) (by decide +kernel)
set_option maxRecDepth 20000 in
theorem gX2_setWarm_X0_set : GoodIn wsX2_setWarm (wsV RX2 83 RX0 yX0_set wsX0_set) := goodIn_app (goodIn_of _ (by decide +kernel)) ggX2_setWarm_X0_set
theorem dX2_setWarm_0 : decode cX2_setWarm 0 = .ok (.iload_n 1, 1) := by decide +kernel
theorem dX2_setWarm_1 : decode cX2_setWarm 1 = .ok (.invokestatic 47, 3) := by decide +kernel
theorem dX2_setWarm_4 : decode cX2_setWarm 4 = .ok (.iload_n 2, 1) := by decide +kernel
theorem dX2_setWarm_5 : decode cX2_setWarm 5 = .ok (.iconst 0, 1) := by decide +kernel
theorem dX2_setWarm_6 : decode cX2_setWarm 6 = .ok (.iconst 3, 1) := by decide +kernel
theorem dX2_setWarm_7 : decode cX2_setWarm 7 = .ok (.invokestatic 19, 3) := by decide +kernel
theorem dX2_setWarm_10 : decode cX2_setWarm 10 = .ok (.ifCond .ne 13, 3) := by decide +kernel
theorem dX2_setWarm_13 : decode cX2_setWarm 13 = .ok (.new 23, 3) := by decide +kernel
theorem dX2_setWarm_16 : decode cX2_setWarm 16 = .ok (.dup, 1) := by decide +kernel
theorem dX2_setWarm_17 : decode cX2_setWarm 17 = .ok (.ldc 87, 2) := by decide +kernel
theorem dX2_setWarm_19 : decode cX2_setWarm 19 = .ok (.invokespecial 27, 3) := by decide +kernel
theorem dX2_setWarm_22 : decode cX2_setWarm 22 = .ok (.athrow, 1) := by decide +kernel
theorem dX2_setWarm_23 : decode cX2_setWarm 23 = .ok (.aload_n 0, 1) := by decide +kernel
theorem dX2_setWarm_24 : decode cX2_setWarm 24 = .ok (.getfield 10, 3) := by decide +kernel
theorem dX2_setWarm_27 : decode cX2_setWarm 27 = .ok (.getfield 89, 3) := by decide +kernel
theorem dX2_setWarm_30 : decode cX2_setWarm 30 = .ok (.iload_n 1, 1) := by decide +kernel
theorem dX2_setWarm_31 : decode cX2_setWarm 31 = .ok (.invokevirtual 77, 3) := by decide +kernel
theorem dX2_setWarm_34 : decode cX2_setWarm 34 = .ok (.istore_n 3, 1) := by decide +kernel
theorem dX2_setWarm_35 : decode cX2_setWarm 35 = .ok (.aload_n 0, 1) := by decide +kernel
theorem dX2_setWarm_36 : decode cX2_setWarm 36 = .ok (.getfield 10, 3) := by decide +kernel
theorem dX2_setWarm_39 : decode cX2_setWarm 39 = .ok (.getfield 89, 3) := by decide +kernel
theorem dX2_setWarm_42 : decode cX2_setWarm 42 = .ok (.iload_n 1, 1) := by decide +kernel
theorem dX2_setWarm_43 : decode cX2_setWarm 43 = .ok (.iload_n 2, 1) := by decide +kernel
theorem dX2_setWarm_44 : decode cX2_setWarm 44 = .ok (.invokevirtual 83, 3) := by decide +kernel
theorem dX2_setWarm_47 : decode cX2_setWarm 47 = .ok (.iload_n 3, 1) := by decide +kernel
theorem dX2_setWarm_48 : decode cX2_setWarm 48 = .ok (.ireturn, 1) := by decide +kernel
set_option maxRecDepth 20000 in
theorem ggX2_setShipping_X2_needShipping : GoodIn wsX2_setShipping wsX2_needShipping := goodIn_ca (goodIn_r _ [5, 6, 7, 8, 9, 4, 10, 11, 12, 13] (by decide +kernel) (by decide +kernel)) (goodIn_sub (fun _ h => List.mem_cons_of_mem _ (List.mem_append_right _ h)) (by decide +kernel))
set_option maxRecDepth 20000 in
theorem gX2_setShipping_X2_needShipping : GoodIn wsX2_setShipping (va_wsS RX2 92 yX2_needShipping wsX2_needShipping) := goodIn_app (goodIn_of _ (by decide +kernel)) ggX2_setShipping_X2_needShipping
theorem dX2_setShipping_0 : decode cX2_setShipping 0 = .ok (.iload_n 1, 1) := by decide +kernel
theorem dX2_setShipping_1 : decode cX2_setShipping 1 = .ok (.iload_n 2, 1) := by decide +kernel
theorem dX2_setShipping_2 : decode cX2_setShipping 2 = .ok (.invokestatic 92, 3) := by decide +kernel
theorem dX2_setShipping_5 : decode cX2_setShipping 5 = .ok (.aload_n 0, 1) := by decide +kernel
theorem dX2_setShipping_6 : decode cX2_setShipping 6 = .ok (.getfield 10, 3) := by decide +kernel
theorem dX2_setShipping_9 : decode cX2_setShipping 9 = .ok (.getfield 95, 3) := by decide +kernel
theorem dX2_setShipping_12 : decode cX2_setShipping 12 = .ok (.istore_n 3, 1) := by decide +kernel
theorem dX2_setShipping_13 : decode cX2_setShipping 13 = .ok (.aload_n 0, 1) := by decide +kernel
theorem dX2_setShipping_14 : decode cX2_setShipping 14 = .ok (.getfield 10, 3) := by decide +kernel
theorem dX2_setShipping_17 : decode cX2_setShipping 17 = .ok (.iload_n 1, 1) := by decide +kernel
theorem dX2_setShipping_18 : decode cX2_setShipping 18 = .ok (.putfield 95, 3) := by decide +kernel
theorem dX2_setShipping_21 : decode cX2_setShipping 21 = .ok (.aload_n 0, 1) := by decide +kernel
theorem dX2_setShipping_22 : decode cX2_setShipping 22 = .ok (.getfield 10, 3) := by decide +kernel
theorem dX2_setShipping_25 : decode cX2_setShipping 25 = .ok (.iload_n 2, 1) := by decide +kernel
theorem dX2_setShipping_26 : decode cX2_setShipping 26 = .ok (.putfield 98, 3) := by decide +kernel
theorem dX2_setShipping_29 : decode cX2_setShipping 29 = .ok (.iload_n 3, 1) := by decide +kernel
theorem dX2_setShipping_30 : decode cX2_setShipping 30 = .ok (.ireturn, 1) := by decide +kernel
set_option maxRecDepth 20000 in
theorem ggX2_recall_X2_needBatch : GoodIn wsX2_recall wsX2_needBatch := goodIn_ca (goodIn_r _ [8, 9, 10, 3, 11, 12, 7, 13, 37, 38, 39, 40, 41, 42, 43, 44, 45, 46, 47, 48, 49, 50, 51, 52] (by decide +kernel) (by decide +kernel)) (goodIn_sub (fun _ h => List.mem_cons_of_mem _ (List.mem_append_right _ h)) (by decide +kernel))
set_option maxRecDepth 20000 in
theorem gX2_recall_X2_needBatch : GoodIn wsX2_recall (wsV RX2 43 RX2 yX2_needBatch wsX2_needBatch) := goodIn_app (goodIn_of _ (by decide +kernel)) ggX2_recall_X2_needBatch
set_option maxRecDepth 20000 in
theorem ggX2_recall_X1_isBatchRecalled : GoodIn wsX2_recall wsX1_isBatchRecalled := goodIn_r _ [18, 19, 20, 21, 22, 23, 24, 25, 39, 40, 41, 42, 43, 44, 45, 46, 47, 48, 49, 50, 51, 52, 53] (by decide +kernel) (by decide +kernel)
set_option maxRecDepth 20000 in
theorem gX2_recall_X1_isBatchRecalled : GoodIn wsX2_recall (wsV RX2 55 RX1 yX1_isBatchRecalled wsX1_isBatchRecalled) := goodIn_app (goodIn_of _ (by decide +kernel)) ggX2_recall_X1_isBatchRecalled
set_option maxRecDepth 20000 in
theorem ggX2_recall_X1_recallBatch : GoodIn wsX2_recall wsX1_recallBatch := goodIn_r _ [29, 19, 30, 31, 32, 33, 34, 35, 23, 36, 25, 20, 21, 22, 24, 39, 40, 41, 42, 43, 44, 45, 46, 47, 48, 49, 50, 51, 52, 53] (by decide +kernel) (by decide +kernel)
set_option maxRecDepth 20000 in
theorem gX2_recall_X1_recallBatch : GoodIn wsX2_recall (wsV RX2 103 RX1 yX1_recallBatch wsX1_recallBatch) := goodIn_app (goodIn_of _ (by decide +kernel)) ggX2_recall_X1_recallBatch
theorem dX2_recall_0 : decode cX2_recall 0 = .ok (.aload_n 0, 1) := by decide +kernel
theorem dX2_recall_1 : decode cX2_recall 1 = .ok (.iload_n 1, 1) := by decide +kernel
theorem dX2_recall_2 : decode cX2_recall 2 = .ok (.invokevirtual 43, 3) := by decide +kernel
theorem dX2_recall_5 : decode cX2_recall 5 = .ok (.aload_n 0, 1) := by decide +kernel
theorem dX2_recall_6 : decode cX2_recall 6 = .ok (.getfield 10, 3) := by decide +kernel
theorem dX2_recall_9 : decode cX2_recall 9 = .ok (.iload_n 1, 1) := by decide +kernel
theorem dX2_recall_10 : decode cX2_recall 10 = .ok (.invokevirtual 55, 3) := by decide +kernel
theorem dX2_recall_13 : decode cX2_recall 13 = .ok (.ifCond .eq 13, 3) := by decide +kernel
theorem dX2_recall_16 : decode cX2_recall 16 = .ok (.new 34, 3) := by decide +kernel
theorem dX2_recall_19 : decode cX2_recall 19 = .ok (.dup, 1) := by decide +kernel
theorem dX2_recall_20 : decode cX2_recall 20 = .ok (.ldc 101, 2) := by decide +kernel
theorem dX2_recall_22 : decode cX2_recall 22 = .ok (.invokespecial 38, 3) := by decide +kernel
theorem dX2_recall_25 : decode cX2_recall 25 = .ok (.athrow, 1) := by decide +kernel
theorem dX2_recall_26 : decode cX2_recall 26 = .ok (.aload_n 0, 1) := by decide +kernel
theorem dX2_recall_27 : decode cX2_recall 27 = .ok (.getfield 10, 3) := by decide +kernel
theorem dX2_recall_30 : decode cX2_recall 30 = .ok (.iload_n 1, 1) := by decide +kernel
theorem dX2_recall_31 : decode cX2_recall 31 = .ok (.invokevirtual 103, 3) := by decide +kernel
theorem dX2_recall_34 : decode cX2_recall 34 = .ok (.ireturn, 1) := by decide +kernel
set_option maxRecDepth 20000 in
theorem ggX2_pass_X2_isWithin : GoodIn wsX2_pass wsX2_isWithin := goodIn_r _ [7] (by decide +kernel) (by decide +kernel)
set_option maxRecDepth 20000 in
theorem gX2_pass_X2_isWithin : GoodIn wsX2_pass (va_wsS RX2 19 yX2_isWithin wsX2_isWithin) := goodIn_app (goodIn_of _ (by decide +kernel)) ggX2_pass_X2_isWithin
set_option maxRecDepth 20000 in
theorem ggX2_pass_X1_countAt : GoodIn wsX2_pass wsX1_countAt := goodIn_r _ [12, 13, 14, 15, 16, 17, 18, 19, 20, 86, 87, 88, 89, 90, 91, 92, 93, 94, 95, 96, 97, 98, 99, 100] (by decide +kernel) (by decide +kernel)
set_option maxRecDepth 20000 in
theorem gX2_pass_X1_countAt : GoodIn wsX2_pass (wsV RX2 108 RX1 yX1_countAt wsX1_countAt) := goodIn_app (goodIn_of _ (by decide +kernel)) ggX2_pass_X1_countAt
set_option maxRecDepth 20000 in
theorem ggX2_pass_X1_passDay : GoodIn wsX2_pass wsX1_passDay := goodIn_r _ [24, 25, 26, 27, 28, 29, 30, 11, 31, 13, 32, 33, 34, 35, 36, 37, 38, 39, 40, 41, 14, 15, 16, 17, 18, 19, 20, 42, 43, 44, 45, 46, 47, 48, 49, 50, 51, 52, 53, 54, 55, 56, 57, 58, 59, 60, 61, 62, 63, 64, 65, 66, 67, 68, 69, 70, 71, 72, 73, 74, 75, 76, 77, 78, 79, 80, 81, 82, 83, 86, 87, 88, 89, 90, 91, 92, 93, 94, 95, 96, 97, 98, 99, 100] (by decide +kernel) (by decide +kernel)
set_option maxRecDepth 20000 in
theorem gX2_pass_X1_passDay : GoodIn wsX2_pass (wsV RX2 111 RX1 yX1_passDay wsX1_passDay) := goodIn_app (goodIn_of _ (by decide +kernel)) ggX2_pass_X1_passDay
theorem dX2_pass_0 : decode cX2_pass 0 = .ok (.iload_n 1, 1) := by decide +kernel
theorem dX2_pass_1 : decode cX2_pass 1 = .ok (.iconst 1, 1) := by decide +kernel
theorem dX2_pass_2 : decode cX2_pass 2 = .ok (.bipush 60, 2) := by decide +kernel
theorem dX2_pass_4 : decode cX2_pass 4 = .ok (.invokestatic 19, 3) := by decide +kernel
theorem dX2_pass_7 : decode cX2_pass 7 = .ok (.ifCond .ne 13, 3) := by decide +kernel
theorem dX2_pass_10 : decode cX2_pass 10 = .ok (.new 23, 3) := by decide +kernel
theorem dX2_pass_13 : decode cX2_pass 13 = .ok (.dup, 1) := by decide +kernel
theorem dX2_pass_14 : decode cX2_pass 14 = .ok (.ldc 106, 2) := by decide +kernel
theorem dX2_pass_16 : decode cX2_pass 16 = .ok (.invokespecial 27, 3) := by decide +kernel
theorem dX2_pass_19 : decode cX2_pass 19 = .ok (.athrow, 1) := by decide +kernel
theorem dX2_pass_20 : decode cX2_pass 20 = .ok (.aload_n 0, 1) := by decide +kernel
theorem dX2_pass_21 : decode cX2_pass 21 = .ok (.getfield 10, 3) := by decide +kernel
theorem dX2_pass_24 : decode cX2_pass 24 = .ok (.iconst 2, 1) := by decide +kernel
theorem dX2_pass_25 : decode cX2_pass 25 = .ok (.invokevirtual 108, 3) := by decide +kernel
theorem dX2_pass_28 : decode cX2_pass 28 = .ok (.istore_n 2, 1) := by decide +kernel
theorem dX2_pass_29 : decode cX2_pass 29 = .ok (.iconst 0, 1) := by decide +kernel
theorem dX2_pass_30 : decode cX2_pass 30 = .ok (.istore_n 3, 1) := by decide +kernel
theorem dX2_pass_31 : decode cX2_pass 31 = .ok (.iload_n 3, 1) := by decide +kernel
theorem dX2_pass_32 : decode cX2_pass 32 = .ok (.iload_n 1, 1) := by decide +kernel
theorem dX2_pass_33 : decode cX2_pass 33 = .ok (.if_icmp .ge 16, 3) := by decide +kernel
theorem dX2_pass_36 : decode cX2_pass 36 = .ok (.aload_n 0, 1) := by decide +kernel
theorem dX2_pass_37 : decode cX2_pass 37 = .ok (.getfield 10, 3) := by decide +kernel
theorem dX2_pass_40 : decode cX2_pass 40 = .ok (.invokevirtual 111, 3) := by decide +kernel
theorem dX2_pass_43 : decode cX2_pass 43 = .ok (.iinc 3 1, 3) := by decide +kernel
theorem dX2_pass_46 : decode cX2_pass 46 = .ok (.goto (-15), 3) := by decide +kernel
theorem dX2_pass_49 : decode cX2_pass 49 = .ok (.aload_n 0, 1) := by decide +kernel
theorem dX2_pass_50 : decode cX2_pass 50 = .ok (.getfield 10, 3) := by decide +kernel
theorem dX2_pass_53 : decode cX2_pass 53 = .ok (.iconst 2, 1) := by decide +kernel
theorem dX2_pass_54 : decode cX2_pass 54 = .ok (.invokevirtual 108, 3) := by decide +kernel
theorem dX2_pass_57 : decode cX2_pass 57 = .ok (.iload_n 2, 1) := by decide +kernel
theorem dX2_pass_58 : decode cX2_pass 58 = .ok (.isub, 1) := by decide +kernel
theorem dX2_pass_59 : decode cX2_pass 59 = .ok (.ireturn, 1) := by decide +kernel
theorem dX2_day_0 : decode cX2_day 0 = .ok (.aload_n 0, 1) := by decide +kernel
theorem dX2_day_1 : decode cX2_day 1 = .ok (.getfield 10, 3) := by decide +kernel
theorem dX2_day_4 : decode cX2_day 4 = .ok (.getfield 114, 3) := by decide +kernel
theorem dX2_day_7 : decode cX2_day 7 = .ok (.ireturn, 1) := by decide +kernel
theorem dX2_batches_0 : decode cX2_batches 0 = .ok (.aload_n 0, 1) := by decide +kernel
theorem dX2_batches_1 : decode cX2_batches 1 = .ok (.getfield 10, 3) := by decide +kernel
theorem dX2_batches_4 : decode cX2_batches 4 = .ok (.getfield 30, 3) := by decide +kernel
theorem dX2_batches_7 : decode cX2_batches 7 = .ok (.ireturn, 1) := by decide +kernel
theorem dX2_tins_0 : decode cX2_tins 0 = .ok (.aload_n 0, 1) := by decide +kernel
theorem dX2_tins_1 : decode cX2_tins 1 = .ok (.getfield 10, 3) := by decide +kernel
theorem dX2_tins_4 : decode cX2_tins 4 = .ok (.getfield 52, 3) := by decide +kernel
theorem dX2_tins_7 : decode cX2_tins 7 = .ok (.ireturn, 1) := by decide +kernel
set_option maxRecDepth 20000 in
theorem ggX2_inCellar_X1_countAt : GoodIn wsX2_inCellar wsX1_countAt := goodIn_r _ [6, 7, 8, 9, 10, 11, 12, 13, 14, 17, 18, 19, 20, 21, 22, 23, 24, 25, 26, 27, 28, 29, 30, 31] (by decide +kernel) (by decide +kernel)
set_option maxRecDepth 20000 in
theorem gX2_inCellar_X1_countAt : GoodIn wsX2_inCellar (wsV RX2 108 RX1 yX1_countAt wsX1_countAt) := goodIn_app (goodIn_of _ (by decide +kernel)) ggX2_inCellar_X1_countAt
theorem dX2_inCellar_0 : decode cX2_inCellar 0 = .ok (.aload_n 0, 1) := by decide +kernel
theorem dX2_inCellar_1 : decode cX2_inCellar 1 = .ok (.getfield 10, 3) := by decide +kernel
theorem dX2_inCellar_4 : decode cX2_inCellar 4 = .ok (.iconst 1, 1) := by decide +kernel
theorem dX2_inCellar_5 : decode cX2_inCellar 5 = .ok (.invokevirtual 108, 3) := by decide +kernel
theorem dX2_inCellar_8 : decode cX2_inCellar 8 = .ok (.ireturn, 1) := by decide +kernel
set_option maxRecDepth 20000 in
theorem ggX2_shipped_X1_countAt : GoodIn wsX2_shipped wsX1_countAt := goodIn_r _ [6, 7, 8, 9, 10, 11, 12, 13, 14, 17, 18, 19, 20, 21, 22, 23, 24, 25, 26, 27, 28, 29, 30, 31] (by decide +kernel) (by decide +kernel)
set_option maxRecDepth 20000 in
theorem gX2_shipped_X1_countAt : GoodIn wsX2_shipped (wsV RX2 108 RX1 yX1_countAt wsX1_countAt) := goodIn_app (goodIn_of _ (by decide +kernel)) ggX2_shipped_X1_countAt
theorem dX2_shipped_0 : decode cX2_shipped 0 = .ok (.aload_n 0, 1) := by decide +kernel
theorem dX2_shipped_1 : decode cX2_shipped 1 = .ok (.getfield 10, 3) := by decide +kernel
theorem dX2_shipped_4 : decode cX2_shipped 4 = .ok (.iconst 2, 1) := by decide +kernel
theorem dX2_shipped_5 : decode cX2_shipped 5 = .ok (.invokevirtual 108, 3) := by decide +kernel
theorem dX2_shipped_8 : decode cX2_shipped 8 = .ok (.ireturn, 1) := by decide +kernel
set_option maxRecDepth 20000 in
theorem ggX2_lost_X1_countAt : GoodIn wsX2_lost wsX1_countAt := goodIn_r _ [6, 7, 8, 9, 10, 11, 12, 13, 14, 17, 18, 19, 20, 21, 22, 23, 24, 25, 26, 27, 28, 29, 30, 31] (by decide +kernel) (by decide +kernel)
set_option maxRecDepth 20000 in
theorem gX2_lost_X1_countAt : GoodIn wsX2_lost (wsV RX2 108 RX1 yX1_countAt wsX1_countAt) := goodIn_app (goodIn_of _ (by decide +kernel)) ggX2_lost_X1_countAt
theorem dX2_lost_0 : decode cX2_lost 0 = .ok (.aload_n 0, 1) := by decide +kernel
theorem dX2_lost_1 : decode cX2_lost 1 = .ok (.getfield 10, 3) := by decide +kernel
theorem dX2_lost_4 : decode cX2_lost 4 = .ok (.iconst 3, 1) := by decide +kernel
theorem dX2_lost_5 : decode cX2_lost 5 = .ok (.invokevirtual 108, 3) := by decide +kernel
theorem dX2_lost_8 : decode cX2_lost 8 = .ok (.ireturn, 1) := by decide +kernel
set_option maxRecDepth 20000 in
theorem ggX2_swelled_X0_get : GoodIn wsX2_swelled wsX0_get := goodIn_r _ [6, 7, 24] (by decide +kernel) (by decide +kernel)
set_option maxRecDepth 20000 in
theorem gX2_swelled_X0_get : GoodIn wsX2_swelled (wsV RX2 77 RX0 yX0_get wsX0_get) := goodIn_app (goodIn_of _ (by decide +kernel)) ggX2_swelled_X0_get
theorem dX2_swelled_0 : decode cX2_swelled 0 = .ok (.iconst 0, 1) := by decide +kernel
theorem dX2_swelled_1 : decode cX2_swelled 1 = .ok (.istore_n 1, 1) := by decide +kernel
theorem dX2_swelled_2 : decode cX2_swelled 2 = .ok (.iconst 0, 1) := by decide +kernel
theorem dX2_swelled_3 : decode cX2_swelled 3 = .ok (.istore_n 2, 1) := by decide +kernel
theorem dX2_swelled_4 : decode cX2_swelled 4 = .ok (.iload_n 2, 1) := by decide +kernel
theorem dX2_swelled_5 : decode cX2_swelled 5 = .ok (.aload_n 0, 1) := by decide +kernel
theorem dX2_swelled_6 : decode cX2_swelled 6 = .ok (.getfield 10, 3) := by decide +kernel
theorem dX2_swelled_9 : decode cX2_swelled 9 = .ok (.getfield 30, 3) := by decide +kernel
theorem dX2_swelled_12 : decode cX2_swelled 12 = .ok (.if_icmp .ge 23, 3) := by decide +kernel
theorem dX2_swelled_15 : decode cX2_swelled 15 = .ok (.iload_n 1, 1) := by decide +kernel
theorem dX2_swelled_16 : decode cX2_swelled 16 = .ok (.aload_n 0, 1) := by decide +kernel
theorem dX2_swelled_17 : decode cX2_swelled 17 = .ok (.getfield 10, 3) := by decide +kernel
theorem dX2_swelled_20 : decode cX2_swelled 20 = .ok (.getfield 117, 3) := by decide +kernel
theorem dX2_swelled_23 : decode cX2_swelled 23 = .ok (.iload_n 2, 1) := by decide +kernel
theorem dX2_swelled_24 : decode cX2_swelled 24 = .ok (.invokevirtual 77, 3) := by decide +kernel
theorem dX2_swelled_27 : decode cX2_swelled 27 = .ok (.iadd, 1) := by decide +kernel
theorem dX2_swelled_28 : decode cX2_swelled 28 = .ok (.istore_n 1, 1) := by decide +kernel
theorem dX2_swelled_29 : decode cX2_swelled 29 = .ok (.iinc 2 1, 3) := by decide +kernel
theorem dX2_swelled_32 : decode cX2_swelled 32 = .ok (.goto (-28), 3) := by decide +kernel
theorem dX2_swelled_35 : decode cX2_swelled 35 = .ok (.iload_n 1, 1) := by decide +kernel
theorem dX2_swelled_36 : decode cX2_swelled 36 = .ok (.ireturn, 1) := by decide +kernel
set_option maxRecDepth 20000 in
theorem ggX2_standOn_X2_needShelf : GoodIn wsX2_standOn wsX2_needShelf := goodIn_ca (goodIn_r _ [5, 6, 7, 8, 9, 4, 10] (by decide +kernel) (by decide +kernel)) (goodIn_sub (fun _ h => List.mem_cons_of_mem _ (List.mem_append_right _ h)) (by decide +kernel))
set_option maxRecDepth 20000 in
theorem gX2_standOn_X2_needShelf : GoodIn wsX2_standOn (va_wsS RX2 47 yX2_needShelf wsX2_needShelf) := goodIn_app (goodIn_of _ (by decide +kernel)) ggX2_standOn_X2_needShelf
set_option maxRecDepth 20000 in
theorem ggX2_standOn_X1_countHeldWith : GoodIn wsX2_standOn wsX1_countHeldWith := goodIn_r _ [15, 16, 17, 18, 19, 14, 20, 21, 22, 23, 24, 25, 26, 27, 30, 31, 32, 33, 34, 35, 36, 37, 38, 39, 40, 41, 42, 43, 44] (by decide +kernel) (by decide +kernel)
set_option maxRecDepth 20000 in
theorem gX2_standOn_X1_countHeldWith : GoodIn wsX2_standOn (wsV RX2 120 RX1 yX1_countHeldWith wsX1_countHeldWith) := goodIn_app (goodIn_of _ (by decide +kernel)) ggX2_standOn_X1_countHeldWith
theorem dX2_standOn_0 : decode cX2_standOn 0 = .ok (.iload_n 1, 1) := by decide +kernel
theorem dX2_standOn_1 : decode cX2_standOn 1 = .ok (.invokestatic 47, 3) := by decide +kernel
theorem dX2_standOn_4 : decode cX2_standOn 4 = .ok (.aload_n 0, 1) := by decide +kernel
theorem dX2_standOn_5 : decode cX2_standOn 5 = .ok (.getfield 10, 3) := by decide +kernel
theorem dX2_standOn_8 : decode cX2_standOn 8 = .ok (.aload_n 0, 1) := by decide +kernel
theorem dX2_standOn_9 : decode cX2_standOn 9 = .ok (.getfield 10, 3) := by decide +kernel
theorem dX2_standOn_12 : decode cX2_standOn 12 = .ok (.getfield 73, 3) := by decide +kernel
theorem dX2_standOn_15 : decode cX2_standOn 15 = .ok (.iload_n 1, 1) := by decide +kernel
theorem dX2_standOn_16 : decode cX2_standOn 16 = .ok (.invokevirtual 120, 3) := by decide +kernel
theorem dX2_standOn_19 : decode cX2_standOn 19 = .ok (.ireturn, 1) := by decide +kernel
set_option maxRecDepth 20000 in
theorem ggX2_warmOf_X2_needShelf : GoodIn wsX2_warmOf wsX2_needShelf := goodIn_ca (goodIn_r _ [5, 6, 7, 8, 9, 4, 10] (by decide +kernel) (by decide +kernel)) (goodIn_sub (fun _ h => List.mem_cons_of_mem _ (List.mem_append_right _ h)) (by decide +kernel))
set_option maxRecDepth 20000 in
theorem gX2_warmOf_X2_needShelf : GoodIn wsX2_warmOf (va_wsS RX2 47 yX2_needShelf wsX2_needShelf) := goodIn_app (goodIn_of _ (by decide +kernel)) ggX2_warmOf_X2_needShelf
set_option maxRecDepth 20000 in
theorem ggX2_warmOf_X0_get : GoodIn wsX2_warmOf wsX0_get := goodIn_r _ [15, 16, 33] (by decide +kernel) (by decide +kernel)
set_option maxRecDepth 20000 in
theorem gX2_warmOf_X0_get : GoodIn wsX2_warmOf (wsV RX2 77 RX0 yX0_get wsX0_get) := goodIn_app (goodIn_of _ (by decide +kernel)) ggX2_warmOf_X0_get
theorem dX2_warmOf_0 : decode cX2_warmOf 0 = .ok (.iload_n 1, 1) := by decide +kernel
theorem dX2_warmOf_1 : decode cX2_warmOf 1 = .ok (.invokestatic 47, 3) := by decide +kernel
theorem dX2_warmOf_4 : decode cX2_warmOf 4 = .ok (.aload_n 0, 1) := by decide +kernel
theorem dX2_warmOf_5 : decode cX2_warmOf 5 = .ok (.getfield 10, 3) := by decide +kernel
theorem dX2_warmOf_8 : decode cX2_warmOf 8 = .ok (.getfield 89, 3) := by decide +kernel
theorem dX2_warmOf_11 : decode cX2_warmOf 11 = .ok (.iload_n 1, 1) := by decide +kernel
theorem dX2_warmOf_12 : decode cX2_warmOf 12 = .ok (.invokevirtual 77, 3) := by decide +kernel
theorem dX2_warmOf_15 : decode cX2_warmOf 15 = .ok (.ireturn, 1) := by decide +kernel
set_option maxRecDepth 20000 in
theorem ggX2_batchOf_X2_needTin : GoodIn wsX2_batchOf wsX2_needTin := goodIn_ca (goodIn_r _ [6, 7, 8, 1, 9, 10, 5, 11, 18, 19, 20, 21, 22, 23, 24, 25, 26, 27, 28, 29, 30, 31, 32, 33] (by decide +kernel) (by decide +kernel)) (goodIn_sub (fun _ h => List.mem_cons_of_mem _ (List.mem_append_right _ h)) (by decide +kernel))
set_option maxRecDepth 20000 in
theorem gX2_batchOf_X2_needTin : GoodIn wsX2_batchOf (wsV RX2 65 RX2 yX2_needTin wsX2_needTin) := goodIn_app (goodIn_of _ (by decide +kernel)) ggX2_batchOf_X2_needTin
set_option maxRecDepth 20000 in
theorem ggX2_batchOf_X0_get : GoodIn wsX2_batchOf wsX0_get := goodIn_r _ [16, 17, 34] (by decide +kernel) (by decide +kernel)
set_option maxRecDepth 20000 in
theorem gX2_batchOf_X0_get : GoodIn wsX2_batchOf (wsV RX2 77 RX0 yX0_get wsX0_get) := goodIn_app (goodIn_of _ (by decide +kernel)) ggX2_batchOf_X0_get
theorem dX2_batchOf_0 : decode cX2_batchOf 0 = .ok (.aload_n 0, 1) := by decide +kernel
theorem dX2_batchOf_1 : decode cX2_batchOf 1 = .ok (.iload_n 1, 1) := by decide +kernel
theorem dX2_batchOf_2 : decode cX2_batchOf 2 = .ok (.invokevirtual 65, 3) := by decide +kernel
theorem dX2_batchOf_5 : decode cX2_batchOf 5 = .ok (.aload_n 0, 1) := by decide +kernel
theorem dX2_batchOf_6 : decode cX2_batchOf 6 = .ok (.getfield 10, 3) := by decide +kernel
theorem dX2_batchOf_9 : decode cX2_batchOf 9 = .ok (.getfield 124, 3) := by decide +kernel
theorem dX2_batchOf_12 : decode cX2_batchOf 12 = .ok (.iload_n 1, 1) := by decide +kernel
theorem dX2_batchOf_13 : decode cX2_batchOf 13 = .ok (.invokevirtual 77, 3) := by decide +kernel
theorem dX2_batchOf_16 : decode cX2_batchOf 16 = .ok (.ireturn, 1) := by decide +kernel
set_option maxRecDepth 20000 in
theorem ggX2_shelfOf_X2_needTin : GoodIn wsX2_shelfOf wsX2_needTin := goodIn_ca (goodIn_r _ [6, 7, 8, 1, 9, 10, 5, 11, 25, 26, 27, 28, 29, 30, 31, 32, 33, 34, 35, 36, 37, 38, 39, 40] (by decide +kernel) (by decide +kernel)) (goodIn_sub (fun _ h => List.mem_cons_of_mem _ (List.mem_append_right _ h)) (by decide +kernel))
set_option maxRecDepth 20000 in
theorem gX2_shelfOf_X2_needTin : GoodIn wsX2_shelfOf (wsV RX2 65 RX2 yX2_needTin wsX2_needTin) := goodIn_app (goodIn_of _ (by decide +kernel)) ggX2_shelfOf_X2_needTin
set_option maxRecDepth 20000 in
theorem ggX2_shelfOf_X1_holds : GoodIn wsX2_shelfOf wsX1_holds := goodIn_r _ [16, 17, 18, 19, 20, 21, 22, 23, 27, 28, 29, 30, 31, 32, 33, 34, 35, 36, 37, 38, 39, 40, 41] (by decide +kernel) (by decide +kernel)
set_option maxRecDepth 20000 in
theorem gX2_shelfOf_X1_holds : GoodIn wsX2_shelfOf (wsV RX2 68 RX1 yX1_holds wsX1_holds) := goodIn_app (goodIn_of _ (by decide +kernel)) ggX2_shelfOf_X1_holds
set_option maxRecDepth 20000 in
theorem ggX2_shelfOf_X0_get : GoodIn wsX2_shelfOf wsX0_get := goodIn_r _ [22, 23, 41] (by decide +kernel) (by decide +kernel)
set_option maxRecDepth 20000 in
theorem gX2_shelfOf_X0_get : GoodIn wsX2_shelfOf (wsV RX2 77 RX0 yX0_get wsX0_get) := goodIn_app (goodIn_of _ (by decide +kernel)) ggX2_shelfOf_X0_get
theorem dX2_shelfOf_0 : decode cX2_shelfOf 0 = .ok (.aload_n 0, 1) := by decide +kernel
theorem dX2_shelfOf_1 : decode cX2_shelfOf 1 = .ok (.iload_n 1, 1) := by decide +kernel
theorem dX2_shelfOf_2 : decode cX2_shelfOf 2 = .ok (.invokevirtual 65, 3) := by decide +kernel
theorem dX2_shelfOf_5 : decode cX2_shelfOf 5 = .ok (.aload_n 0, 1) := by decide +kernel
theorem dX2_shelfOf_6 : decode cX2_shelfOf 6 = .ok (.getfield 10, 3) := by decide +kernel
theorem dX2_shelfOf_9 : decode cX2_shelfOf 9 = .ok (.iload_n 1, 1) := by decide +kernel
theorem dX2_shelfOf_10 : decode cX2_shelfOf 10 = .ok (.invokevirtual 68, 3) := by decide +kernel
theorem dX2_shelfOf_13 : decode cX2_shelfOf 13 = .ok (.ifCond .eq 17, 3) := by decide +kernel
theorem dX2_shelfOf_16 : decode cX2_shelfOf 16 = .ok (.aload_n 0, 1) := by decide +kernel
theorem dX2_shelfOf_17 : decode cX2_shelfOf 17 = .ok (.getfield 10, 3) := by decide +kernel
theorem dX2_shelfOf_20 : decode cX2_shelfOf 20 = .ok (.getfield 73, 3) := by decide +kernel
theorem dX2_shelfOf_23 : decode cX2_shelfOf 23 = .ok (.iload_n 1, 1) := by decide +kernel
theorem dX2_shelfOf_24 : decode cX2_shelfOf 24 = .ok (.invokevirtual 77, 3) := by decide +kernel
theorem dX2_shelfOf_27 : decode cX2_shelfOf 27 = .ok (.goto 4, 3) := by decide +kernel
theorem dX2_shelfOf_30 : decode cX2_shelfOf 30 = .ok (.iconst (-1), 1) := by decide +kernel
theorem dX2_shelfOf_31 : decode cX2_shelfOf 31 = .ok (.ireturn, 1) := by decide +kernel
set_option maxRecDepth 20000 in
theorem ggX2_vacuumOf_X2_needTin : GoodIn wsX2_vacuumOf wsX2_needTin := goodIn_ca (goodIn_r _ [6, 7, 8, 1, 9, 10, 5, 11, 18, 19, 20, 21, 22, 23, 24, 25, 26, 27, 28, 29, 30, 31, 32, 33] (by decide +kernel) (by decide +kernel)) (goodIn_sub (fun _ h => List.mem_cons_of_mem _ (List.mem_append_right _ h)) (by decide +kernel))
set_option maxRecDepth 20000 in
theorem gX2_vacuumOf_X2_needTin : GoodIn wsX2_vacuumOf (wsV RX2 65 RX2 yX2_needTin wsX2_needTin) := goodIn_app (goodIn_of _ (by decide +kernel)) ggX2_vacuumOf_X2_needTin
set_option maxRecDepth 20000 in
theorem ggX2_vacuumOf_X0_get : GoodIn wsX2_vacuumOf wsX0_get := goodIn_r _ [16, 17, 34] (by decide +kernel) (by decide +kernel)
set_option maxRecDepth 20000 in
theorem gX2_vacuumOf_X0_get : GoodIn wsX2_vacuumOf (wsV RX2 77 RX0 yX0_get wsX0_get) := goodIn_app (goodIn_of _ (by decide +kernel)) ggX2_vacuumOf_X0_get
theorem dX2_vacuumOf_0 : decode cX2_vacuumOf 0 = .ok (.aload_n 0, 1) := by decide +kernel
theorem dX2_vacuumOf_1 : decode cX2_vacuumOf 1 = .ok (.iload_n 1, 1) := by decide +kernel
theorem dX2_vacuumOf_2 : decode cX2_vacuumOf 2 = .ok (.invokevirtual 65, 3) := by decide +kernel
theorem dX2_vacuumOf_5 : decode cX2_vacuumOf 5 = .ok (.aload_n 0, 1) := by decide +kernel
theorem dX2_vacuumOf_6 : decode cX2_vacuumOf 6 = .ok (.getfield 10, 3) := by decide +kernel
theorem dX2_vacuumOf_9 : decode cX2_vacuumOf 9 = .ok (.getfield 127, 3) := by decide +kernel
theorem dX2_vacuumOf_12 : decode cX2_vacuumOf 12 = .ok (.iload_n 1, 1) := by decide +kernel
theorem dX2_vacuumOf_13 : decode cX2_vacuumOf 13 = .ok (.invokevirtual 77, 3) := by decide +kernel
theorem dX2_vacuumOf_16 : decode cX2_vacuumOf 16 = .ok (.ireturn, 1) := by decide +kernel
set_option maxRecDepth 20000 in
theorem ggX2_isShipped_X2_needTin : GoodIn wsX2_isShipped wsX2_needTin := goodIn_ca (goodIn_r _ [6, 7, 8, 1, 9, 10, 5, 11, 18, 19, 20, 21, 22, 23, 24, 25, 26, 27, 28, 29, 30, 31, 32, 33] (by decide +kernel) (by decide +kernel)) (goodIn_sub (fun _ h => List.mem_cons_of_mem _ (List.mem_append_right _ h)) (by decide +kernel))
set_option maxRecDepth 20000 in
theorem gX2_isShipped_X2_needTin : GoodIn wsX2_isShipped (wsV RX2 65 RX2 yX2_needTin wsX2_needTin) := goodIn_app (goodIn_of _ (by decide +kernel)) ggX2_isShipped_X2_needTin
set_option maxRecDepth 20000 in
theorem ggX2_isShipped_X0_get : GoodIn wsX2_isShipped wsX0_get := goodIn_r _ [16, 17, 34] (by decide +kernel) (by decide +kernel)
set_option maxRecDepth 20000 in
theorem gX2_isShipped_X0_get : GoodIn wsX2_isShipped (wsV RX2 77 RX0 yX0_get wsX0_get) := goodIn_app (goodIn_of _ (by decide +kernel)) ggX2_isShipped_X0_get
theorem dX2_isShipped_0 : decode cX2_isShipped 0 = .ok (.aload_n 0, 1) := by decide +kernel
theorem dX2_isShipped_1 : decode cX2_isShipped 1 = .ok (.iload_n 1, 1) := by decide +kernel
theorem dX2_isShipped_2 : decode cX2_isShipped 2 = .ok (.invokevirtual 65, 3) := by decide +kernel
theorem dX2_isShipped_5 : decode cX2_isShipped 5 = .ok (.aload_n 0, 1) := by decide +kernel
theorem dX2_isShipped_6 : decode cX2_isShipped 6 = .ok (.getfield 10, 3) := by decide +kernel
theorem dX2_isShipped_9 : decode cX2_isShipped 9 = .ok (.getfield 130, 3) := by decide +kernel
theorem dX2_isShipped_12 : decode cX2_isShipped 12 = .ok (.iload_n 1, 1) := by decide +kernel
theorem dX2_isShipped_13 : decode cX2_isShipped 13 = .ok (.invokevirtual 77, 3) := by decide +kernel
theorem dX2_isShipped_16 : decode cX2_isShipped 16 = .ok (.iconst 2, 1) := by decide +kernel
theorem dX2_isShipped_17 : decode cX2_isShipped 17 = .ok (.if_icmp .ne 7, 3) := by decide +kernel
theorem dX2_isShipped_20 : decode cX2_isShipped 20 = .ok (.iconst 1, 1) := by decide +kernel
theorem dX2_isShipped_21 : decode cX2_isShipped 21 = .ok (.goto 4, 3) := by decide +kernel
theorem dX2_isShipped_24 : decode cX2_isShipped 24 = .ok (.iconst 0, 1) := by decide +kernel
theorem dX2_isShipped_25 : decode cX2_isShipped 25 = .ok (.ireturn, 1) := by decide +kernel
set_option maxRecDepth 20000 in
theorem ggX2_isLost_X2_needTin : GoodIn wsX2_isLost wsX2_needTin := goodIn_ca (goodIn_r _ [6, 7, 8, 1, 9, 10, 5, 11, 18, 19, 20, 21, 22, 23, 24, 25, 26, 27, 28, 29, 30, 31, 32, 33] (by decide +kernel) (by decide +kernel)) (goodIn_sub (fun _ h => List.mem_cons_of_mem _ (List.mem_append_right _ h)) (by decide +kernel))
set_option maxRecDepth 20000 in
theorem gX2_isLost_X2_needTin : GoodIn wsX2_isLost (wsV RX2 65 RX2 yX2_needTin wsX2_needTin) := goodIn_app (goodIn_of _ (by decide +kernel)) ggX2_isLost_X2_needTin
set_option maxRecDepth 20000 in
theorem ggX2_isLost_X0_get : GoodIn wsX2_isLost wsX0_get := goodIn_r _ [16, 17, 34] (by decide +kernel) (by decide +kernel)
set_option maxRecDepth 20000 in
theorem gX2_isLost_X0_get : GoodIn wsX2_isLost (wsV RX2 77 RX0 yX0_get wsX0_get) := goodIn_app (goodIn_of _ (by decide +kernel)) ggX2_isLost_X0_get
theorem dX2_isLost_0 : decode cX2_isLost 0 = .ok (.aload_n 0, 1) := by decide +kernel
theorem dX2_isLost_1 : decode cX2_isLost 1 = .ok (.iload_n 1, 1) := by decide +kernel
theorem dX2_isLost_2 : decode cX2_isLost 2 = .ok (.invokevirtual 65, 3) := by decide +kernel
theorem dX2_isLost_5 : decode cX2_isLost 5 = .ok (.aload_n 0, 1) := by decide +kernel
theorem dX2_isLost_6 : decode cX2_isLost 6 = .ok (.getfield 10, 3) := by decide +kernel
theorem dX2_isLost_9 : decode cX2_isLost 9 = .ok (.getfield 130, 3) := by decide +kernel
theorem dX2_isLost_12 : decode cX2_isLost 12 = .ok (.iload_n 1, 1) := by decide +kernel
theorem dX2_isLost_13 : decode cX2_isLost 13 = .ok (.invokevirtual 77, 3) := by decide +kernel
theorem dX2_isLost_16 : decode cX2_isLost 16 = .ok (.iconst 3, 1) := by decide +kernel
theorem dX2_isLost_17 : decode cX2_isLost 17 = .ok (.if_icmp .ne 7, 3) := by decide +kernel
theorem dX2_isLost_20 : decode cX2_isLost 20 = .ok (.iconst 1, 1) := by decide +kernel
theorem dX2_isLost_21 : decode cX2_isLost 21 = .ok (.goto 4, 3) := by decide +kernel
theorem dX2_isLost_24 : decode cX2_isLost 24 = .ok (.iconst 0, 1) := by decide +kernel
theorem dX2_isLost_25 : decode cX2_isLost 25 = .ok (.ireturn, 1) := by decide +kernel
set_option maxRecDepth 20000 in
theorem ggX2_swelledOf_X2_needBatch : GoodIn wsX2_swelledOf wsX2_needBatch := goodIn_ca (goodIn_r _ [6, 7, 8, 1, 9, 10, 5, 11, 18, 19, 20, 21, 22, 23, 24, 25, 26, 27, 28, 29, 30, 31, 32, 33] (by decide +kernel) (by decide +kernel)) (goodIn_sub (fun _ h => List.mem_cons_of_mem _ (List.mem_append_right _ h)) (by decide +kernel))
set_option maxRecDepth 20000 in
theorem gX2_swelledOf_X2_needBatch : GoodIn wsX2_swelledOf (wsV RX2 43 RX2 yX2_needBatch wsX2_needBatch) := goodIn_app (goodIn_of _ (by decide +kernel)) ggX2_swelledOf_X2_needBatch
set_option maxRecDepth 20000 in
theorem ggX2_swelledOf_X0_get : GoodIn wsX2_swelledOf wsX0_get := goodIn_r _ [16, 17, 34] (by decide +kernel) (by decide +kernel)
set_option maxRecDepth 20000 in
theorem gX2_swelledOf_X0_get : GoodIn wsX2_swelledOf (wsV RX2 77 RX0 yX0_get wsX0_get) := goodIn_app (goodIn_of _ (by decide +kernel)) ggX2_swelledOf_X0_get
theorem dX2_swelledOf_0 : decode cX2_swelledOf 0 = .ok (.aload_n 0, 1) := by decide +kernel
theorem dX2_swelledOf_1 : decode cX2_swelledOf 1 = .ok (.iload_n 1, 1) := by decide +kernel
theorem dX2_swelledOf_2 : decode cX2_swelledOf 2 = .ok (.invokevirtual 43, 3) := by decide +kernel
theorem dX2_swelledOf_5 : decode cX2_swelledOf 5 = .ok (.aload_n 0, 1) := by decide +kernel
theorem dX2_swelledOf_6 : decode cX2_swelledOf 6 = .ok (.getfield 10, 3) := by decide +kernel
theorem dX2_swelledOf_9 : decode cX2_swelledOf 9 = .ok (.getfield 117, 3) := by decide +kernel
theorem dX2_swelledOf_12 : decode cX2_swelledOf 12 = .ok (.iload_n 1, 1) := by decide +kernel
theorem dX2_swelledOf_13 : decode cX2_swelledOf 13 = .ok (.invokevirtual 77, 3) := by decide +kernel
theorem dX2_swelledOf_16 : decode cX2_swelledOf 16 = .ok (.ireturn, 1) := by decide +kernel
set_option maxRecDepth 20000 in
theorem ggX2_leftOf_X2_needBatch : GoodIn wsX2_leftOf wsX2_needBatch := goodIn_ca (goodIn_r _ [6, 7, 8, 1, 9, 10, 5, 11, 29, 30, 31, 32, 33, 34, 35, 36, 37, 38, 39, 40, 41, 42, 43, 44] (by decide +kernel) (by decide +kernel)) (goodIn_sub (fun _ h => List.mem_cons_of_mem _ (List.mem_append_right _ h)) (by decide +kernel))
set_option maxRecDepth 20000 in
theorem gX2_leftOf_X2_needBatch : GoodIn wsX2_leftOf (wsV RX2 43 RX2 yX2_needBatch wsX2_needBatch) := goodIn_app (goodIn_of _ (by decide +kernel)) ggX2_leftOf_X2_needBatch
set_option maxRecDepth 20000 in
theorem ggX2_leftOf_X1_countHeldWith : GoodIn wsX2_leftOf wsX1_countHeldWith := goodIn_r _ [16, 17, 18, 19, 20, 15, 21, 22, 23, 24, 25, 26, 27, 28, 31, 32, 33, 34, 35, 36, 37, 38, 39, 40, 41, 42, 43, 44, 45] (by decide +kernel) (by decide +kernel)
set_option maxRecDepth 20000 in
theorem gX2_leftOf_X1_countHeldWith : GoodIn wsX2_leftOf (wsV RX2 120 RX1 yX1_countHeldWith wsX1_countHeldWith) := goodIn_app (goodIn_of _ (by decide +kernel)) ggX2_leftOf_X1_countHeldWith
theorem dX2_leftOf_0 : decode cX2_leftOf 0 = .ok (.aload_n 0, 1) := by decide +kernel
theorem dX2_leftOf_1 : decode cX2_leftOf 1 = .ok (.iload_n 1, 1) := by decide +kernel
theorem dX2_leftOf_2 : decode cX2_leftOf 2 = .ok (.invokevirtual 43, 3) := by decide +kernel
theorem dX2_leftOf_5 : decode cX2_leftOf 5 = .ok (.aload_n 0, 1) := by decide +kernel
theorem dX2_leftOf_6 : decode cX2_leftOf 6 = .ok (.getfield 10, 3) := by decide +kernel
theorem dX2_leftOf_9 : decode cX2_leftOf 9 = .ok (.aload_n 0, 1) := by decide +kernel
theorem dX2_leftOf_10 : decode cX2_leftOf 10 = .ok (.getfield 10, 3) := by decide +kernel
theorem dX2_leftOf_13 : decode cX2_leftOf 13 = .ok (.getfield 124, 3) := by decide +kernel
theorem dX2_leftOf_16 : decode cX2_leftOf 16 = .ok (.iload_n 1, 1) := by decide +kernel
theorem dX2_leftOf_17 : decode cX2_leftOf 17 = .ok (.invokevirtual 120, 3) := by decide +kernel
theorem dX2_leftOf_20 : decode cX2_leftOf 20 = .ok (.ireturn, 1) := by decide +kernel
set_option maxRecDepth 20000 in
theorem ggX2_isRecalled_X2_needBatch : GoodIn wsX2_isRecalled wsX2_needBatch := goodIn_ca (goodIn_r _ [6, 7, 8, 1, 9, 10, 5, 11, 24, 25, 26, 27, 28, 29, 30, 31, 32, 33, 34, 35, 36, 37, 38, 39] (by decide +kernel) (by decide +kernel)) (goodIn_sub (fun _ h => List.mem_cons_of_mem _ (List.mem_append_right _ h)) (by decide +kernel))
set_option maxRecDepth 20000 in
theorem gX2_isRecalled_X2_needBatch : GoodIn wsX2_isRecalled (wsV RX2 43 RX2 yX2_needBatch wsX2_needBatch) := goodIn_app (goodIn_of _ (by decide +kernel)) ggX2_isRecalled_X2_needBatch
set_option maxRecDepth 20000 in
theorem ggX2_isRecalled_X1_isBatchRecalled : GoodIn wsX2_isRecalled wsX1_isBatchRecalled := goodIn_r _ [16, 17, 18, 19, 20, 21, 22, 23, 26, 27, 28, 29, 30, 31, 32, 33, 34, 35, 36, 37, 38, 39, 40] (by decide +kernel) (by decide +kernel)
set_option maxRecDepth 20000 in
theorem gX2_isRecalled_X1_isBatchRecalled : GoodIn wsX2_isRecalled (wsV RX2 55 RX1 yX1_isBatchRecalled wsX1_isBatchRecalled) := goodIn_app (goodIn_of _ (by decide +kernel)) ggX2_isRecalled_X1_isBatchRecalled
theorem dX2_isRecalled_0 : decode cX2_isRecalled 0 = .ok (.aload_n 0, 1) := by decide +kernel
theorem dX2_isRecalled_1 : decode cX2_isRecalled 1 = .ok (.iload_n 1, 1) := by decide +kernel
theorem dX2_isRecalled_2 : decode cX2_isRecalled 2 = .ok (.invokevirtual 43, 3) := by decide +kernel
theorem dX2_isRecalled_5 : decode cX2_isRecalled 5 = .ok (.aload_n 0, 1) := by decide +kernel
theorem dX2_isRecalled_6 : decode cX2_isRecalled 6 = .ok (.getfield 10, 3) := by decide +kernel
theorem dX2_isRecalled_9 : decode cX2_isRecalled 9 = .ok (.iload_n 1, 1) := by decide +kernel
theorem dX2_isRecalled_10 : decode cX2_isRecalled 10 = .ok (.invokevirtual 55, 3) := by decide +kernel
theorem dX2_isRecalled_13 : decode cX2_isRecalled 13 = .ok (.ireturn, 1) := by decide +kernel
set_option maxRecDepth 20000 in
theorem ggX2_first_X2_needOrder : GoodIn wsX2_first wsX2_needOrder := goodIn_ca (goodIn_r _ [5, 6, 7, 8, 9, 4, 10] (by decide +kernel) (by decide +kernel)) (goodIn_sub (fun _ h => List.mem_cons_of_mem _ (List.mem_append_right _ h)) (by decide +kernel))
set_option maxRecDepth 20000 in
theorem gX2_first_X2_needOrder : GoodIn wsX2_first (va_wsS RX2 133 yX2_needOrder wsX2_needOrder) := goodIn_app (goodIn_of _ (by decide +kernel)) ggX2_first_X2_needOrder
set_option maxRecDepth 20000 in
theorem ggX2_first_X1_firstBy : GoodIn wsX2_first wsX1_firstBy := goodIn_r _ [15, 16, 17, 18, 19, 14, 20, 21, 22, 23, 24, 25, 26, 27, 28, 29, 30, 31, 32, 33, 34, 37, 38, 39, 40, 41, 42, 43, 44, 45, 46, 47, 48, 49, 50, 51] (by decide +kernel) (by decide +kernel)
set_option maxRecDepth 20000 in
theorem gX2_first_X1_firstBy : GoodIn wsX2_first (wsV RX2 136 RX1 yX1_firstBy wsX1_firstBy) := goodIn_app (goodIn_of _ (by decide +kernel)) ggX2_first_X1_firstBy
theorem dX2_first_0 : decode cX2_first 0 = .ok (.iload_n 1, 1) := by decide +kernel
theorem dX2_first_1 : decode cX2_first 1 = .ok (.invokestatic 133, 3) := by decide +kernel
theorem dX2_first_4 : decode cX2_first 4 = .ok (.aload_n 0, 1) := by decide +kernel
theorem dX2_first_5 : decode cX2_first 5 = .ok (.getfield 10, 3) := by decide +kernel
theorem dX2_first_8 : decode cX2_first 8 = .ok (.iload_n 1, 1) := by decide +kernel
theorem dX2_first_9 : decode cX2_first 9 = .ok (.invokevirtual 136, 3) := by decide +kernel
theorem dX2_first_12 : decode cX2_first 12 = .ok (.ireturn, 1) := by decide +kernel
set_option maxRecDepth 20000 in
theorem ggX2_placeBy_X2_needTin : GoodIn wsX2_placeBy wsX2_needTin := goodIn_ca (goodIn_r _ [6, 7, 8, 1, 9, 10, 5, 11, 42, 43, 44, 45, 46, 47, 48, 49, 50, 51, 52, 53, 54, 55, 56, 57] (by decide +kernel) (by decide +kernel)) (goodIn_sub (fun _ h => List.mem_cons_of_mem _ (List.mem_append_left _ (List.mem_append_right _ h))) (by decide +kernel))
set_option maxRecDepth 20000 in
theorem gX2_placeBy_X2_needTin : GoodIn wsX2_placeBy (wsV RX2 65 RX2 yX2_needTin wsX2_needTin) := goodIn_app (goodIn_of _ (by decide +kernel)) ggX2_placeBy_X2_needTin
set_option maxRecDepth 20000 in
theorem ggX2_placeBy_X2_needOrder : GoodIn wsX2_placeBy wsX2_needOrder := goodIn_ca (goodIn_r _ [14, 15, 16, 9, 10, 5, 11] (by decide +kernel) (by decide +kernel)) (goodIn_sub (fun _ h => List.mem_cons_of_mem _ (List.mem_append_right _ h)) (by decide +kernel))
set_option maxRecDepth 20000 in
theorem gX2_placeBy_X2_needOrder : GoodIn wsX2_placeBy (va_wsS RX2 133 yX2_needOrder wsX2_needOrder) := goodIn_app (goodIn_of _ (by decide +kernel)) ggX2_placeBy_X2_needOrder
set_option maxRecDepth 20000 in
theorem ggX2_placeBy_X1_holds : GoodIn wsX2_placeBy wsX1_holds := goodIn_r _ [21, 22, 23, 24, 25, 26, 27, 28, 44, 45, 46, 47, 48, 49, 50, 51, 52, 53, 54, 55, 56, 57, 58] (by decide +kernel) (by decide +kernel)
set_option maxRecDepth 20000 in
theorem gX2_placeBy_X1_holds : GoodIn wsX2_placeBy (wsV RX2 68 RX1 yX1_holds wsX1_holds) := goodIn_app (goodIn_of _ (by decide +kernel)) ggX2_placeBy_X1_holds
set_option maxRecDepth 20000 in
theorem ggX2_placeBy_X1_countAheadOf : GoodIn wsX2_placeBy wsX1_countAheadOf := goodIn_r _ [32, 33, 34, 35, 36, 20, 37, 38, 39, 40, 23, 24, 25, 26, 27, 28, 41, 18, 19, 21, 22, 44, 45, 46, 47, 48, 49, 50, 51, 52, 53, 54, 55, 56, 57, 58] (by decide +kernel) (by decide +kernel)
set_option maxRecDepth 20000 in
theorem gX2_placeBy_X1_countAheadOf : GoodIn wsX2_placeBy (wsV RX2 139 RX1 yX1_countAheadOf wsX1_countAheadOf) := goodIn_app (goodIn_of _ (by decide +kernel)) ggX2_placeBy_X1_countAheadOf
theorem dX2_placeBy_0 : decode cX2_placeBy 0 = .ok (.aload_n 0, 1) := by decide +kernel
theorem dX2_placeBy_1 : decode cX2_placeBy 1 = .ok (.iload_n 1, 1) := by decide +kernel
theorem dX2_placeBy_2 : decode cX2_placeBy 2 = .ok (.invokevirtual 65, 3) := by decide +kernel
theorem dX2_placeBy_5 : decode cX2_placeBy 5 = .ok (.iload_n 2, 1) := by decide +kernel
theorem dX2_placeBy_6 : decode cX2_placeBy 6 = .ok (.invokestatic 133, 3) := by decide +kernel
theorem dX2_placeBy_9 : decode cX2_placeBy 9 = .ok (.aload_n 0, 1) := by decide +kernel
theorem dX2_placeBy_10 : decode cX2_placeBy 10 = .ok (.getfield 10, 3) := by decide +kernel
theorem dX2_placeBy_13 : decode cX2_placeBy 13 = .ok (.iload_n 1, 1) := by decide +kernel
theorem dX2_placeBy_14 : decode cX2_placeBy 14 = .ok (.invokevirtual 68, 3) := by decide +kernel
theorem dX2_placeBy_17 : decode cX2_placeBy 17 = .ok (.ifCond .eq 15, 3) := by decide +kernel
theorem dX2_placeBy_20 : decode cX2_placeBy 20 = .ok (.aload_n 0, 1) := by decide +kernel
theorem dX2_placeBy_21 : decode cX2_placeBy 21 = .ok (.getfield 10, 3) := by decide +kernel
theorem dX2_placeBy_24 : decode cX2_placeBy 24 = .ok (.iload_n 1, 1) := by decide +kernel
theorem dX2_placeBy_25 : decode cX2_placeBy 25 = .ok (.iload_n 2, 1) := by decide +kernel
theorem dX2_placeBy_26 : decode cX2_placeBy 26 = .ok (.invokevirtual 139, 3) := by decide +kernel
theorem dX2_placeBy_29 : decode cX2_placeBy 29 = .ok (.goto 4, 3) := by decide +kernel
theorem dX2_placeBy_32 : decode cX2_placeBy 32 = .ok (.iconst (-1), 1) := by decide +kernel
theorem dX2_placeBy_33 : decode cX2_placeBy 33 = .ok (.ireturn, 1) := by decide +kernel
set_option maxRecDepth 20000 in
theorem ggX2_daysOf_X2_needTin : GoodIn wsX2_daysOf wsX2_needTin := goodIn_ca (goodIn_r _ [6, 7, 8, 1, 9, 10, 5, 11, 37, 38, 39, 40, 41, 42, 43, 44, 45, 46, 47, 48, 49, 50, 51, 52] (by decide +kernel) (by decide +kernel)) (goodIn_sub (fun _ h => List.mem_cons_of_mem _ (List.mem_append_right _ h)) (by decide +kernel))
set_option maxRecDepth 20000 in
theorem gX2_daysOf_X2_needTin : GoodIn wsX2_daysOf (wsV RX2 65 RX2 yX2_needTin wsX2_needTin) := goodIn_app (goodIn_of _ (by decide +kernel)) ggX2_daysOf_X2_needTin
set_option maxRecDepth 20000 in
theorem ggX2_daysOf_X1_holds : GoodIn wsX2_daysOf wsX1_holds := goodIn_r _ [16, 17, 18, 19, 20, 21, 22, 23, 39, 40, 41, 42, 43, 44, 45, 46, 47, 48, 49, 50, 51, 52, 53] (by decide +kernel) (by decide +kernel)
set_option maxRecDepth 20000 in
theorem gX2_daysOf_X1_holds : GoodIn wsX2_daysOf (wsV RX2 68 RX1 yX1_holds wsX1_holds) := goodIn_app (goodIn_of _ (by decide +kernel)) ggX2_daysOf_X1_holds
set_option maxRecDepth 20000 in
theorem ggX2_daysOf_X0_get : GoodIn wsX2_daysOf wsX0_get := goodIn_r _ [22, 23, 53] (by decide +kernel) (by decide +kernel)
set_option maxRecDepth 20000 in
theorem gX2_daysOf_X0_get : GoodIn wsX2_daysOf (wsV RX2 77 RX0 yX0_get wsX0_get) := goodIn_app (goodIn_of _ (by decide +kernel)) ggX2_daysOf_X0_get
set_option maxRecDepth 20000 in
theorem ggX2_daysOf_X1_daysToSwell : GoodIn wsX2_daysOf wsX1_daysToSwell := goodIn_r _ [28, 29, 30, 31, 32, 15, 33, 34, 35, 36, 18, 19, 20, 21, 22, 23, 39, 40, 41, 42, 43, 44, 45, 46, 47, 48, 49, 50, 51, 52, 53] (by decide +kernel) (by decide +kernel)
set_option maxRecDepth 20000 in
theorem gX2_daysOf_X1_daysToSwell : GoodIn wsX2_daysOf (wsV RX2 142 RX1 yX1_daysToSwell wsX1_daysToSwell) := goodIn_app (goodIn_of _ (by decide +kernel)) ggX2_daysOf_X1_daysToSwell
theorem dX2_daysOf_0 : decode cX2_daysOf 0 = .ok (.aload_n 0, 1) := by decide +kernel
theorem dX2_daysOf_1 : decode cX2_daysOf 1 = .ok (.iload_n 1, 1) := by decide +kernel
theorem dX2_daysOf_2 : decode cX2_daysOf 2 = .ok (.invokevirtual 65, 3) := by decide +kernel
theorem dX2_daysOf_5 : decode cX2_daysOf 5 = .ok (.aload_n 0, 1) := by decide +kernel
theorem dX2_daysOf_6 : decode cX2_daysOf 6 = .ok (.getfield 10, 3) := by decide +kernel
theorem dX2_daysOf_9 : decode cX2_daysOf 9 = .ok (.iload_n 1, 1) := by decide +kernel
theorem dX2_daysOf_10 : decode cX2_daysOf 10 = .ok (.invokevirtual 68, 3) := by decide +kernel
theorem dX2_daysOf_13 : decode cX2_daysOf 13 = .ok (.ifCond .eq 25, 3) := by decide +kernel
theorem dX2_daysOf_16 : decode cX2_daysOf 16 = .ok (.aload_n 0, 1) := by decide +kernel
theorem dX2_daysOf_17 : decode cX2_daysOf 17 = .ok (.getfield 10, 3) := by decide +kernel
theorem dX2_daysOf_20 : decode cX2_daysOf 20 = .ok (.iload_n 1, 1) := by decide +kernel
theorem dX2_daysOf_21 : decode cX2_daysOf 21 = .ok (.aload_n 0, 1) := by decide +kernel
theorem dX2_daysOf_22 : decode cX2_daysOf 22 = .ok (.getfield 10, 3) := by decide +kernel
theorem dX2_daysOf_25 : decode cX2_daysOf 25 = .ok (.getfield 73, 3) := by decide +kernel
theorem dX2_daysOf_28 : decode cX2_daysOf 28 = .ok (.iload_n 1, 1) := by decide +kernel
theorem dX2_daysOf_29 : decode cX2_daysOf 29 = .ok (.invokevirtual 77, 3) := by decide +kernel
theorem dX2_daysOf_32 : decode cX2_daysOf 32 = .ok (.invokevirtual 142, 3) := by decide +kernel
theorem dX2_daysOf_35 : decode cX2_daysOf 35 = .ok (.goto 4, 3) := by decide +kernel
theorem dX2_daysOf_38 : decode cX2_daysOf 38 = .ok (.iconst (-1), 1) := by decide +kernel
theorem dX2_daysOf_39 : decode cX2_daysOf 39 = .ok (.ireturn, 1) := by decide +kernel
set_option maxRecDepth 20000 in
theorem ggX2_daysUntilRecalled_X2_needBatch : GoodIn wsX2_daysUntilRecalled wsX2_needBatch := goodIn_ca (goodIn_r _ [7, 8, 9, 1, 10, 11, 6, 12, 96, 97, 98, 99, 100, 101, 102, 103, 104, 105, 106, 107, 108, 109, 110, 111] (by decide +kernel) (by decide +kernel)) (goodIn_sub (fun _ h => List.mem_cons_of_mem _ (List.mem_append_right _ h)) (by decide +kernel))
set_option maxRecDepth 20000 in
theorem gX2_daysUntilRecalled_X2_needBatch : GoodIn wsX2_daysUntilRecalled (wsV RX2 43 RX2 yX2_needBatch wsX2_needBatch) := goodIn_app (goodIn_of _ (by decide +kernel)) ggX2_daysUntilRecalled_X2_needBatch
set_option maxRecDepth 20000 in
theorem ggX2_daysUntilRecalled_X1_isBatchRecalled : GoodIn wsX2_daysUntilRecalled wsX1_isBatchRecalled := goodIn_r _ [17, 18, 19, 20, 21, 22, 23, 24, 98, 99, 100, 101, 102, 103, 104, 105, 106, 107, 108, 109, 110, 111, 112] (by decide +kernel) (by decide +kernel)
set_option maxRecDepth 20000 in
theorem gX2_daysUntilRecalled_X1_isBatchRecalled : GoodIn wsX2_daysUntilRecalled (wsV RX2 55 RX1 yX1_isBatchRecalled wsX1_isBatchRecalled) := goodIn_app (goodIn_of _ (by decide +kernel)) ggX2_daysUntilRecalled_X1_isBatchRecalled
set_option maxRecDepth 20000 in
theorem ggX2_daysUntilRecalled_X1_copyFrom : GoodIn wsX2_daysUntilRecalled wsX1_copyFrom := goodIn_r _ [28, 29, 30, 31, 32, 18, 33, 34, 35, 36, 37, 38, 39, 40, 41, 42, 43, 44, 22, 45, 24, 46, 20, 21, 23, 98, 99, 100, 101, 102, 103, 104, 105, 106, 107, 108, 109, 110, 111, 112] (by decide +kernel) (by decide +kernel)
set_option maxRecDepth 20000 in
theorem gX2_daysUntilRecalled_X1_copyFrom : GoodIn wsX2_daysUntilRecalled (wsV RX2 145 RX1 yX1_copyFrom wsX1_copyFrom) := goodIn_app (goodIn_of _ (by decide +kernel)) ggX2_daysUntilRecalled_X1_copyFrom
set_option maxRecDepth 20000 in
theorem ggX2_daysUntilRecalled_X1_passDay : GoodIn wsX2_daysUntilRecalled wsX1_passDay := goodIn_r _ [50, 39, 40, 41, 51, 52, 53, 16, 54, 38, 36, 35, 55, 56, 57, 58, 59, 60, 61, 62, 37, 19, 20, 21, 22, 23, 24, 63, 64, 65, 66, 31, 34, 29, 67, 68, 69, 70, 71, 72, 73, 74, 32, 75, 76, 77, 78, 33, 79, 14, 15, 17, 18, 80, 81, 82, 83, 84, 85, 86, 87, 88, 89, 90, 91, 92, 93, 94, 95, 98, 99, 100, 101, 102, 103, 104, 105, 106, 107, 108, 109, 110, 111, 112] (by decide +kernel) (by decide +kernel)
set_option maxRecDepth 20000 in
theorem gX2_daysUntilRecalled_X1_passDay : GoodIn wsX2_daysUntilRecalled (wsV RX2 111 RX1 yX1_passDay wsX1_passDay) := goodIn_app (goodIn_of _ (by decide +kernel)) ggX2_daysUntilRecalled_X1_passDay
theorem dX2_daysUntilRecalled_0 : decode cX2_daysUntilRecalled 0 = .ok (.aload_n 0, 1) := by decide +kernel
theorem dX2_daysUntilRecalled_1 : decode cX2_daysUntilRecalled 1 = .ok (.iload_n 1, 1) := by decide +kernel
theorem dX2_daysUntilRecalled_2 : decode cX2_daysUntilRecalled 2 = .ok (.invokevirtual 43, 3) := by decide +kernel
theorem dX2_daysUntilRecalled_5 : decode cX2_daysUntilRecalled 5 = .ok (.aload_n 0, 1) := by decide +kernel
theorem dX2_daysUntilRecalled_6 : decode cX2_daysUntilRecalled 6 = .ok (.getfield 10, 3) := by decide +kernel
theorem dX2_daysUntilRecalled_9 : decode cX2_daysUntilRecalled 9 = .ok (.iload_n 1, 1) := by decide +kernel
theorem dX2_daysUntilRecalled_10 : decode cX2_daysUntilRecalled 10 = .ok (.invokevirtual 55, 3) := by decide +kernel
theorem dX2_daysUntilRecalled_13 : decode cX2_daysUntilRecalled 13 = .ok (.ifCond .eq 5, 3) := by decide +kernel
theorem dX2_daysUntilRecalled_16 : decode cX2_daysUntilRecalled 16 = .ok (.iconst 0, 1) := by decide +kernel
theorem dX2_daysUntilRecalled_17 : decode cX2_daysUntilRecalled 17 = .ok (.ireturn, 1) := by decide +kernel
theorem dX2_daysUntilRecalled_18 : decode cX2_daysUntilRecalled 18 = .ok (.aload_n 0, 1) := by decide +kernel
theorem dX2_daysUntilRecalled_19 : decode cX2_daysUntilRecalled 19 = .ok (.getfield 16, 3) := by decide +kernel
theorem dX2_daysUntilRecalled_22 : decode cX2_daysUntilRecalled 22 = .ok (.aload_n 0, 1) := by decide +kernel
theorem dX2_daysUntilRecalled_23 : decode cX2_daysUntilRecalled 23 = .ok (.getfield 10, 3) := by decide +kernel
theorem dX2_daysUntilRecalled_26 : decode cX2_daysUntilRecalled 26 = .ok (.invokevirtual 145, 3) := by decide +kernel
theorem dX2_daysUntilRecalled_29 : decode cX2_daysUntilRecalled 29 = .ok (.iconst 1, 1) := by decide +kernel
theorem dX2_daysUntilRecalled_30 : decode cX2_daysUntilRecalled 30 = .ok (.istore_n 2, 1) := by decide +kernel
theorem dX2_daysUntilRecalled_31 : decode cX2_daysUntilRecalled 31 = .ok (.iload_n 2, 1) := by decide +kernel
theorem dX2_daysUntilRecalled_32 : decode cX2_daysUntilRecalled 32 = .ok (.bipush 60, 2) := by decide +kernel
theorem dX2_daysUntilRecalled_34 : decode cX2_daysUntilRecalled 34 = .ok (.if_icmp .gt 29, 3) := by decide +kernel
theorem dX2_daysUntilRecalled_37 : decode cX2_daysUntilRecalled 37 = .ok (.aload_n 0, 1) := by decide +kernel
theorem dX2_daysUntilRecalled_38 : decode cX2_daysUntilRecalled 38 = .ok (.getfield 16, 3) := by decide +kernel
theorem dX2_daysUntilRecalled_41 : decode cX2_daysUntilRecalled 41 = .ok (.invokevirtual 111, 3) := by decide +kernel
theorem dX2_daysUntilRecalled_44 : decode cX2_daysUntilRecalled 44 = .ok (.aload_n 0, 1) := by decide +kernel
theorem dX2_daysUntilRecalled_45 : decode cX2_daysUntilRecalled 45 = .ok (.getfield 16, 3) := by decide +kernel
theorem dX2_daysUntilRecalled_48 : decode cX2_daysUntilRecalled 48 = .ok (.iload_n 1, 1) := by decide +kernel
theorem dX2_daysUntilRecalled_49 : decode cX2_daysUntilRecalled 49 = .ok (.invokevirtual 55, 3) := by decide +kernel
theorem dX2_daysUntilRecalled_52 : decode cX2_daysUntilRecalled 52 = .ok (.ifCond .eq 5, 3) := by decide +kernel
theorem dX2_daysUntilRecalled_55 : decode cX2_daysUntilRecalled 55 = .ok (.iload_n 2, 1) := by decide +kernel
theorem dX2_daysUntilRecalled_56 : decode cX2_daysUntilRecalled 56 = .ok (.ireturn, 1) := by decide +kernel
theorem dX2_daysUntilRecalled_57 : decode cX2_daysUntilRecalled 57 = .ok (.iinc 2 1, 3) := by decide +kernel
theorem dX2_daysUntilRecalled_60 : decode cX2_daysUntilRecalled 60 = .ok (.goto (-29), 3) := by decide +kernel
theorem dX2_daysUntilRecalled_63 : decode cX2_daysUntilRecalled 63 = .ok (.iconst (-1), 1) := by decide +kernel
theorem dX2_daysUntilRecalled_64 : decode cX2_daysUntilRecalled 64 = .ok (.ireturn, 1) := by decide +kernel
set_option maxRecDepth 20000 in
theorem ggX2_lostWith_X2_needShipping : GoodIn wsX2_lostWith wsX2_needShipping := goodIn_ca (goodIn_r _ [4, 5, 6, 7, 8, 3, 9, 10, 11, 12] (by decide +kernel) (by decide +kernel)) (goodIn_sub (fun _ h => List.mem_cons_of_mem _ (List.mem_append_right _ h)) (by decide +kernel))
set_option maxRecDepth 20000 in
theorem gX2_lostWith_X2_needShipping : GoodIn wsX2_lostWith (va_wsS RX2 92 yX2_needShipping wsX2_needShipping) := goodIn_app (goodIn_of _ (by decide +kernel)) ggX2_lostWith_X2_needShipping
set_option maxRecDepth 20000 in
theorem ggX2_lostWith_X2_lossBy : GoodIn wsX2_lostWith wsX2_lossBy := goodIn_r _ [16, 17, 18, 19, 20, 21, 22, 23, 24, 25, 26, 27, 28, 29, 30, 31, 32, 33, 34, 35, 36, 37, 38, 39, 40, 41, 42, 43, 44, 45, 46, 47, 48, 49, 50, 51, 52, 53, 54, 55, 56, 57, 58, 59, 60, 61, 62, 63, 64, 65, 66, 67, 68, 69, 70, 71, 72, 73, 74, 75, 76, 77, 78, 79, 80, 81, 82, 83, 84, 85, 86, 87, 88, 89, 90, 91, 92, 93, 94, 95, 96, 97, 98, 99, 100, 101, 102, 103, 104, 105, 106, 107, 108, 109, 110, 111, 112, 113, 114, 115, 116, 117, 118, 119, 120, 121] (by decide +kernel) (by decide +kernel)
set_option maxRecDepth 20000 in
theorem gX2_lostWith_X2_lossBy : GoodIn wsX2_lostWith (wsV RX2 149 RX2 yX2_lossBy wsX2_lossBy) := goodIn_app (goodIn_of _ (by decide +kernel)) ggX2_lostWith_X2_lossBy
theorem dX2_lostWith_0 : decode cX2_lostWith 0 = .ok (.iload_n 1, 1) := by decide +kernel
theorem dX2_lostWith_1 : decode cX2_lostWith 1 = .ok (.iload_n 2, 1) := by decide +kernel
theorem dX2_lostWith_2 : decode cX2_lostWith 2 = .ok (.invokestatic 92, 3) := by decide +kernel
theorem dX2_lostWith_5 : decode cX2_lostWith 5 = .ok (.aload_n 0, 1) := by decide +kernel
theorem dX2_lostWith_6 : decode cX2_lostWith 6 = .ok (.iload_n 1, 1) := by decide +kernel
theorem dX2_lostWith_7 : decode cX2_lostWith 7 = .ok (.iload_n 2, 1) := by decide +kernel
theorem dX2_lostWith_8 : decode cX2_lostWith 8 = .ok (.invokevirtual 149, 3) := by decide +kernel
theorem dX2_lostWith_11 : decode cX2_lostWith 11 = .ok (.ireturn, 1) := by decide +kernel
set_option maxRecDepth 20000 in
theorem ggX2_bestOrder_X2_lossBy : GoodIn wsX2_bestOrder wsX2_lossBy := goodIn_r _ [6, 7, 1, 8, 9, 10, 11, 12, 13, 14, 15, 16, 17, 18, 19, 20, 21, 22, 23, 24, 25, 26, 27, 28, 29, 30, 31, 32, 33, 34, 35, 36, 37, 38, 39, 40, 41, 42, 43, 44, 45, 46, 47, 48, 49, 50, 51, 52, 53, 54, 55, 56, 57, 58, 59, 60, 61, 62, 63, 64, 65, 66, 67, 68, 69, 70, 71, 72, 73, 74, 75, 76, 77, 78, 79, 80, 81, 82, 83, 84, 85, 86, 87, 88, 89, 90, 91, 92, 93, 94, 95, 96, 97, 98, 99, 100, 101, 102, 103, 104, 105, 106, 107, 108, 109, 110] (by decide +kernel) (by decide +kernel)
set_option maxRecDepth 20000 in
theorem gX2_bestOrder_X2_lossBy : GoodIn wsX2_bestOrder (wsV RX2 149 RX2 yX2_lossBy wsX2_lossBy) := goodIn_app (goodIn_of _ (by decide +kernel)) ggX2_bestOrder_X2_lossBy
theorem dX2_bestOrder_0 : decode cX2_bestOrder 0 = .ok (.iconst 0, 1) := by decide +kernel
theorem dX2_bestOrder_1 : decode cX2_bestOrder 1 = .ok (.istore_n 1, 1) := by decide +kernel
theorem dX2_bestOrder_2 : decode cX2_bestOrder 2 = .ok (.aload_n 0, 1) := by decide +kernel
theorem dX2_bestOrder_3 : decode cX2_bestOrder 3 = .ok (.aload_n 0, 1) := by decide +kernel
theorem dX2_bestOrder_4 : decode cX2_bestOrder 4 = .ok (.getfield 10, 3) := by decide +kernel
theorem dX2_bestOrder_7 : decode cX2_bestOrder 7 = .ok (.getfield 95, 3) := by decide +kernel
theorem dX2_bestOrder_10 : decode cX2_bestOrder 10 = .ok (.iconst 0, 1) := by decide +kernel
theorem dX2_bestOrder_11 : decode cX2_bestOrder 11 = .ok (.invokevirtual 149, 3) := by decide +kernel
theorem dX2_bestOrder_14 : decode cX2_bestOrder 14 = .ok (.istore_n 2, 1) := by decide +kernel
theorem dX2_bestOrder_15 : decode cX2_bestOrder 15 = .ok (.iconst 1, 1) := by decide +kernel
theorem dX2_bestOrder_16 : decode cX2_bestOrder 16 = .ok (.istore_n 3, 1) := by decide +kernel
theorem dX2_bestOrder_17 : decode cX2_bestOrder 17 = .ok (.iload_n 3, 1) := by decide +kernel
theorem dX2_bestOrder_18 : decode cX2_bestOrder 18 = .ok (.iconst 2, 1) := by decide +kernel
theorem dX2_bestOrder_19 : decode cX2_bestOrder 19 = .ok (.if_icmp .gt 34, 3) := by decide +kernel
theorem dX2_bestOrder_22 : decode cX2_bestOrder 22 = .ok (.aload_n 0, 1) := by decide +kernel
theorem dX2_bestOrder_23 : decode cX2_bestOrder 23 = .ok (.aload_n 0, 1) := by decide +kernel
theorem dX2_bestOrder_24 : decode cX2_bestOrder 24 = .ok (.getfield 10, 3) := by decide +kernel
theorem dX2_bestOrder_27 : decode cX2_bestOrder 27 = .ok (.getfield 95, 3) := by decide +kernel
theorem dX2_bestOrder_30 : decode cX2_bestOrder 30 = .ok (.iload_n 3, 1) := by decide +kernel
theorem dX2_bestOrder_31 : decode cX2_bestOrder 31 = .ok (.invokevirtual 149, 3) := by decide +kernel
theorem dX2_bestOrder_34 : decode cX2_bestOrder 34 = .ok (.istore 4, 2) := by decide +kernel
theorem dX2_bestOrder_36 : decode cX2_bestOrder 36 = .ok (.iload 4, 2) := by decide +kernel
theorem dX2_bestOrder_38 : decode cX2_bestOrder 38 = .ok (.iload_n 2, 1) := by decide +kernel
theorem dX2_bestOrder_39 : decode cX2_bestOrder 39 = .ok (.if_icmp .ge 8, 3) := by decide +kernel
theorem dX2_bestOrder_42 : decode cX2_bestOrder 42 = .ok (.iload_n 3, 1) := by decide +kernel
theorem dX2_bestOrder_43 : decode cX2_bestOrder 43 = .ok (.istore_n 1, 1) := by decide +kernel
theorem dX2_bestOrder_44 : decode cX2_bestOrder 44 = .ok (.iload 4, 2) := by decide +kernel
theorem dX2_bestOrder_46 : decode cX2_bestOrder 46 = .ok (.istore_n 2, 1) := by decide +kernel
theorem dX2_bestOrder_47 : decode cX2_bestOrder 47 = .ok (.iinc 3 1, 3) := by decide +kernel
theorem dX2_bestOrder_50 : decode cX2_bestOrder 50 = .ok (.goto (-33), 3) := by decide +kernel
theorem dX2_bestOrder_53 : decode cX2_bestOrder 53 = .ok (.iload_n 1, 1) := by decide +kernel
theorem dX2_bestOrder_54 : decode cX2_bestOrder 54 = .ok (.ireturn, 1) := by decide +kernel
set_option maxRecDepth 20000 in
theorem ggX2_shippingWanted_X2_lossBy : GoodIn wsX2_shippingWanted wsX2_lossBy := goodIn_r _ [6, 7, 1, 8, 9, 10, 11, 12, 13, 14, 15, 16, 17, 18, 19, 20, 21, 22, 23, 24, 25, 26, 27, 28, 29, 30, 31, 32, 33, 34, 35, 36, 37, 38, 39, 40, 41, 42, 43, 44, 45, 46, 47, 48, 49, 50, 51, 52, 53, 54, 55, 56, 57, 58, 59, 60, 61, 62, 63, 64, 65, 66, 67, 68, 69, 70, 71, 72, 73, 74, 75, 76, 77, 78, 79, 80, 81, 82, 83, 84, 85, 86, 87, 88, 89, 90, 91, 92, 93, 94, 95, 96, 97, 98, 99, 100, 101, 102, 103, 104, 105, 106, 107, 108, 109, 110] (by decide +kernel) (by decide +kernel)
set_option maxRecDepth 20000 in
theorem gX2_shippingWanted_X2_lossBy : GoodIn wsX2_shippingWanted (wsV RX2 149 RX2 yX2_lossBy wsX2_lossBy) := goodIn_app (goodIn_of _ (by decide +kernel)) ggX2_shippingWanted_X2_lossBy
theorem dX2_shippingWanted_0 : decode cX2_shippingWanted 0 = .ok (.iconst 0, 1) := by decide +kernel
theorem dX2_shippingWanted_1 : decode cX2_shippingWanted 1 = .ok (.istore_n 1, 1) := by decide +kernel
theorem dX2_shippingWanted_2 : decode cX2_shippingWanted 2 = .ok (.iload_n 1, 1) := by decide +kernel
theorem dX2_shippingWanted_3 : decode cX2_shippingWanted 3 = .ok (.bipush 9, 2) := by decide +kernel
theorem dX2_shippingWanted_5 : decode cX2_shippingWanted 5 = .ok (.if_icmp .gt 26, 3) := by decide +kernel
theorem dX2_shippingWanted_8 : decode cX2_shippingWanted 8 = .ok (.aload_n 0, 1) := by decide +kernel
theorem dX2_shippingWanted_9 : decode cX2_shippingWanted 9 = .ok (.iload_n 1, 1) := by decide +kernel
theorem dX2_shippingWanted_10 : decode cX2_shippingWanted 10 = .ok (.aload_n 0, 1) := by decide +kernel
theorem dX2_shippingWanted_11 : decode cX2_shippingWanted 11 = .ok (.getfield 10, 3) := by decide +kernel
theorem dX2_shippingWanted_14 : decode cX2_shippingWanted 14 = .ok (.getfield 98, 3) := by decide +kernel
theorem dX2_shippingWanted_17 : decode cX2_shippingWanted 17 = .ok (.invokevirtual 149, 3) := by decide +kernel
theorem dX2_shippingWanted_20 : decode cX2_shippingWanted 20 = .ok (.ifCond .ne 5, 3) := by decide +kernel
theorem dX2_shippingWanted_23 : decode cX2_shippingWanted 23 = .ok (.iload_n 1, 1) := by decide +kernel
theorem dX2_shippingWanted_24 : decode cX2_shippingWanted 24 = .ok (.ireturn, 1) := by decide +kernel
theorem dX2_shippingWanted_25 : decode cX2_shippingWanted 25 = .ok (.iinc 1 1, 3) := by decide +kernel
theorem dX2_shippingWanted_28 : decode cX2_shippingWanted 28 = .ok (.goto (-26), 3) := by decide +kernel
theorem dX2_shippingWanted_31 : decode cX2_shippingWanted 31 = .ok (.iconst (-1), 1) := by decide +kernel
theorem dX2_shippingWanted_32 : decode cX2_shippingWanted 32 = .ok (.ireturn, 1) := by decide +kernel
set_option maxRecDepth 20000 in
theorem ggX2_bestShelf_X2_needTin : GoodIn wsX2_bestShelf wsX2_needTin := goodIn_ca (goodIn_r _ [6, 7, 8, 1, 9, 10, 5, 11, 39, 40, 41, 42, 43, 44, 45, 46, 47, 48, 49, 50, 51, 52, 53, 54] (by decide +kernel) (by decide +kernel)) (goodIn_sub (fun _ h => List.mem_cons_of_mem _ (List.mem_append_right _ h)) (by decide +kernel))
set_option maxRecDepth 20000 in
theorem gX2_bestShelf_X2_needTin : GoodIn wsX2_bestShelf (wsV RX2 65 RX2 yX2_needTin wsX2_needTin) := goodIn_app (goodIn_of _ (by decide +kernel)) ggX2_bestShelf_X2_needTin
set_option maxRecDepth 20000 in
theorem ggX2_bestShelf_X1_holds : GoodIn wsX2_bestShelf wsX1_holds := goodIn_r _ [16, 17, 18, 19, 20, 21, 22, 23, 41, 42, 43, 44, 45, 46, 47, 48, 49, 50, 51, 52, 53, 54, 55] (by decide +kernel) (by decide +kernel)
set_option maxRecDepth 20000 in
theorem gX2_bestShelf_X1_holds : GoodIn wsX2_bestShelf (wsV RX2 68 RX1 yX1_holds wsX1_holds) := goodIn_app (goodIn_of _ (by decide +kernel)) ggX2_bestShelf_X1_holds
set_option maxRecDepth 20000 in
theorem ggX2_bestShelf_X1_daysToSwell : GoodIn wsX2_bestShelf wsX1_daysToSwell := goodIn_r _ [27, 28, 29, 30, 31, 15, 32, 33, 34, 35, 18, 19, 20, 21, 22, 23, 41, 42, 43, 44, 45, 46, 47, 48, 49, 50, 51, 52, 53, 54, 55] (by decide +kernel) (by decide +kernel)
set_option maxRecDepth 20000 in
theorem gX2_bestShelf_X1_daysToSwell : GoodIn wsX2_bestShelf (wsV RX2 142 RX1 yX1_daysToSwell wsX1_daysToSwell) := goodIn_app (goodIn_of _ (by decide +kernel)) ggX2_bestShelf_X1_daysToSwell
set_option maxRecDepth 20000 in
theorem ggX2_bestShelf_X2_isLater : GoodIn wsX2_bestShelf wsX2_isLater := goodIn_r _ [38] (by decide +kernel) (by decide +kernel)
set_option maxRecDepth 20000 in
theorem gX2_bestShelf_X2_isLater : GoodIn wsX2_bestShelf (va_wsS RX2 152 yX2_isLater wsX2_isLater) := goodIn_app (goodIn_of _ (by decide +kernel)) ggX2_bestShelf_X2_isLater
theorem dX2_bestShelf_0 : decode cX2_bestShelf 0 = .ok (.aload_n 0, 1) := by decide +kernel
theorem dX2_bestShelf_1 : decode cX2_bestShelf 1 = .ok (.iload_n 1, 1) := by decide +kernel
theorem dX2_bestShelf_2 : decode cX2_bestShelf 2 = .ok (.invokevirtual 65, 3) := by decide +kernel
theorem dX2_bestShelf_5 : decode cX2_bestShelf 5 = .ok (.aload_n 0, 1) := by decide +kernel
theorem dX2_bestShelf_6 : decode cX2_bestShelf 6 = .ok (.getfield 10, 3) := by decide +kernel
theorem dX2_bestShelf_9 : decode cX2_bestShelf 9 = .ok (.iload_n 1, 1) := by decide +kernel
theorem dX2_bestShelf_10 : decode cX2_bestShelf 10 = .ok (.invokevirtual 68, 3) := by decide +kernel
theorem dX2_bestShelf_13 : decode cX2_bestShelf 13 = .ok (.ifCond .ne 5, 3) := by decide +kernel
theorem dX2_bestShelf_16 : decode cX2_bestShelf 16 = .ok (.iconst (-1), 1) := by decide +kernel
theorem dX2_bestShelf_17 : decode cX2_bestShelf 17 = .ok (.ireturn, 1) := by decide +kernel
theorem dX2_bestShelf_18 : decode cX2_bestShelf 18 = .ok (.iconst 0, 1) := by decide +kernel
theorem dX2_bestShelf_19 : decode cX2_bestShelf 19 = .ok (.istore_n 2, 1) := by decide +kernel
theorem dX2_bestShelf_20 : decode cX2_bestShelf 20 = .ok (.iconst 1, 1) := by decide +kernel
theorem dX2_bestShelf_21 : decode cX2_bestShelf 21 = .ok (.istore_n 3, 1) := by decide +kernel
theorem dX2_bestShelf_22 : decode cX2_bestShelf 22 = .ok (.iload_n 3, 1) := by decide +kernel
theorem dX2_bestShelf_23 : decode cX2_bestShelf 23 = .ok (.iconst 4, 1) := by decide +kernel
theorem dX2_bestShelf_24 : decode cX2_bestShelf 24 = .ok (.if_icmp .ge 35, 3) := by decide +kernel
theorem dX2_bestShelf_27 : decode cX2_bestShelf 27 = .ok (.aload_n 0, 1) := by decide +kernel
theorem dX2_bestShelf_28 : decode cX2_bestShelf 28 = .ok (.getfield 10, 3) := by decide +kernel
theorem dX2_bestShelf_31 : decode cX2_bestShelf 31 = .ok (.iload_n 1, 1) := by decide +kernel
theorem dX2_bestShelf_32 : decode cX2_bestShelf 32 = .ok (.iload_n 3, 1) := by decide +kernel
theorem dX2_bestShelf_33 : decode cX2_bestShelf 33 = .ok (.invokevirtual 142, 3) := by decide +kernel
theorem dX2_bestShelf_36 : decode cX2_bestShelf 36 = .ok (.aload_n 0, 1) := by decide +kernel
theorem dX2_bestShelf_37 : decode cX2_bestShelf 37 = .ok (.getfield 10, 3) := by decide +kernel
theorem dX2_bestShelf_40 : decode cX2_bestShelf 40 = .ok (.iload_n 1, 1) := by decide +kernel
theorem dX2_bestShelf_41 : decode cX2_bestShelf 41 = .ok (.iload_n 2, 1) := by decide +kernel
theorem dX2_bestShelf_42 : decode cX2_bestShelf 42 = .ok (.invokevirtual 142, 3) := by decide +kernel
theorem dX2_bestShelf_45 : decode cX2_bestShelf 45 = .ok (.invokestatic 152, 3) := by decide +kernel
theorem dX2_bestShelf_48 : decode cX2_bestShelf 48 = .ok (.ifCond .eq 5, 3) := by decide +kernel
theorem dX2_bestShelf_51 : decode cX2_bestShelf 51 = .ok (.iload_n 3, 1) := by decide +kernel
theorem dX2_bestShelf_52 : decode cX2_bestShelf 52 = .ok (.istore_n 2, 1) := by decide +kernel
theorem dX2_bestShelf_53 : decode cX2_bestShelf 53 = .ok (.iinc 3 1, 3) := by decide +kernel
theorem dX2_bestShelf_56 : decode cX2_bestShelf 56 = .ok (.goto (-34), 3) := by decide +kernel
theorem dX2_bestShelf_59 : decode cX2_bestShelf 59 = .ok (.iload_n 2, 1) := by decide +kernel
theorem dX2_bestShelf_60 : decode cX2_bestShelf 60 = .ok (.ireturn, 1) := by decide +kernel
set_option maxRecDepth 20000 in
theorem ggX2_meanVacuum_X1_countAt : GoodIn wsX2_meanVacuum wsX1_countAt := goodIn_r _ [6, 7, 8, 9, 10, 11, 12, 13, 14, 26, 27, 28, 29, 30, 31, 32, 33, 34, 35, 36, 37, 38, 39, 40] (by decide +kernel) (by decide +kernel)
set_option maxRecDepth 20000 in
theorem gX2_meanVacuum_X1_countAt : GoodIn wsX2_meanVacuum (wsV RX2 108 RX1 yX1_countAt wsX1_countAt) := goodIn_app (goodIn_of _ (by decide +kernel)) ggX2_meanVacuum_X1_countAt
set_option maxRecDepth 20000 in
theorem ggX2_meanVacuum_X1_vacuumHeld : GoodIn wsX2_meanVacuum wsX1_vacuumHeld := goodIn_r _ [18, 7, 19, 20, 21, 22, 5, 23, 8, 9, 10, 11, 12, 13, 14, 26, 27, 28, 29, 30, 31, 32, 33, 34, 35, 36, 37, 38, 39, 40] (by decide +kernel) (by decide +kernel)
set_option maxRecDepth 20000 in
theorem gX2_meanVacuum_X1_vacuumHeld : GoodIn wsX2_meanVacuum (wsV RX2 156 RX1 yX1_vacuumHeld wsX1_vacuumHeld) := goodIn_app (goodIn_of _ (by decide +kernel)) ggX2_meanVacuum_X1_vacuumHeld
theorem dX2_meanVacuum_0 : decode cX2_meanVacuum 0 = .ok (.aload_n 0, 1) := by decide +kernel
theorem dX2_meanVacuum_1 : decode cX2_meanVacuum 1 = .ok (.getfield 10, 3) := by decide +kernel
theorem dX2_meanVacuum_4 : decode cX2_meanVacuum 4 = .ok (.iconst 1, 1) := by decide +kernel
theorem dX2_meanVacuum_5 : decode cX2_meanVacuum 5 = .ok (.invokevirtual 108, 3) := by decide +kernel
theorem dX2_meanVacuum_8 : decode cX2_meanVacuum 8 = .ok (.istore_n 1, 1) := by decide +kernel
theorem dX2_meanVacuum_9 : decode cX2_meanVacuum 9 = .ok (.iload_n 1, 1) := by decide +kernel
theorem dX2_meanVacuum_10 : decode cX2_meanVacuum 10 = .ok (.ifCond .ne 5, 3) := by decide +kernel
theorem dX2_meanVacuum_13 : decode cX2_meanVacuum 13 = .ok (.dconst 0, 1) := by decide +kernel
theorem dX2_meanVacuum_14 : decode cX2_meanVacuum 14 = .ok (.dreturn, 1) := by decide +kernel
theorem dX2_meanVacuum_15 : decode cX2_meanVacuum 15 = .ok (.aload_n 0, 1) := by decide +kernel
theorem dX2_meanVacuum_16 : decode cX2_meanVacuum 16 = .ok (.getfield 10, 3) := by decide +kernel
theorem dX2_meanVacuum_19 : decode cX2_meanVacuum 19 = .ok (.invokevirtual 156, 3) := by decide +kernel
theorem dX2_meanVacuum_22 : decode cX2_meanVacuum 22 = .ok (.i2d, 1) := by decide +kernel
theorem dX2_meanVacuum_23 : decode cX2_meanVacuum 23 = .ok (.iload_n 1, 1) := by decide +kernel
theorem dX2_meanVacuum_24 : decode cX2_meanVacuum 24 = .ok (.i2d, 1) := by decide +kernel
theorem dX2_meanVacuum_25 : decode cX2_meanVacuum 25 = .ok (.ddiv, 1) := by decide +kernel
theorem dX2_meanVacuum_26 : decode cX2_meanVacuum 26 = .ok (.dreturn, 1) := by decide +kernel
set_option maxRecDepth 20000 in
theorem ggX2_digest_X2_day : GoodIn wsX2_digest wsX2_day := goodIn_r _ [6, 7, 239, 240, 241, 242, 243, 244, 245, 246, 247, 248, 249, 250, 251, 252, 253, 254] (by decide +kernel) (by decide +kernel)
set_option maxRecDepth 20000 in
theorem gX2_digest_X2_day : GoodIn wsX2_digest (wsV RX2 162 RX2 yX2_day wsX2_day) := goodIn_app (goodIn_of _ (by decide +kernel)) ggX2_digest_X2_day
set_option maxRecDepth 20000 in
theorem ggX2_digest_X2_mix : GoodIn wsX2_digest wsX2_mix := goodIn_r _ [10, 11] (by decide +kernel) (by decide +kernel)
set_option maxRecDepth 20000 in
theorem gX2_digest_X2_mix : GoodIn wsX2_digest (va_wsS RX2 164 yX2_mix wsX2_mix) := goodIn_app (goodIn_of _ (by decide +kernel)) ggX2_digest_X2_mix
set_option maxRecDepth 20000 in
theorem ggX2_digest_X2_batches : GoodIn wsX2_digest wsX2_batches := goodIn_r _ [15, 7, 239, 240, 241, 242, 243, 244, 245, 246, 247, 248, 249, 250, 251, 252, 253, 254] (by decide +kernel) (by decide +kernel)
set_option maxRecDepth 20000 in
theorem gX2_digest_X2_batches : GoodIn wsX2_digest (wsV RX2 168 RX2 yX2_batches wsX2_batches) := goodIn_app (goodIn_of _ (by decide +kernel)) ggX2_digest_X2_batches
set_option maxRecDepth 20000 in
theorem ggX2_digest_X2_tins : GoodIn wsX2_digest wsX2_tins := goodIn_r _ [19, 7, 239, 240, 241, 242, 243, 244, 245, 246, 247, 248, 249, 250, 251, 252, 253, 254] (by decide +kernel) (by decide +kernel)
set_option maxRecDepth 20000 in
theorem gX2_digest_X2_tins : GoodIn wsX2_digest (wsV RX2 171 RX2 yX2_tins wsX2_tins) := goodIn_app (goodIn_of _ (by decide +kernel)) ggX2_digest_X2_tins
set_option maxRecDepth 20000 in
theorem ggX2_digest_X2_inCellar : GoodIn wsX2_digest wsX2_inCellar := goodIn_r _ [23, 7, 24, 25, 26, 27, 28, 29, 30, 31, 32, 33, 34, 35, 36, 239, 240, 241, 242, 243, 244, 245, 246, 247, 248, 249, 250, 251, 252, 253, 254, 255] (by decide +kernel) (by decide +kernel)
set_option maxRecDepth 20000 in
theorem gX2_digest_X2_inCellar : GoodIn wsX2_digest (wsV RX2 174 RX2 yX2_inCellar wsX2_inCellar) := goodIn_app (goodIn_of _ (by decide +kernel)) ggX2_digest_X2_inCellar
set_option maxRecDepth 20000 in
theorem ggX2_digest_X2_shipped : GoodIn wsX2_digest wsX2_shipped := goodIn_r _ [40, 7, 24, 25, 26, 27, 28, 29, 30, 31, 32, 33, 34, 35, 36, 239, 240, 241, 242, 243, 244, 245, 246, 247, 248, 249, 250, 251, 252, 253, 254, 255] (by decide +kernel) (by decide +kernel)
set_option maxRecDepth 20000 in
theorem gX2_digest_X2_shipped : GoodIn wsX2_digest (wsV RX2 177 RX2 yX2_shipped wsX2_shipped) := goodIn_app (goodIn_of _ (by decide +kernel)) ggX2_digest_X2_shipped
set_option maxRecDepth 20000 in
theorem ggX2_digest_X2_lost : GoodIn wsX2_digest wsX2_lost := goodIn_r _ [44, 7, 24, 25, 26, 27, 28, 29, 30, 31, 32, 33, 34, 35, 36, 239, 240, 241, 242, 243, 244, 245, 246, 247, 248, 249, 250, 251, 252, 253, 254, 255] (by decide +kernel) (by decide +kernel)
set_option maxRecDepth 20000 in
theorem gX2_digest_X2_lost : GoodIn wsX2_digest (wsV RX2 180 RX2 yX2_lost wsX2_lost) := goodIn_app (goodIn_of _ (by decide +kernel)) ggX2_digest_X2_lost
set_option maxRecDepth 20000 in
theorem ggX2_digest_X2_swelled : GoodIn wsX2_digest wsX2_swelled := goodIn_r _ [48, 7, 49, 32, 33, 34, 35, 36, 239, 240, 241, 242, 243, 244, 245, 246, 247, 248, 249, 250, 251, 252, 253, 254, 255] (by decide +kernel) (by decide +kernel)
set_option maxRecDepth 20000 in
theorem gX2_digest_X2_swelled : GoodIn wsX2_digest (wsV RX2 183 RX2 yX2_swelled wsX2_swelled) := goodIn_app (goodIn_of _ (by decide +kernel)) ggX2_digest_X2_swelled
set_option maxRecDepth 20000 in
theorem ggX2_digest_X2_first : GoodIn wsX2_digest wsX2_first := goodIn_ca (goodIn_r _ [53, 7, 54, 55, 5, 56, 57, 58, 59, 60, 61, 62, 63, 64, 27, 65, 29, 66, 67, 68, 69, 30, 31, 32, 33, 34, 35, 36, 70, 71, 72, 73, 74, 75, 76, 239, 240, 241, 242, 243, 244, 245, 246, 247, 248, 249, 250, 251, 252, 253, 254, 255] (by decide +kernel) (by decide +kernel)) (goodIn_sub (fun _ h => List.mem_cons_of_mem _ (List.mem_append_left _ (List.mem_append_right _ h))) (by decide +kernel))
set_option maxRecDepth 20000 in
theorem gX2_digest_X2_first : GoodIn wsX2_digest (wsV RX2 186 RX2 yX2_first wsX2_first) := goodIn_app (goodIn_of _ (by decide +kernel)) ggX2_digest_X2_first
set_option maxRecDepth 20000 in
theorem ggX2_digest_X2_bestOrder : GoodIn wsX2_digest wsX2_bestOrder := goodIn_r _ [80, 7, 81, 82, 83, 5, 84, 85, 86, 87, 88, 27, 89, 75, 90, 91, 92, 93, 94, 95, 76, 74, 30, 29, 96, 97, 98, 99, 100, 101, 34, 102, 36, 103, 32, 33, 35, 104, 105, 106, 107, 108, 109, 110, 111, 112, 113, 114, 115, 66, 67, 68, 69, 31, 116, 117, 118, 119, 120, 121, 122, 123, 124, 125, 126, 127, 128, 129, 130, 131, 132, 133, 134, 135, 136, 137, 138, 139, 140, 63, 64, 65, 70, 71, 72, 73, 141, 142, 143, 144, 24, 25, 26, 28, 239, 240, 241, 242, 243, 244, 245, 246, 247, 248, 249, 250, 251, 252, 253, 254, 255] (by decide +kernel) (by decide +kernel)
set_option maxRecDepth 20000 in
theorem gX2_digest_X2_bestOrder : GoodIn wsX2_digest (wsV RX2 189 RX2 yX2_bestOrder wsX2_bestOrder) := goodIn_app (goodIn_of _ (by decide +kernel)) ggX2_digest_X2_bestOrder
set_option maxRecDepth 20000 in
theorem ggX2_digest_X2_shippingWanted : GoodIn wsX2_digest wsX2_shippingWanted := goodIn_r _ [148, 7, 81, 82, 83, 5, 84, 85, 86, 87, 88, 27, 89, 75, 90, 91, 92, 93, 94, 95, 76, 74, 30, 29, 96, 97, 98, 99, 100, 101, 34, 102, 36, 103, 32, 33, 35, 104, 105, 106, 107, 108, 109, 110, 111, 112, 113, 114, 115, 66, 67, 68, 69, 31, 116, 117, 118, 119, 120, 121, 122, 123, 124, 125, 126, 127, 128, 129, 130, 131, 132, 133, 134, 135, 136, 137, 138, 139, 140, 63, 64, 65, 70, 71, 72, 73, 141, 142, 143, 144, 24, 25, 26, 28, 239, 240, 241, 242, 243, 244, 245, 246, 247, 248, 249, 250, 251, 252, 253, 254, 255] (by decide +kernel) (by decide +kernel)
set_option maxRecDepth 20000 in
theorem gX2_digest_X2_shippingWanted : GoodIn wsX2_digest (wsV RX2 192 RX2 yX2_shippingWanted wsX2_shippingWanted) := goodIn_app (goodIn_of _ (by decide +kernel)) ggX2_digest_X2_shippingWanted
set_option maxRecDepth 20000 in
theorem ggX2_digest_X2_mixShelves : GoodIn wsX2_digest wsX2_mixShelves := goodIn_ca (goodIn_r _ [152, 153, 154, 155, 5, 156, 7, 157, 158, 159, 160, 161, 59, 60, 61, 162, 163, 164, 27, 165, 29, 66, 67, 68, 69, 30, 31, 32, 33, 34, 35, 36, 8, 9, 10, 11, 166, 167, 168, 169, 49, 239, 240, 241, 242, 243, 244, 245, 246, 247, 248, 249, 250, 251, 252, 253, 254, 255] (by decide +kernel) (by decide +kernel)) (goodIn_sub (fun _ h => List.mem_cons_of_mem _ (List.mem_append_right _ h)) (by decide +kernel))
set_option maxRecDepth 20000 in
theorem gX2_digest_X2_mixShelves : GoodIn wsX2_digest (wsV RX2 195 RX2 yX2_mixShelves wsX2_mixShelves) := goodIn_app (goodIn_of _ (by decide +kernel)) ggX2_digest_X2_mixShelves
set_option maxRecDepth 20000 in
theorem ggX2_digest_X2_mixBatches : GoodIn wsX2_digest wsX2_mixBatches := goodIn_ca (goodIn_r _ [173, 7, 174, 175, 176, 5, 177, 178, 179, 180, 181, 160, 161, 59, 60, 61, 49, 32, 33, 34, 35, 36, 8, 9, 10, 11, 182, 183, 184, 185, 162, 163, 164, 27, 165, 29, 66, 67, 68, 69, 30, 31, 186, 187, 188, 189, 190, 133, 134, 135, 93, 191, 192, 193, 194, 85, 86, 87, 88, 89, 75, 90, 91, 92, 94, 95, 76, 74, 96, 97, 98, 99, 100, 101, 102, 103, 104, 105, 106, 107, 108, 109, 110, 111, 112, 113, 114, 115, 116, 117, 118, 119, 120, 121, 122, 123, 124, 125, 126, 127, 128, 129, 130, 131, 132, 136, 137, 138, 139, 140, 63, 64, 65, 70, 71, 72, 73, 141, 142, 143, 144, 239, 240, 241, 242, 243, 244, 245, 246, 247, 248, 249, 250, 251, 252, 253, 254, 255] (by decide +kernel) (by decide +kernel)) (goodIn_sub (fun _ h => List.mem_cons_of_mem _ (List.mem_append_right _ h)) (by decide +kernel))
set_option maxRecDepth 20000 in
theorem gX2_digest_X2_mixBatches : GoodIn wsX2_digest (wsV RX2 199 RX2 yX2_mixBatches wsX2_mixBatches) := goodIn_app (goodIn_of _ (by decide +kernel)) ggX2_digest_X2_mixBatches
set_option maxRecDepth 20000 in
theorem ggX2_digest_X2_mixTins : GoodIn wsX2_digest wsX2_mixTins := goodIn_ca (goodIn_ca (goodIn_r _ [198, 7, 199, 200, 201, 5, 202, 203, 204, 205, 206, 160, 161, 59, 60, 61, 207, 67, 68, 27, 69, 30, 31, 32, 33, 34, 35, 36, 49, 8, 9, 10, 11, 208, 209, 210, 211, 212, 213, 214, 215, 216, 217, 218, 219, 54, 55, 56, 57, 58, 220, 221, 222, 223, 29, 70, 71, 72, 73, 74, 75, 76, 66, 224, 225, 226, 227, 228, 229, 230, 231, 116, 117, 118, 119, 91, 95, 232, 233, 234, 235, 236, 237, 238, 239, 240, 241, 242, 243, 244, 245, 246, 247, 248, 249, 250, 251, 252, 253, 254, 255] (by decide +kernel) (by decide +kernel)) (goodIn_sub (fun _ h => List.mem_cons_of_mem _ (List.mem_append_right _ h)) (by decide +kernel))) (goodIn_sub (fun _ h => List.mem_cons_of_mem _ (List.mem_append_left _ (List.mem_append_right _ h))) (by decide +kernel))
set_option maxRecDepth 20000 in
theorem gX2_digest_X2_mixTins : GoodIn wsX2_digest (wsV RX2 202 RX2 yX2_mixTins wsX2_mixTins) := goodIn_app (goodIn_of _ (by decide +kernel)) ggX2_digest_X2_mixTins
theorem dX2_digest_0 : decode cX2_digest 0 = .ok (.ldc2_w 160, 3) := by decide +kernel
theorem dX2_digest_3 : decode cX2_digest 3 = .ok (.lstore_n 1, 1) := by decide +kernel
theorem dX2_digest_4 : decode cX2_digest 4 = .ok (.lload_n 1, 1) := by decide +kernel
theorem dX2_digest_5 : decode cX2_digest 5 = .ok (.aload_n 0, 1) := by decide +kernel
theorem dX2_digest_6 : decode cX2_digest 6 = .ok (.invokevirtual 162, 3) := by decide +kernel
theorem dX2_digest_9 : decode cX2_digest 9 = .ok (.i2l, 1) := by decide +kernel
theorem dX2_digest_10 : decode cX2_digest 10 = .ok (.invokestatic 164, 3) := by decide +kernel
theorem dX2_digest_13 : decode cX2_digest 13 = .ok (.lstore_n 1, 1) := by decide +kernel
theorem dX2_digest_14 : decode cX2_digest 14 = .ok (.lload_n 1, 1) := by decide +kernel
theorem dX2_digest_15 : decode cX2_digest 15 = .ok (.aload_n 0, 1) := by decide +kernel
theorem dX2_digest_16 : decode cX2_digest 16 = .ok (.invokevirtual 168, 3) := by decide +kernel
theorem dX2_digest_19 : decode cX2_digest 19 = .ok (.i2l, 1) := by decide +kernel
theorem dX2_digest_20 : decode cX2_digest 20 = .ok (.invokestatic 164, 3) := by decide +kernel
theorem dX2_digest_23 : decode cX2_digest 23 = .ok (.lstore_n 1, 1) := by decide +kernel
theorem dX2_digest_24 : decode cX2_digest 24 = .ok (.lload_n 1, 1) := by decide +kernel
theorem dX2_digest_25 : decode cX2_digest 25 = .ok (.aload_n 0, 1) := by decide +kernel
theorem dX2_digest_26 : decode cX2_digest 26 = .ok (.invokevirtual 171, 3) := by decide +kernel
theorem dX2_digest_29 : decode cX2_digest 29 = .ok (.i2l, 1) := by decide +kernel
theorem dX2_digest_30 : decode cX2_digest 30 = .ok (.invokestatic 164, 3) := by decide +kernel
theorem dX2_digest_33 : decode cX2_digest 33 = .ok (.lstore_n 1, 1) := by decide +kernel
theorem dX2_digest_34 : decode cX2_digest 34 = .ok (.lload_n 1, 1) := by decide +kernel
theorem dX2_digest_35 : decode cX2_digest 35 = .ok (.aload_n 0, 1) := by decide +kernel
theorem dX2_digest_36 : decode cX2_digest 36 = .ok (.invokevirtual 174, 3) := by decide +kernel
theorem dX2_digest_39 : decode cX2_digest 39 = .ok (.i2l, 1) := by decide +kernel
theorem dX2_digest_40 : decode cX2_digest 40 = .ok (.invokestatic 164, 3) := by decide +kernel
theorem dX2_digest_43 : decode cX2_digest 43 = .ok (.lstore_n 1, 1) := by decide +kernel
theorem dX2_digest_44 : decode cX2_digest 44 = .ok (.lload_n 1, 1) := by decide +kernel
theorem dX2_digest_45 : decode cX2_digest 45 = .ok (.aload_n 0, 1) := by decide +kernel
theorem dX2_digest_46 : decode cX2_digest 46 = .ok (.invokevirtual 177, 3) := by decide +kernel
theorem dX2_digest_49 : decode cX2_digest 49 = .ok (.i2l, 1) := by decide +kernel
theorem dX2_digest_50 : decode cX2_digest 50 = .ok (.invokestatic 164, 3) := by decide +kernel
theorem dX2_digest_53 : decode cX2_digest 53 = .ok (.lstore_n 1, 1) := by decide +kernel
theorem dX2_digest_54 : decode cX2_digest 54 = .ok (.lload_n 1, 1) := by decide +kernel
theorem dX2_digest_55 : decode cX2_digest 55 = .ok (.aload_n 0, 1) := by decide +kernel
theorem dX2_digest_56 : decode cX2_digest 56 = .ok (.invokevirtual 180, 3) := by decide +kernel
theorem dX2_digest_59 : decode cX2_digest 59 = .ok (.i2l, 1) := by decide +kernel
theorem dX2_digest_60 : decode cX2_digest 60 = .ok (.invokestatic 164, 3) := by decide +kernel
theorem dX2_digest_63 : decode cX2_digest 63 = .ok (.lstore_n 1, 1) := by decide +kernel
theorem dX2_digest_64 : decode cX2_digest 64 = .ok (.lload_n 1, 1) := by decide +kernel
theorem dX2_digest_65 : decode cX2_digest 65 = .ok (.aload_n 0, 1) := by decide +kernel
theorem dX2_digest_66 : decode cX2_digest 66 = .ok (.invokevirtual 183, 3) := by decide +kernel
theorem dX2_digest_69 : decode cX2_digest 69 = .ok (.i2l, 1) := by decide +kernel
theorem dX2_digest_70 : decode cX2_digest 70 = .ok (.invokestatic 164, 3) := by decide +kernel
theorem dX2_digest_73 : decode cX2_digest 73 = .ok (.lstore_n 1, 1) := by decide +kernel
theorem dX2_digest_74 : decode cX2_digest 74 = .ok (.iconst 0, 1) := by decide +kernel
theorem dX2_digest_75 : decode cX2_digest 75 = .ok (.istore_n 3, 1) := by decide +kernel
theorem dX2_digest_76 : decode cX2_digest 76 = .ok (.iload_n 3, 1) := by decide +kernel
theorem dX2_digest_77 : decode cX2_digest 77 = .ok (.iconst 2, 1) := by decide +kernel
theorem dX2_digest_78 : decode cX2_digest 78 = .ok (.if_icmp .gt 20, 3) := by decide +kernel
theorem dX2_digest_81 : decode cX2_digest 81 = .ok (.lload_n 1, 1) := by decide +kernel
theorem dX2_digest_82 : decode cX2_digest 82 = .ok (.aload_n 0, 1) := by decide +kernel
theorem dX2_digest_83 : decode cX2_digest 83 = .ok (.iload_n 3, 1) := by decide +kernel
theorem dX2_digest_84 : decode cX2_digest 84 = .ok (.invokevirtual 186, 3) := by decide +kernel
theorem dX2_digest_87 : decode cX2_digest 87 = .ok (.i2l, 1) := by decide +kernel
theorem dX2_digest_88 : decode cX2_digest 88 = .ok (.invokestatic 164, 3) := by decide +kernel
theorem dX2_digest_91 : decode cX2_digest 91 = .ok (.lstore_n 1, 1) := by decide +kernel
theorem dX2_digest_92 : decode cX2_digest 92 = .ok (.iinc 3 1, 3) := by decide +kernel
theorem dX2_digest_95 : decode cX2_digest 95 = .ok (.goto (-19), 3) := by decide +kernel
theorem dX2_digest_98 : decode cX2_digest 98 = .ok (.lload_n 1, 1) := by decide +kernel
theorem dX2_digest_99 : decode cX2_digest 99 = .ok (.aload_n 0, 1) := by decide +kernel
theorem dX2_digest_100 : decode cX2_digest 100 = .ok (.invokevirtual 189, 3) := by decide +kernel
theorem dX2_digest_103 : decode cX2_digest 103 = .ok (.i2l, 1) := by decide +kernel
theorem dX2_digest_104 : decode cX2_digest 104 = .ok (.invokestatic 164, 3) := by decide +kernel
theorem dX2_digest_107 : decode cX2_digest 107 = .ok (.lstore_n 1, 1) := by decide +kernel
theorem dX2_digest_108 : decode cX2_digest 108 = .ok (.lload_n 1, 1) := by decide +kernel
theorem dX2_digest_109 : decode cX2_digest 109 = .ok (.aload_n 0, 1) := by decide +kernel
theorem dX2_digest_110 : decode cX2_digest 110 = .ok (.invokevirtual 192, 3) := by decide +kernel
theorem dX2_digest_113 : decode cX2_digest 113 = .ok (.i2l, 1) := by decide +kernel
theorem dX2_digest_114 : decode cX2_digest 114 = .ok (.invokestatic 164, 3) := by decide +kernel
theorem dX2_digest_117 : decode cX2_digest 117 = .ok (.lstore_n 1, 1) := by decide +kernel
theorem dX2_digest_118 : decode cX2_digest 118 = .ok (.aload_n 0, 1) := by decide +kernel
theorem dX2_digest_119 : decode cX2_digest 119 = .ok (.lload_n 1, 1) := by decide +kernel
theorem dX2_digest_120 : decode cX2_digest 120 = .ok (.invokevirtual 195, 3) := by decide +kernel
theorem dX2_digest_123 : decode cX2_digest 123 = .ok (.lstore_n 1, 1) := by decide +kernel
theorem dX2_digest_124 : decode cX2_digest 124 = .ok (.aload_n 0, 1) := by decide +kernel
theorem dX2_digest_125 : decode cX2_digest 125 = .ok (.lload_n 1, 1) := by decide +kernel
theorem dX2_digest_126 : decode cX2_digest 126 = .ok (.invokevirtual 199, 3) := by decide +kernel
theorem dX2_digest_129 : decode cX2_digest 129 = .ok (.lstore_n 1, 1) := by decide +kernel
theorem dX2_digest_130 : decode cX2_digest 130 = .ok (.aload_n 0, 1) := by decide +kernel
theorem dX2_digest_131 : decode cX2_digest 131 = .ok (.lload_n 1, 1) := by decide +kernel
theorem dX2_digest_132 : decode cX2_digest 132 = .ok (.invokevirtual 202, 3) := by decide +kernel
theorem dX2_digest_135 : decode cX2_digest 135 = .ok (.lreturn, 1) := by decide +kernel
set_option maxRecDepth 20000 in
theorem ggX2_mixShelves_X2_standOn : GoodIn wsX2_mixShelves wsX2_standOn := goodIn_ca (goodIn_r _ [5, 6, 7, 8, 4, 9, 10, 11, 12, 13, 14, 15, 16, 17, 18, 19, 20, 21, 22, 23, 24, 25, 26, 27, 28, 29, 30, 31, 41, 42, 43, 44, 45, 46, 47, 48, 49, 50, 51, 52, 53, 54, 55, 56, 57] (by decide +kernel) (by decide +kernel)) (goodIn_sub (fun _ h => List.mem_cons_of_mem _ (List.mem_append_right _ h)) (by decide +kernel))
set_option maxRecDepth 20000 in
theorem gX2_mixShelves_X2_standOn : GoodIn wsX2_mixShelves (wsV RX2 205 RX2 yX2_standOn wsX2_standOn) := goodIn_app (goodIn_of _ (by decide +kernel)) ggX2_mixShelves_X2_standOn
set_option maxRecDepth 20000 in
theorem ggX2_mixShelves_X2_mix : GoodIn wsX2_mixShelves wsX2_mix := goodIn_r _ [34, 35] (by decide +kernel) (by decide +kernel)
set_option maxRecDepth 20000 in
theorem gX2_mixShelves_X2_mix : GoodIn wsX2_mixShelves (va_wsS RX2 164 yX2_mix wsX2_mix) := goodIn_app (goodIn_of _ (by decide +kernel)) ggX2_mixShelves_X2_mix
set_option maxRecDepth 20000 in
theorem ggX2_mixShelves_X2_warmOf : GoodIn wsX2_mixShelves wsX2_warmOf := goodIn_ca (goodIn_r _ [39, 6, 7, 8, 4, 9, 10, 11, 12, 13, 14, 40, 27, 28, 29, 30, 31, 41, 42, 43, 44, 45, 46, 47, 48, 49, 50, 51, 52, 53, 54, 55, 56, 57] (by decide +kernel) (by decide +kernel)) (goodIn_sub (fun _ h => List.mem_cons_of_mem _ (List.mem_append_right _ h)) (by decide +kernel))
set_option maxRecDepth 20000 in
theorem gX2_mixShelves_X2_warmOf : GoodIn wsX2_mixShelves (wsV RX2 208 RX2 yX2_warmOf wsX2_warmOf) := goodIn_app (goodIn_of _ (by decide +kernel)) ggX2_mixShelves_X2_warmOf
theorem dX2_mixShelves_0 : decode cX2_mixShelves 0 = .ok (.lload_n 1, 1) := by decide +kernel
theorem dX2_mixShelves_1 : decode cX2_mixShelves 1 = .ok (.lstore_n 3, 1) := by decide +kernel
theorem dX2_mixShelves_2 : decode cX2_mixShelves 2 = .ok (.iconst 0, 1) := by decide +kernel
theorem dX2_mixShelves_3 : decode cX2_mixShelves 3 = .ok (.istore 5, 2) := by decide +kernel
theorem dX2_mixShelves_5 : decode cX2_mixShelves 5 = .ok (.iload 5, 2) := by decide +kernel
theorem dX2_mixShelves_7 : decode cX2_mixShelves 7 = .ok (.iconst 4, 1) := by decide +kernel
theorem dX2_mixShelves_8 : decode cX2_mixShelves 8 = .ok (.if_icmp .ge 33, 3) := by decide +kernel
theorem dX2_mixShelves_11 : decode cX2_mixShelves 11 = .ok (.lload_n 3, 1) := by decide +kernel
theorem dX2_mixShelves_12 : decode cX2_mixShelves 12 = .ok (.aload_n 0, 1) := by decide +kernel
theorem dX2_mixShelves_13 : decode cX2_mixShelves 13 = .ok (.iload 5, 2) := by decide +kernel
theorem dX2_mixShelves_15 : decode cX2_mixShelves 15 = .ok (.invokevirtual 205, 3) := by decide +kernel
theorem dX2_mixShelves_18 : decode cX2_mixShelves 18 = .ok (.i2l, 1) := by decide +kernel
theorem dX2_mixShelves_19 : decode cX2_mixShelves 19 = .ok (.invokestatic 164, 3) := by decide +kernel
theorem dX2_mixShelves_22 : decode cX2_mixShelves 22 = .ok (.lstore_n 3, 1) := by decide +kernel
theorem dX2_mixShelves_23 : decode cX2_mixShelves 23 = .ok (.lload_n 3, 1) := by decide +kernel
theorem dX2_mixShelves_24 : decode cX2_mixShelves 24 = .ok (.aload_n 0, 1) := by decide +kernel
theorem dX2_mixShelves_25 : decode cX2_mixShelves 25 = .ok (.iload 5, 2) := by decide +kernel
theorem dX2_mixShelves_27 : decode cX2_mixShelves 27 = .ok (.invokevirtual 208, 3) := by decide +kernel
theorem dX2_mixShelves_30 : decode cX2_mixShelves 30 = .ok (.i2l, 1) := by decide +kernel
theorem dX2_mixShelves_31 : decode cX2_mixShelves 31 = .ok (.invokestatic 164, 3) := by decide +kernel
theorem dX2_mixShelves_34 : decode cX2_mixShelves 34 = .ok (.lstore_n 3, 1) := by decide +kernel
theorem dX2_mixShelves_35 : decode cX2_mixShelves 35 = .ok (.iinc 5 1, 3) := by decide +kernel
theorem dX2_mixShelves_38 : decode cX2_mixShelves 38 = .ok (.goto (-33), 3) := by decide +kernel
theorem dX2_mixShelves_41 : decode cX2_mixShelves 41 = .ok (.lload_n 3, 1) := by decide +kernel
theorem dX2_mixShelves_42 : decode cX2_mixShelves 42 = .ok (.lreturn, 1) := by decide +kernel
set_option maxRecDepth 20000 in
theorem ggX2_mixBatches_X2_swelledOf : GoodIn wsX2_mixBatches wsX2_swelledOf := goodIn_ca (goodIn_r _ [6, 1, 7, 8, 9, 5, 10, 11, 12, 13, 14, 15, 16, 17, 18, 19, 20, 21, 121, 122, 123, 124, 125, 126, 127, 128, 129, 130, 131, 132, 133, 134, 135, 136, 137] (by decide +kernel) (by decide +kernel)) (goodIn_sub (fun _ h => List.mem_cons_of_mem _ (List.mem_append_right _ h)) (by decide +kernel))
set_option maxRecDepth 20000 in
theorem gX2_mixBatches_X2_swelledOf : GoodIn wsX2_mixBatches (wsV RX2 211 RX2 yX2_swelledOf wsX2_swelledOf) := goodIn_app (goodIn_of _ (by decide +kernel)) ggX2_mixBatches_X2_swelledOf
set_option maxRecDepth 20000 in
theorem ggX2_mixBatches_X2_mix : GoodIn wsX2_mixBatches wsX2_mix := goodIn_r _ [24, 25] (by decide +kernel) (by decide +kernel)
set_option maxRecDepth 20000 in
theorem gX2_mixBatches_X2_mix : GoodIn wsX2_mixBatches (va_wsS RX2 164 yX2_mix wsX2_mix) := goodIn_app (goodIn_of _ (by decide +kernel)) ggX2_mixBatches_X2_mix
set_option maxRecDepth 20000 in
theorem ggX2_mixBatches_X2_leftOf : GoodIn wsX2_mixBatches wsX2_leftOf := goodIn_ca (goodIn_r _ [29, 1, 7, 8, 9, 5, 10, 11, 12, 13, 14, 15, 30, 31, 32, 33, 34, 35, 36, 37, 38, 39, 40, 41, 17, 18, 19, 20, 21, 121, 122, 123, 124, 125, 126, 127, 128, 129, 130, 131, 132, 133, 134, 135, 136, 137] (by decide +kernel) (by decide +kernel)) (goodIn_sub (fun _ h => List.mem_cons_of_mem _ (List.mem_append_right _ h)) (by decide +kernel))
set_option maxRecDepth 20000 in
theorem gX2_mixBatches_X2_leftOf : GoodIn wsX2_mixBatches (wsV RX2 214 RX2 yX2_leftOf wsX2_leftOf) := goodIn_app (goodIn_of _ (by decide +kernel)) ggX2_mixBatches_X2_leftOf
set_option maxRecDepth 20000 in
theorem ggX2_mixBatches_X2_isRecalled : GoodIn wsX2_mixBatches wsX2_isRecalled := goodIn_ca (goodIn_r _ [45, 1, 7, 8, 9, 5, 10, 11, 12, 13, 14, 15, 46, 47, 48, 33, 49, 50, 41, 17, 18, 19, 20, 21, 121, 122, 123, 124, 125, 126, 127, 128, 129, 130, 131, 132, 133, 134, 135, 136, 137] (by decide +kernel) (by decide +kernel)) (goodIn_sub (fun _ h => List.mem_cons_of_mem _ (List.mem_append_right _ h)) (by decide +kernel))
set_option maxRecDepth 20000 in
theorem gX2_mixBatches_X2_isRecalled : GoodIn wsX2_mixBatches (wsV RX2 217 RX2 yX2_isRecalled wsX2_isRecalled) := goodIn_app (goodIn_of _ (by decide +kernel)) ggX2_mixBatches_X2_isRecalled
set_option maxRecDepth 20000 in
theorem ggX2_mixBatches_X2_daysUntilRecalled : GoodIn wsX2_mixBatches wsX2_daysUntilRecalled := goodIn_ca (goodIn_r _ [54, 1, 55, 7, 8, 9, 5, 10, 11, 12, 13, 14, 15, 46, 47, 48, 33, 49, 50, 41, 17, 18, 19, 20, 21, 56, 57, 58, 59, 60, 61, 62, 63, 64, 65, 66, 67, 40, 35, 68, 69, 70, 71, 72, 73, 74, 75, 76, 77, 78, 79, 80, 81, 82, 83, 84, 85, 86, 87, 36, 37, 38, 39, 88, 89, 90, 91, 92, 93, 94, 95, 96, 97, 98, 99, 100, 101, 102, 103, 104, 105, 106, 107, 108, 109, 110, 111, 112, 113, 114, 115, 116, 117, 118, 119, 120, 121, 122, 123, 124, 125, 126, 127, 128, 129, 130, 131, 132, 133, 134, 135, 136, 137] (by decide +kernel) (by decide +kernel)) (goodIn_sub (fun _ h => List.mem_cons_of_mem _ (List.mem_append_right _ h)) (by decide +kernel))
set_option maxRecDepth 20000 in
theorem gX2_mixBatches_X2_daysUntilRecalled : GoodIn wsX2_mixBatches (wsV RX2 220 RX2 yX2_daysUntilRecalled wsX2_daysUntilRecalled) := goodIn_app (goodIn_of _ (by decide +kernel)) ggX2_mixBatches_X2_daysUntilRecalled
theorem dX2_mixBatches_0 : decode cX2_mixBatches 0 = .ok (.lload_n 1, 1) := by decide +kernel
theorem dX2_mixBatches_1 : decode cX2_mixBatches 1 = .ok (.lstore_n 3, 1) := by decide +kernel
theorem dX2_mixBatches_2 : decode cX2_mixBatches 2 = .ok (.iconst 0, 1) := by decide +kernel
theorem dX2_mixBatches_3 : decode cX2_mixBatches 3 = .ok (.istore 5, 2) := by decide +kernel
theorem dX2_mixBatches_5 : decode cX2_mixBatches 5 = .ok (.iload 5, 2) := by decide +kernel
theorem dX2_mixBatches_7 : decode cX2_mixBatches 7 = .ok (.aload_n 0, 1) := by decide +kernel
theorem dX2_mixBatches_8 : decode cX2_mixBatches 8 = .ok (.getfield 10, 3) := by decide +kernel
theorem dX2_mixBatches_11 : decode cX2_mixBatches 11 = .ok (.getfield 30, 3) := by decide +kernel
theorem dX2_mixBatches_14 : decode cX2_mixBatches 14 = .ok (.if_icmp .ge 64, 3) := by decide +kernel
theorem dX2_mixBatches_17 : decode cX2_mixBatches 17 = .ok (.lload_n 3, 1) := by decide +kernel
theorem dX2_mixBatches_18 : decode cX2_mixBatches 18 = .ok (.aload_n 0, 1) := by decide +kernel
theorem dX2_mixBatches_19 : decode cX2_mixBatches 19 = .ok (.iload 5, 2) := by decide +kernel
theorem dX2_mixBatches_21 : decode cX2_mixBatches 21 = .ok (.invokevirtual 211, 3) := by decide +kernel
theorem dX2_mixBatches_24 : decode cX2_mixBatches 24 = .ok (.i2l, 1) := by decide +kernel
theorem dX2_mixBatches_25 : decode cX2_mixBatches 25 = .ok (.invokestatic 164, 3) := by decide +kernel
theorem dX2_mixBatches_28 : decode cX2_mixBatches 28 = .ok (.lstore_n 3, 1) := by decide +kernel
theorem dX2_mixBatches_29 : decode cX2_mixBatches 29 = .ok (.lload_n 3, 1) := by decide +kernel
theorem dX2_mixBatches_30 : decode cX2_mixBatches 30 = .ok (.aload_n 0, 1) := by decide +kernel
theorem dX2_mixBatches_31 : decode cX2_mixBatches 31 = .ok (.iload 5, 2) := by decide +kernel
theorem dX2_mixBatches_33 : decode cX2_mixBatches 33 = .ok (.invokevirtual 214, 3) := by decide +kernel
theorem dX2_mixBatches_36 : decode cX2_mixBatches 36 = .ok (.i2l, 1) := by decide +kernel
theorem dX2_mixBatches_37 : decode cX2_mixBatches 37 = .ok (.invokestatic 164, 3) := by decide +kernel
theorem dX2_mixBatches_40 : decode cX2_mixBatches 40 = .ok (.lstore_n 3, 1) := by decide +kernel
theorem dX2_mixBatches_41 : decode cX2_mixBatches 41 = .ok (.lload_n 3, 1) := by decide +kernel
theorem dX2_mixBatches_42 : decode cX2_mixBatches 42 = .ok (.aload_n 0, 1) := by decide +kernel
theorem dX2_mixBatches_43 : decode cX2_mixBatches 43 = .ok (.iload 5, 2) := by decide +kernel
theorem dX2_mixBatches_45 : decode cX2_mixBatches 45 = .ok (.invokevirtual 217, 3) := by decide +kernel
theorem dX2_mixBatches_48 : decode cX2_mixBatches 48 = .ok (.ifCond .eq 7, 3) := by decide +kernel
theorem dX2_mixBatches_51 : decode cX2_mixBatches 51 = .ok (.lconst 1, 1) := by decide +kernel
theorem dX2_mixBatches_52 : decode cX2_mixBatches 52 = .ok (.goto 4, 3) := by decide +kernel
theorem dX2_mixBatches_55 : decode cX2_mixBatches 55 = .ok (.lconst 0, 1) := by decide +kernel
theorem dX2_mixBatches_56 : decode cX2_mixBatches 56 = .ok (.invokestatic 164, 3) := by decide +kernel
theorem dX2_mixBatches_59 : decode cX2_mixBatches 59 = .ok (.lstore_n 3, 1) := by decide +kernel
theorem dX2_mixBatches_60 : decode cX2_mixBatches 60 = .ok (.lload_n 3, 1) := by decide +kernel
theorem dX2_mixBatches_61 : decode cX2_mixBatches 61 = .ok (.aload_n 0, 1) := by decide +kernel
theorem dX2_mixBatches_62 : decode cX2_mixBatches 62 = .ok (.iload 5, 2) := by decide +kernel
theorem dX2_mixBatches_64 : decode cX2_mixBatches 64 = .ok (.invokevirtual 220, 3) := by decide +kernel
theorem dX2_mixBatches_67 : decode cX2_mixBatches 67 = .ok (.i2l, 1) := by decide +kernel
theorem dX2_mixBatches_68 : decode cX2_mixBatches 68 = .ok (.invokestatic 164, 3) := by decide +kernel
theorem dX2_mixBatches_71 : decode cX2_mixBatches 71 = .ok (.lstore_n 3, 1) := by decide +kernel
theorem dX2_mixBatches_72 : decode cX2_mixBatches 72 = .ok (.iinc 5 1, 3) := by decide +kernel
theorem dX2_mixBatches_75 : decode cX2_mixBatches 75 = .ok (.goto (-70), 3) := by decide +kernel
theorem dX2_mixBatches_78 : decode cX2_mixBatches 78 = .ok (.lload_n 3, 1) := by decide +kernel
theorem dX2_mixBatches_79 : decode cX2_mixBatches 79 = .ok (.lreturn, 1) := by decide +kernel
set_option maxRecDepth 20000 in
theorem ggX2_mixTins_X2_shelfOf : GoodIn wsX2_mixTins wsX2_shelfOf := goodIn_ca (goodIn_r _ [6, 1, 7, 8, 9, 5, 10, 11, 12, 13, 14, 15, 16, 17, 18, 19, 20, 21, 22, 23, 24, 25, 26, 27, 28, 84, 85, 86, 87, 88, 89, 90, 91, 92, 93, 94, 95, 96, 97, 98, 99, 100] (by decide +kernel) (by decide +kernel)) (goodIn_sub (fun _ h => List.mem_cons_of_mem _ (List.mem_append_left _ (List.mem_append_right _ h))) (by decide +kernel))
set_option maxRecDepth 20000 in
theorem gX2_mixTins_X2_shelfOf : GoodIn wsX2_mixTins (wsV RX2 223 RX2 yX2_shelfOf wsX2_shelfOf) := goodIn_app (goodIn_of _ (by decide +kernel)) ggX2_mixTins_X2_shelfOf
set_option maxRecDepth 20000 in
theorem ggX2_mixTins_X2_mix : GoodIn wsX2_mixTins wsX2_mix := goodIn_r _ [31, 32] (by decide +kernel) (by decide +kernel)
set_option maxRecDepth 20000 in
theorem gX2_mixTins_X2_mix : GoodIn wsX2_mixTins (va_wsS RX2 164 yX2_mix wsX2_mix) := goodIn_app (goodIn_of _ (by decide +kernel)) ggX2_mixTins_X2_mix
set_option maxRecDepth 20000 in
theorem ggX2_mixTins_X2_vacuumOf : GoodIn wsX2_mixTins wsX2_vacuumOf := goodIn_ca (goodIn_r _ [36, 1, 7, 8, 9, 5, 10, 11, 12, 13, 14, 15, 28, 23, 24, 25, 26, 27, 84, 85, 86, 87, 88, 89, 90, 91, 92, 93, 94, 95, 96, 97, 98, 99, 100] (by decide +kernel) (by decide +kernel)) (goodIn_sub (fun _ h => List.mem_cons_of_mem _ (List.mem_append_left _ (List.mem_append_right _ h))) (by decide +kernel))
set_option maxRecDepth 20000 in
theorem gX2_mixTins_X2_vacuumOf : GoodIn wsX2_mixTins (wsV RX2 226 RX2 yX2_vacuumOf wsX2_vacuumOf) := goodIn_app (goodIn_of _ (by decide +kernel)) ggX2_mixTins_X2_vacuumOf
set_option maxRecDepth 20000 in
theorem ggX2_mixTins_X2_isShipped : GoodIn wsX2_mixTins wsX2_isShipped := goodIn_ca (goodIn_r _ [40, 1, 7, 8, 9, 5, 10, 11, 12, 13, 14, 15, 28, 23, 24, 25, 26, 27, 84, 85, 86, 87, 88, 89, 90, 91, 92, 93, 94, 95, 96, 97, 98, 99, 100] (by decide +kernel) (by decide +kernel)) (goodIn_sub (fun _ h => List.mem_cons_of_mem _ (List.mem_append_left _ (List.mem_append_right _ h))) (by decide +kernel))
set_option maxRecDepth 20000 in
theorem gX2_mixTins_X2_isShipped : GoodIn wsX2_mixTins (wsV RX2 229 RX2 yX2_isShipped wsX2_isShipped) := goodIn_app (goodIn_of _ (by decide +kernel)) ggX2_mixTins_X2_isShipped
set_option maxRecDepth 20000 in
theorem ggX2_mixTins_X2_placeBy : GoodIn wsX2_mixTins wsX2_placeBy := goodIn_ca (goodIn_ca (goodIn_r _ [44, 1, 7, 8, 9, 5, 10, 11, 12, 13, 14, 15, 45, 46, 47, 48, 49, 16, 17, 18, 19, 20, 21, 22, 23, 24, 25, 26, 27, 50, 51, 52, 53, 54, 55, 56, 57, 58, 59, 60, 61, 62, 84, 85, 86, 87, 88, 89, 90, 91, 92, 93, 94, 95, 96, 97, 98, 99, 100] (by decide +kernel) (by decide +kernel)) (goodIn_sub (fun _ h => List.mem_cons_of_mem _ (List.mem_append_left _ (List.mem_append_right _ h))) (by decide +kernel))) (goodIn_sub (fun _ h => List.mem_cons_of_mem _ (List.mem_append_right _ h)) (by decide +kernel))
set_option maxRecDepth 20000 in
theorem gX2_mixTins_X2_placeBy : GoodIn wsX2_mixTins (wsV RX2 232 RX2 yX2_placeBy wsX2_placeBy) := goodIn_app (goodIn_of _ (by decide +kernel)) ggX2_mixTins_X2_placeBy
set_option maxRecDepth 20000 in
theorem ggX2_mixTins_X2_daysOf : GoodIn wsX2_mixTins wsX2_daysOf := goodIn_ca (goodIn_r _ [66, 1, 7, 8, 9, 5, 10, 11, 12, 13, 14, 15, 16, 17, 18, 19, 20, 21, 22, 23, 24, 25, 26, 27, 28, 67, 68, 69, 70, 59, 71, 72, 73, 74, 75, 76, 60, 84, 85, 86, 87, 88, 89, 90, 91, 92, 93, 94, 95, 96, 97, 98, 99, 100] (by decide +kernel) (by decide +kernel)) (goodIn_sub (fun _ h => List.mem_cons_of_mem _ (List.mem_append_left _ (List.mem_append_right _ h))) (by decide +kernel))
set_option maxRecDepth 20000 in
theorem gX2_mixTins_X2_daysOf : GoodIn wsX2_mixTins (wsV RX2 235 RX2 yX2_daysOf wsX2_daysOf) := goodIn_app (goodIn_of _ (by decide +kernel)) ggX2_mixTins_X2_daysOf
set_option maxRecDepth 20000 in
theorem ggX2_mixTins_X2_bestShelf : GoodIn wsX2_mixTins wsX2_bestShelf := goodIn_ca (goodIn_r _ [80, 1, 7, 8, 9, 5, 10, 11, 12, 13, 14, 15, 16, 17, 18, 19, 20, 21, 22, 23, 24, 25, 26, 27, 67, 68, 69, 70, 59, 71, 72, 73, 74, 75, 76, 60, 81, 82, 83, 84, 85, 86, 87, 88, 89, 90, 91, 92, 93, 94, 95, 96, 97, 98, 99, 100] (by decide +kernel) (by decide +kernel)) (goodIn_sub (fun _ h => List.mem_cons_of_mem _ (List.mem_append_left _ (List.mem_append_right _ h))) (by decide +kernel))
set_option maxRecDepth 20000 in
theorem gX2_mixTins_X2_bestShelf : GoodIn wsX2_mixTins (wsV RX2 238 RX2 yX2_bestShelf wsX2_bestShelf) := goodIn_app (goodIn_of _ (by decide +kernel)) ggX2_mixTins_X2_bestShelf
theorem dX2_mixTins_0 : decode cX2_mixTins 0 = .ok (.lload_n 1, 1) := by decide +kernel
theorem dX2_mixTins_1 : decode cX2_mixTins 1 = .ok (.lstore_n 3, 1) := by decide +kernel
theorem dX2_mixTins_2 : decode cX2_mixTins 2 = .ok (.iconst 0, 1) := by decide +kernel
theorem dX2_mixTins_3 : decode cX2_mixTins 3 = .ok (.istore 5, 2) := by decide +kernel
theorem dX2_mixTins_5 : decode cX2_mixTins 5 = .ok (.iload 5, 2) := by decide +kernel
theorem dX2_mixTins_7 : decode cX2_mixTins 7 = .ok (.aload_n 0, 1) := by decide +kernel
theorem dX2_mixTins_8 : decode cX2_mixTins 8 = .ok (.getfield 10, 3) := by decide +kernel
theorem dX2_mixTins_11 : decode cX2_mixTins 11 = .ok (.getfield 52, 3) := by decide +kernel
theorem dX2_mixTins_14 : decode cX2_mixTins 14 = .ok (.if_icmp .ge 89, 3) := by decide +kernel
theorem dX2_mixTins_17 : decode cX2_mixTins 17 = .ok (.lload_n 3, 1) := by decide +kernel
theorem dX2_mixTins_18 : decode cX2_mixTins 18 = .ok (.aload_n 0, 1) := by decide +kernel
theorem dX2_mixTins_19 : decode cX2_mixTins 19 = .ok (.iload 5, 2) := by decide +kernel
theorem dX2_mixTins_21 : decode cX2_mixTins 21 = .ok (.invokevirtual 223, 3) := by decide +kernel
theorem dX2_mixTins_24 : decode cX2_mixTins 24 = .ok (.i2l, 1) := by decide +kernel
theorem dX2_mixTins_25 : decode cX2_mixTins 25 = .ok (.invokestatic 164, 3) := by decide +kernel
theorem dX2_mixTins_28 : decode cX2_mixTins 28 = .ok (.lstore_n 3, 1) := by decide +kernel
theorem dX2_mixTins_29 : decode cX2_mixTins 29 = .ok (.lload_n 3, 1) := by decide +kernel
theorem dX2_mixTins_30 : decode cX2_mixTins 30 = .ok (.aload_n 0, 1) := by decide +kernel
theorem dX2_mixTins_31 : decode cX2_mixTins 31 = .ok (.iload 5, 2) := by decide +kernel
theorem dX2_mixTins_33 : decode cX2_mixTins 33 = .ok (.invokevirtual 226, 3) := by decide +kernel
theorem dX2_mixTins_36 : decode cX2_mixTins 36 = .ok (.i2l, 1) := by decide +kernel
theorem dX2_mixTins_37 : decode cX2_mixTins 37 = .ok (.invokestatic 164, 3) := by decide +kernel
theorem dX2_mixTins_40 : decode cX2_mixTins 40 = .ok (.lstore_n 3, 1) := by decide +kernel
theorem dX2_mixTins_41 : decode cX2_mixTins 41 = .ok (.lload_n 3, 1) := by decide +kernel
theorem dX2_mixTins_42 : decode cX2_mixTins 42 = .ok (.aload_n 0, 1) := by decide +kernel
theorem dX2_mixTins_43 : decode cX2_mixTins 43 = .ok (.iload 5, 2) := by decide +kernel
theorem dX2_mixTins_45 : decode cX2_mixTins 45 = .ok (.invokevirtual 229, 3) := by decide +kernel
theorem dX2_mixTins_48 : decode cX2_mixTins 48 = .ok (.ifCond .eq 7, 3) := by decide +kernel
theorem dX2_mixTins_51 : decode cX2_mixTins 51 = .ok (.lconst 1, 1) := by decide +kernel
theorem dX2_mixTins_52 : decode cX2_mixTins 52 = .ok (.goto 4, 3) := by decide +kernel
theorem dX2_mixTins_55 : decode cX2_mixTins 55 = .ok (.lconst 0, 1) := by decide +kernel
theorem dX2_mixTins_56 : decode cX2_mixTins 56 = .ok (.invokestatic 164, 3) := by decide +kernel
theorem dX2_mixTins_59 : decode cX2_mixTins 59 = .ok (.lstore_n 3, 1) := by decide +kernel
theorem dX2_mixTins_60 : decode cX2_mixTins 60 = .ok (.lload_n 3, 1) := by decide +kernel
theorem dX2_mixTins_61 : decode cX2_mixTins 61 = .ok (.aload_n 0, 1) := by decide +kernel
theorem dX2_mixTins_62 : decode cX2_mixTins 62 = .ok (.iload 5, 2) := by decide +kernel
theorem dX2_mixTins_64 : decode cX2_mixTins 64 = .ok (.iconst 1, 1) := by decide +kernel
theorem dX2_mixTins_65 : decode cX2_mixTins 65 = .ok (.invokevirtual 232, 3) := by decide +kernel
theorem dX2_mixTins_68 : decode cX2_mixTins 68 = .ok (.i2l, 1) := by decide +kernel
theorem dX2_mixTins_69 : decode cX2_mixTins 69 = .ok (.invokestatic 164, 3) := by decide +kernel
theorem dX2_mixTins_72 : decode cX2_mixTins 72 = .ok (.lstore_n 3, 1) := by decide +kernel
theorem dX2_mixTins_73 : decode cX2_mixTins 73 = .ok (.lload_n 3, 1) := by decide +kernel
theorem dX2_mixTins_74 : decode cX2_mixTins 74 = .ok (.aload_n 0, 1) := by decide +kernel
theorem dX2_mixTins_75 : decode cX2_mixTins 75 = .ok (.iload 5, 2) := by decide +kernel
theorem dX2_mixTins_77 : decode cX2_mixTins 77 = .ok (.invokevirtual 235, 3) := by decide +kernel
theorem dX2_mixTins_80 : decode cX2_mixTins 80 = .ok (.i2l, 1) := by decide +kernel
theorem dX2_mixTins_81 : decode cX2_mixTins 81 = .ok (.invokestatic 164, 3) := by decide +kernel
theorem dX2_mixTins_84 : decode cX2_mixTins 84 = .ok (.lstore_n 3, 1) := by decide +kernel
theorem dX2_mixTins_85 : decode cX2_mixTins 85 = .ok (.lload_n 3, 1) := by decide +kernel
theorem dX2_mixTins_86 : decode cX2_mixTins 86 = .ok (.aload_n 0, 1) := by decide +kernel
theorem dX2_mixTins_87 : decode cX2_mixTins 87 = .ok (.iload 5, 2) := by decide +kernel
theorem dX2_mixTins_89 : decode cX2_mixTins 89 = .ok (.invokevirtual 238, 3) := by decide +kernel
theorem dX2_mixTins_92 : decode cX2_mixTins 92 = .ok (.i2l, 1) := by decide +kernel
theorem dX2_mixTins_93 : decode cX2_mixTins 93 = .ok (.invokestatic 164, 3) := by decide +kernel
theorem dX2_mixTins_96 : decode cX2_mixTins 96 = .ok (.lstore_n 3, 1) := by decide +kernel
theorem dX2_mixTins_97 : decode cX2_mixTins 97 = .ok (.iinc 5 1, 3) := by decide +kernel
theorem dX2_mixTins_100 : decode cX2_mixTins 100 = .ok (.goto (-95), 3) := by decide +kernel
theorem dX2_mixTins_103 : decode cX2_mixTins 103 = .ok (.lload_n 3, 1) := by decide +kernel
theorem dX2_mixTins_104 : decode cX2_mixTins 104 = .ok (.lreturn, 1) := by decide +kernel
theorem dX2_mix_0 : decode cX2_mix 0 = .ok (.lload_n 0, 1) := by decide +kernel
theorem dX2_mix_1 : decode cX2_mix 1 = .ok (.ldc2_w 241, 3) := by decide +kernel
theorem dX2_mix_4 : decode cX2_mix 4 = .ok (.lmul, 1) := by decide +kernel
theorem dX2_mix_5 : decode cX2_mix 5 = .ok (.lload_n 2, 1) := by decide +kernel
theorem dX2_mix_6 : decode cX2_mix 6 = .ok (.ladd, 1) := by decide +kernel
theorem dX2_mix_7 : decode cX2_mix 7 = .ok (.lreturn, 1) := by decide +kernel
set_option maxRecDepth 20000 in
theorem ggX2_lossBy_X1_copyFrom : GoodIn wsX2_lossBy wsX1_copyFrom := goodIn_r _ [7, 8, 9, 10, 11, 12, 13, 14, 15, 16, 17, 18, 19, 20, 21, 22, 23, 24, 25, 26, 27, 28, 29, 30, 31, 91, 92, 93, 94, 95, 96, 97, 98, 99, 100, 101, 102, 103, 104, 105] (by decide +kernel) (by decide +kernel)
set_option maxRecDepth 20000 in
theorem gX2_lossBy_X1_copyFrom : GoodIn wsX2_lossBy (wsV RX2 145 RX1 yX1_copyFrom wsX1_copyFrom) := goodIn_app (goodIn_of _ (by decide +kernel)) ggX2_lossBy_X1_copyFrom
set_option maxRecDepth 20000 in
theorem ggX2_lossBy_X1_passDay : GoodIn wsX2_lossBy wsX1_passDay := goodIn_r _ [35, 19, 20, 21, 36, 37, 38, 6, 39, 18, 16, 15, 40, 41, 42, 43, 44, 45, 46, 47, 17, 48, 29, 30, 25, 31, 27, 49, 50, 51, 52, 10, 14, 8, 53, 54, 55, 56, 57, 58, 59, 60, 11, 61, 62, 63, 64, 13, 65, 66, 67, 68, 12, 69, 70, 71, 72, 73, 74, 75, 76, 77, 78, 79, 80, 81, 82, 83, 84, 91, 92, 93, 94, 95, 96, 97, 98, 99, 100, 101, 102, 103, 104, 105] (by decide +kernel) (by decide +kernel)
set_option maxRecDepth 20000 in
theorem gX2_lossBy_X1_passDay : GoodIn wsX2_lossBy (wsV RX2 111 RX1 yX1_passDay wsX1_passDay) := goodIn_app (goodIn_of _ (by decide +kernel)) ggX2_lossBy_X1_passDay
set_option maxRecDepth 20000 in
theorem ggX2_lossBy_X1_countAt : GoodIn wsX2_lossBy wsX1_countAt := goodIn_r _ [88, 18, 17, 48, 29, 30, 25, 31, 27, 91, 92, 93, 94, 95, 96, 97, 98, 99, 100, 101, 102, 103, 104, 105] (by decide +kernel) (by decide +kernel)
set_option maxRecDepth 20000 in
theorem gX2_lossBy_X1_countAt : GoodIn wsX2_lossBy (wsV RX2 108 RX1 yX1_countAt wsX1_countAt) := goodIn_app (goodIn_of _ (by decide +kernel)) ggX2_lossBy_X1_countAt
theorem dX2_lossBy_0 : decode cX2_lossBy 0 = .ok (.aload_n 0, 1) := by decide +kernel
theorem dX2_lossBy_1 : decode cX2_lossBy 1 = .ok (.getfield 16, 3) := by decide +kernel
theorem dX2_lossBy_4 : decode cX2_lossBy 4 = .ok (.aload_n 0, 1) := by decide +kernel
theorem dX2_lossBy_5 : decode cX2_lossBy 5 = .ok (.getfield 10, 3) := by decide +kernel
theorem dX2_lossBy_8 : decode cX2_lossBy 8 = .ok (.invokevirtual 145, 3) := by decide +kernel
theorem dX2_lossBy_11 : decode cX2_lossBy 11 = .ok (.aload_n 0, 1) := by decide +kernel
theorem dX2_lossBy_12 : decode cX2_lossBy 12 = .ok (.getfield 16, 3) := by decide +kernel
theorem dX2_lossBy_15 : decode cX2_lossBy 15 = .ok (.iload_n 1, 1) := by decide +kernel
theorem dX2_lossBy_16 : decode cX2_lossBy 16 = .ok (.putfield 95, 3) := by decide +kernel
theorem dX2_lossBy_19 : decode cX2_lossBy 19 = .ok (.aload_n 0, 1) := by decide +kernel
theorem dX2_lossBy_20 : decode cX2_lossBy 20 = .ok (.getfield 16, 3) := by decide +kernel
theorem dX2_lossBy_23 : decode cX2_lossBy 23 = .ok (.iload_n 2, 1) := by decide +kernel
theorem dX2_lossBy_24 : decode cX2_lossBy 24 = .ok (.putfield 98, 3) := by decide +kernel
theorem dX2_lossBy_27 : decode cX2_lossBy 27 = .ok (.iconst 0, 1) := by decide +kernel
theorem dX2_lossBy_28 : decode cX2_lossBy 28 = .ok (.istore_n 3, 1) := by decide +kernel
theorem dX2_lossBy_29 : decode cX2_lossBy 29 = .ok (.iload_n 3, 1) := by decide +kernel
theorem dX2_lossBy_30 : decode cX2_lossBy 30 = .ok (.bipush 30, 2) := by decide +kernel
theorem dX2_lossBy_32 : decode cX2_lossBy 32 = .ok (.if_icmp .ge 16, 3) := by decide +kernel
theorem dX2_lossBy_35 : decode cX2_lossBy 35 = .ok (.aload_n 0, 1) := by decide +kernel
theorem dX2_lossBy_36 : decode cX2_lossBy 36 = .ok (.getfield 16, 3) := by decide +kernel
theorem dX2_lossBy_39 : decode cX2_lossBy 39 = .ok (.invokevirtual 111, 3) := by decide +kernel
theorem dX2_lossBy_42 : decode cX2_lossBy 42 = .ok (.iinc 3 1, 3) := by decide +kernel
theorem dX2_lossBy_45 : decode cX2_lossBy 45 = .ok (.goto (-16), 3) := by decide +kernel
theorem dX2_lossBy_48 : decode cX2_lossBy 48 = .ok (.aload_n 0, 1) := by decide +kernel
theorem dX2_lossBy_49 : decode cX2_lossBy 49 = .ok (.getfield 16, 3) := by decide +kernel
theorem dX2_lossBy_52 : decode cX2_lossBy 52 = .ok (.iconst 3, 1) := by decide +kernel
theorem dX2_lossBy_53 : decode cX2_lossBy 53 = .ok (.invokevirtual 108, 3) := by decide +kernel
theorem dX2_lossBy_56 : decode cX2_lossBy 56 = .ok (.aload_n 0, 1) := by decide +kernel
theorem dX2_lossBy_57 : decode cX2_lossBy 57 = .ok (.getfield 10, 3) := by decide +kernel
theorem dX2_lossBy_60 : decode cX2_lossBy 60 = .ok (.iconst 3, 1) := by decide +kernel
theorem dX2_lossBy_61 : decode cX2_lossBy 61 = .ok (.invokevirtual 108, 3) := by decide +kernel
theorem dX2_lossBy_64 : decode cX2_lossBy 64 = .ok (.isub, 1) := by decide +kernel
theorem dX2_lossBy_65 : decode cX2_lossBy 65 = .ok (.ireturn, 1) := by decide +kernel
theorem dX2_isLater_0 : decode cX2_isLater 0 = .ok (.iload_n 1, 1) := by decide +kernel
theorem dX2_isLater_1 : decode cX2_isLater 1 = .ok (.iconst (-1), 1) := by decide +kernel
theorem dX2_isLater_2 : decode cX2_isLater 2 = .ok (.if_icmp .eq 17, 3) := by decide +kernel
theorem dX2_isLater_5 : decode cX2_isLater 5 = .ok (.iload_n 0, 1) := by decide +kernel
theorem dX2_isLater_6 : decode cX2_isLater 6 = .ok (.iconst (-1), 1) := by decide +kernel
theorem dX2_isLater_7 : decode cX2_isLater 7 = .ok (.if_icmp .eq 8, 3) := by decide +kernel
theorem dX2_isLater_10 : decode cX2_isLater 10 = .ok (.iload_n 0, 1) := by decide +kernel
theorem dX2_isLater_11 : decode cX2_isLater 11 = .ok (.iload_n 1, 1) := by decide +kernel
theorem dX2_isLater_12 : decode cX2_isLater 12 = .ok (.if_icmp .le 7, 3) := by decide +kernel
theorem dX2_isLater_15 : decode cX2_isLater 15 = .ok (.iconst 1, 1) := by decide +kernel
theorem dX2_isLater_16 : decode cX2_isLater 16 = .ok (.goto 4, 3) := by decide +kernel
theorem dX2_isLater_19 : decode cX2_isLater 19 = .ok (.iconst 0, 1) := by decide +kernel
theorem dX2_isLater_20 : decode cX2_isLater 20 = .ok (.ireturn, 1) := by decide +kernel
theorem dX2_isWithin_0 : decode cX2_isWithin 0 = .ok (.iload_n 0, 1) := by decide +kernel
theorem dX2_isWithin_1 : decode cX2_isWithin 1 = .ok (.iload_n 1, 1) := by decide +kernel
theorem dX2_isWithin_2 : decode cX2_isWithin 2 = .ok (.if_icmp .lt 12, 3) := by decide +kernel
theorem dX2_isWithin_5 : decode cX2_isWithin 5 = .ok (.iload_n 0, 1) := by decide +kernel
theorem dX2_isWithin_6 : decode cX2_isWithin 6 = .ok (.iload_n 2, 1) := by decide +kernel
theorem dX2_isWithin_7 : decode cX2_isWithin 7 = .ok (.if_icmp .gt 7, 3) := by decide +kernel
theorem dX2_isWithin_10 : decode cX2_isWithin 10 = .ok (.iconst 1, 1) := by decide +kernel
theorem dX2_isWithin_11 : decode cX2_isWithin 11 = .ok (.goto 4, 3) := by decide +kernel
theorem dX2_isWithin_14 : decode cX2_isWithin 14 = .ok (.iconst 0, 1) := by decide +kernel
theorem dX2_isWithin_15 : decode cX2_isWithin 15 = .ok (.ireturn, 1) := by decide +kernel
set_option maxRecDepth 20000 in
theorem ggX2_needShelf_X2_isWithin : GoodIn wsX2_needShelf wsX2_isWithin := goodIn_r _ [6] (by decide +kernel) (by decide +kernel)
set_option maxRecDepth 20000 in
theorem gX2_needShelf_X2_isWithin : GoodIn wsX2_needShelf (va_wsS RX2 19 yX2_isWithin wsX2_isWithin) := goodIn_app (goodIn_of _ (by decide +kernel)) ggX2_needShelf_X2_isWithin
theorem dX2_needShelf_0 : decode cX2_needShelf 0 = .ok (.iload_n 0, 1) := by decide +kernel
theorem dX2_needShelf_1 : decode cX2_needShelf 1 = .ok (.iconst 0, 1) := by decide +kernel
theorem dX2_needShelf_2 : decode cX2_needShelf 2 = .ok (.iconst 3, 1) := by decide +kernel
theorem dX2_needShelf_3 : decode cX2_needShelf 3 = .ok (.invokestatic 19, 3) := by decide +kernel
theorem dX2_needShelf_6 : decode cX2_needShelf 6 = .ok (.ifCond .ne 13, 3) := by decide +kernel
theorem dX2_needShelf_9 : decode cX2_needShelf 9 = .ok (.new 243, 3) := by decide +kernel
theorem dX2_needShelf_12 : decode cX2_needShelf 12 = .ok (.dup, 1) := by decide +kernel
theorem dX2_needShelf_13 : decode cX2_needShelf 13 = .ok (.ldc 245, 2) := by decide +kernel
theorem dX2_needShelf_15 : decode cX2_needShelf 15 = .ok (.invokespecial 247, 3) := by decide +kernel
theorem dX2_needShelf_18 : decode cX2_needShelf 18 = .ok (.athrow, 1) := by decide +kernel
theorem dX2_needShelf_19 : decode cX2_needShelf 19 = .ok (.return_, 1) := by decide +kernel
set_option maxRecDepth 20000 in
theorem ggX2_needBatch_X2_isWithin : GoodIn wsX2_needBatch wsX2_isWithin := goodIn_r _ [7] (by decide +kernel) (by decide +kernel)
set_option maxRecDepth 20000 in
theorem gX2_needBatch_X2_isWithin : GoodIn wsX2_needBatch (va_wsS RX2 19 yX2_isWithin wsX2_isWithin) := goodIn_app (goodIn_of _ (by decide +kernel)) ggX2_needBatch_X2_isWithin
theorem dX2_needBatch_0 : decode cX2_needBatch 0 = .ok (.iload_n 1, 1) := by decide +kernel
theorem dX2_needBatch_1 : decode cX2_needBatch 1 = .ok (.iconst 0, 1) := by decide +kernel
theorem dX2_needBatch_2 : decode cX2_needBatch 2 = .ok (.aload_n 0, 1) := by decide +kernel
theorem dX2_needBatch_3 : decode cX2_needBatch 3 = .ok (.getfield 10, 3) := by decide +kernel
theorem dX2_needBatch_6 : decode cX2_needBatch 6 = .ok (.getfield 30, 3) := by decide +kernel
theorem dX2_needBatch_9 : decode cX2_needBatch 9 = .ok (.iconst 1, 1) := by decide +kernel
theorem dX2_needBatch_10 : decode cX2_needBatch 10 = .ok (.isub, 1) := by decide +kernel
theorem dX2_needBatch_11 : decode cX2_needBatch 11 = .ok (.invokestatic 19, 3) := by decide +kernel
theorem dX2_needBatch_14 : decode cX2_needBatch 14 = .ok (.ifCond .ne 13, 3) := by decide +kernel
theorem dX2_needBatch_17 : decode cX2_needBatch 17 = .ok (.new 243, 3) := by decide +kernel
theorem dX2_needBatch_20 : decode cX2_needBatch 20 = .ok (.dup, 1) := by decide +kernel
theorem dX2_needBatch_21 : decode cX2_needBatch 21 = .ok (.ldc 248, 2) := by decide +kernel
theorem dX2_needBatch_23 : decode cX2_needBatch 23 = .ok (.invokespecial 247, 3) := by decide +kernel
theorem dX2_needBatch_26 : decode cX2_needBatch 26 = .ok (.athrow, 1) := by decide +kernel
theorem dX2_needBatch_27 : decode cX2_needBatch 27 = .ok (.return_, 1) := by decide +kernel
set_option maxRecDepth 20000 in
theorem ggX2_needTin_X2_isWithin : GoodIn wsX2_needTin wsX2_isWithin := goodIn_r _ [7] (by decide +kernel) (by decide +kernel)
set_option maxRecDepth 20000 in
theorem gX2_needTin_X2_isWithin : GoodIn wsX2_needTin (va_wsS RX2 19 yX2_isWithin wsX2_isWithin) := goodIn_app (goodIn_of _ (by decide +kernel)) ggX2_needTin_X2_isWithin
theorem dX2_needTin_0 : decode cX2_needTin 0 = .ok (.iload_n 1, 1) := by decide +kernel
theorem dX2_needTin_1 : decode cX2_needTin 1 = .ok (.iconst 0, 1) := by decide +kernel
theorem dX2_needTin_2 : decode cX2_needTin 2 = .ok (.aload_n 0, 1) := by decide +kernel
theorem dX2_needTin_3 : decode cX2_needTin 3 = .ok (.getfield 10, 3) := by decide +kernel
theorem dX2_needTin_6 : decode cX2_needTin 6 = .ok (.getfield 52, 3) := by decide +kernel
theorem dX2_needTin_9 : decode cX2_needTin 9 = .ok (.iconst 1, 1) := by decide +kernel
theorem dX2_needTin_10 : decode cX2_needTin 10 = .ok (.isub, 1) := by decide +kernel
theorem dX2_needTin_11 : decode cX2_needTin 11 = .ok (.invokestatic 19, 3) := by decide +kernel
theorem dX2_needTin_14 : decode cX2_needTin 14 = .ok (.ifCond .ne 13, 3) := by decide +kernel
theorem dX2_needTin_17 : decode cX2_needTin 17 = .ok (.new 243, 3) := by decide +kernel
theorem dX2_needTin_20 : decode cX2_needTin 20 = .ok (.dup, 1) := by decide +kernel
theorem dX2_needTin_21 : decode cX2_needTin 21 = .ok (.ldc 250, 2) := by decide +kernel
theorem dX2_needTin_23 : decode cX2_needTin 23 = .ok (.invokespecial 247, 3) := by decide +kernel
theorem dX2_needTin_26 : decode cX2_needTin 26 = .ok (.athrow, 1) := by decide +kernel
theorem dX2_needTin_27 : decode cX2_needTin 27 = .ok (.return_, 1) := by decide +kernel
set_option maxRecDepth 20000 in
theorem ggX2_needOrder_X2_isWithin : GoodIn wsX2_needOrder wsX2_isWithin := goodIn_r _ [6] (by decide +kernel) (by decide +kernel)
set_option maxRecDepth 20000 in
theorem gX2_needOrder_X2_isWithin : GoodIn wsX2_needOrder (va_wsS RX2 19 yX2_isWithin wsX2_isWithin) := goodIn_app (goodIn_of _ (by decide +kernel)) ggX2_needOrder_X2_isWithin
theorem dX2_needOrder_0 : decode cX2_needOrder 0 = .ok (.iload_n 0, 1) := by decide +kernel
theorem dX2_needOrder_1 : decode cX2_needOrder 1 = .ok (.iconst 0, 1) := by decide +kernel
theorem dX2_needOrder_2 : decode cX2_needOrder 2 = .ok (.iconst 2, 1) := by decide +kernel
theorem dX2_needOrder_3 : decode cX2_needOrder 3 = .ok (.invokestatic 19, 3) := by decide +kernel
theorem dX2_needOrder_6 : decode cX2_needOrder 6 = .ok (.ifCond .ne 13, 3) := by decide +kernel
theorem dX2_needOrder_9 : decode cX2_needOrder 9 = .ok (.new 23, 3) := by decide +kernel
theorem dX2_needOrder_12 : decode cX2_needOrder 12 = .ok (.dup, 1) := by decide +kernel
theorem dX2_needOrder_13 : decode cX2_needOrder 13 = .ok (.ldc 252, 2) := by decide +kernel
theorem dX2_needOrder_15 : decode cX2_needOrder 15 = .ok (.invokespecial 27, 3) := by decide +kernel
theorem dX2_needOrder_18 : decode cX2_needOrder 18 = .ok (.athrow, 1) := by decide +kernel
theorem dX2_needOrder_19 : decode cX2_needOrder 19 = .ok (.return_, 1) := by decide +kernel
set_option maxRecDepth 20000 in
theorem ggX2_needShipping_X2_isWithin : GoodIn wsX2_needShipping wsX2_isWithin := goodIn_r _ [6] (by decide +kernel) (by decide +kernel)
set_option maxRecDepth 20000 in
theorem gX2_needShipping_X2_isWithin : GoodIn wsX2_needShipping (va_wsS RX2 19 yX2_isWithin wsX2_isWithin) := goodIn_app (goodIn_of _ (by decide +kernel)) ggX2_needShipping_X2_isWithin
set_option maxRecDepth 20000 in
theorem ggX2_needShipping_X2_needOrder : GoodIn wsX2_needShipping wsX2_needOrder := goodIn_ca (goodIn_r _ [9, 1, 2, 3, 4, 5, 6] (by decide +kernel) (by decide +kernel)) (goodIn_sub (fun _ h => List.mem_cons_of_mem _ (List.mem_append_right _ h)) (by decide +kernel))
set_option maxRecDepth 20000 in
theorem gX2_needShipping_X2_needOrder : GoodIn wsX2_needShipping (va_wsS RX2 133 yX2_needOrder wsX2_needOrder) := goodIn_app (goodIn_of _ (by decide +kernel)) ggX2_needShipping_X2_needOrder
theorem dX2_needShipping_0 : decode cX2_needShipping 0 = .ok (.iload_n 0, 1) := by decide +kernel
theorem dX2_needShipping_1 : decode cX2_needShipping 1 = .ok (.iconst 0, 1) := by decide +kernel
theorem dX2_needShipping_2 : decode cX2_needShipping 2 = .ok (.bipush 9, 2) := by decide +kernel
theorem dX2_needShipping_4 : decode cX2_needShipping 4 = .ok (.invokestatic 19, 3) := by decide +kernel
theorem dX2_needShipping_7 : decode cX2_needShipping 7 = .ok (.ifCond .ne 13, 3) := by decide +kernel
theorem dX2_needShipping_10 : decode cX2_needShipping 10 = .ok (.new 23, 3) := by decide +kernel
theorem dX2_needShipping_13 : decode cX2_needShipping 13 = .ok (.dup, 1) := by decide +kernel
theorem dX2_needShipping_14 : decode cX2_needShipping 14 = .ok (.ldc 254, 2) := by decide +kernel
theorem dX2_needShipping_16 : decode cX2_needShipping 16 = .ok (.invokespecial 27, 3) := by decide +kernel
theorem dX2_needShipping_19 : decode cX2_needShipping 19 = .ok (.athrow, 1) := by decide +kernel
theorem dX2_needShipping_20 : decode cX2_needShipping 20 = .ok (.iload_n 1, 1) := by decide +kernel
theorem dX2_needShipping_21 : decode cX2_needShipping 21 = .ok (.invokestatic 133, 3) := by decide +kernel
theorem dX2_needShipping_24 : decode cX2_needShipping 24 = .ok (.return_, 1) := by decide +kernel
