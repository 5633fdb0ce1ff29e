theorem dX5_init_0 : decode cX5_init 0 = .ok (.aload_n 0, 1) := by decide +kernel
theorem dX5_init_1 : decode cX5_init 1 = .ok (.invokespecial 1, 3) := by decide +kernel
theorem dX5_init_4 : decode cX5_init 4 = .ok (.aload_n 0, 1) := by decide +kernel
theorem dX5_init_5 : decode cX5_init 5 = .ok (.sipush 1003, 3) := by decide +kernel
theorem dX5_init_8 : decode cX5_init 8 = .ok (.newarray .int, 2) := by decide +kernel
theorem dX5_init_10 : decode cX5_init 10 = .ok (.putfield 7, 3) := by decide +kernel
theorem dX5_init_13 : decode cX5_init 13 = .ok (.aload_n 0, 1) := by decide +kernel
theorem dX5_init_14 : decode cX5_init 14 = .ok (.sipush 4012, 3) := by decide +kernel
theorem dX5_init_17 : decode cX5_init 17 = .ok (.newarray .int, 2) := by decide +kernel
theorem dX5_init_19 : decode cX5_init 19 = .ok (.putfield 13, 3) := by decide +kernel
theorem dX5_init_22 : decode cX5_init 22 = .ok (.aload_n 0, 1) := by decide +kernel
theorem dX5_init_23 : decode cX5_init 23 = .ok (.sipush 1003, 3) := by decide +kernel
theorem dX5_init_26 : decode cX5_init 26 = .ok (.newarray .int, 2) := by decide +kernel
theorem dX5_init_28 : decode cX5_init 28 = .ok (.putfield 16, 3) := by decide +kernel
theorem dX5_init_31 : decode cX5_init 31 = .ok (.aload_n 0, 1) := by decide +kernel
theorem dX5_init_32 : decode cX5_init 32 = .ok (.bipush 100, 2) := by decide +kernel
theorem dX5_init_34 : decode cX5_init 34 = .ok (.newarray .int, 2) := by decide +kernel
theorem dX5_init_36 : decode cX5_init 36 = .ok (.putfield 19, 3) := by decide +kernel
theorem dX5_init_39 : decode cX5_init 39 = .ok (.aload_n 0, 1) := by decide +kernel
theorem dX5_init_40 : decode cX5_init 40 = .ok (.sipush 256, 3) := by decide +kernel
theorem dX5_init_43 : decode cX5_init 43 = .ok (.newarray .int, 2) := by decide +kernel
theorem dX5_init_45 : decode cX5_init 45 = .ok (.putfield 22, 3) := by decide +kernel
theorem dX5_init_48 : decode cX5_init 48 = .ok (.aload_n 0, 1) := by decide +kernel
theorem dX5_init_49 : decode cX5_init 49 = .ok (.bipush 100, 2) := by decide +kernel
theorem dX5_init_51 : decode cX5_init 51 = .ok (.newarray .int, 2) := by decide +kernel
theorem dX5_init_53 : decode cX5_init 53 = .ok (.putfield 25, 3) := by decide +kernel
theorem dX5_init_56 : decode cX5_init 56 = .ok (.aload_n 0, 1) := by decide +kernel
theorem dX5_init_57 : decode cX5_init 57 = .ok (.bipush 40, 2) := by decide +kernel
theorem dX5_init_59 : decode cX5_init 59 = .ok (.newarray .int, 2) := by decide +kernel
theorem dX5_init_61 : decode cX5_init 61 = .ok (.putfield 28, 3) := by decide +kernel
theorem dX5_init_64 : decode cX5_init 64 = .ok (.aload_n 0, 1) := by decide +kernel
theorem dX5_init_65 : decode cX5_init 65 = .ok (.bipush 50, 2) := by decide +kernel
theorem dX5_init_67 : decode cX5_init 67 = .ok (.newarray .int, 2) := by decide +kernel
theorem dX5_init_69 : decode cX5_init 69 = .ok (.putfield 31, 3) := by decide +kernel
theorem dX5_init_72 : decode cX5_init 72 = .ok (.aload_n 0, 1) := by decide +kernel
theorem dX5_init_73 : decode cX5_init 73 = .ok (.bipush 50, 2) := by decide +kernel
theorem dX5_init_75 : decode cX5_init 75 = .ok (.newarray .int, 2) := by decide +kernel
theorem dX5_init_77 : decode cX5_init 77 = .ok (.putfield 34, 3) := by decide +kernel
theorem dX5_init_80 : decode cX5_init 80 = .ok (.aload_n 0, 1) := by decide +kernel
theorem dX5_init_81 : decode cX5_init 81 = .ok (.getfield 7, 3) := by decide +kernel
theorem dX5_init_84 : decode cX5_init 84 = .ok (.iconst 0, 1) := by decide +kernel
theorem dX5_init_85 : decode cX5_init 85 = .ok (.iconst 3, 1) := by decide +kernel
theorem dX5_init_86 : decode cX5_init 86 = .ok (.iastore, 1) := by decide +kernel
theorem dX5_init_87 : decode cX5_init 87 = .ok (.aload_n 0, 1) := by decide +kernel
theorem dX5_init_88 : decode cX5_init 88 = .ok (.getfield 7, 3) := by decide +kernel
theorem dX5_init_91 : decode cX5_init 91 = .ok (.iconst 1, 1) := by decide +kernel
theorem dX5_init_92 : decode cX5_init 92 = .ok (.iconst 3, 1) := by decide +kernel
theorem dX5_init_93 : decode cX5_init 93 = .ok (.iastore, 1) := by decide +kernel
theorem dX5_init_94 : decode cX5_init 94 = .ok (.aload_n 0, 1) := by decide +kernel
theorem dX5_init_95 : decode cX5_init 95 = .ok (.getfield 7, 3) := by decide +kernel
theorem dX5_init_98 : decode cX5_init 98 = .ok (.iconst 2, 1) := by decide +kernel
theorem dX5_init_99 : decode cX5_init 99 = .ok (.iconst 1, 1) := by decide +kernel
theorem dX5_init_100 : decode cX5_init 100 = .ok (.iastore, 1) := by decide +kernel
theorem dX5_init_101 : decode cX5_init 101 = .ok (.aload_n 0, 1) := by decide +kernel
theorem dX5_init_102 : decode cX5_init 102 = .ok (.iconst 0, 1) := by decide +kernel
theorem dX5_init_103 : decode cX5_init 103 = .ok (.iconst 0, 1) := by decide +kernel
theorem dX5_init_104 : decode cX5_init 104 = .ok (.iconst (-1), 1) := by decide +kernel
theorem dX5_init_105 : decode cX5_init 105 = .ok (.invokevirtual 37, 3) := by decide +kernel
theorem dX5_init_108 : decode cX5_init 108 = .ok (.aload_n 0, 1) := by decide +kernel
theorem dX5_init_109 : decode cX5_init 109 = .ok (.iconst 0, 1) := by decide +kernel
theorem dX5_init_110 : decode cX5_init 110 = .ok (.iconst 4, 1) := by decide +kernel
theorem dX5_init_111 : decode cX5_init 111 = .ok (.iconst (-1), 1) := by decide +kernel
theorem dX5_init_112 : decode cX5_init 112 = .ok (.invokevirtual 37, 3) := by decide +kernel
theorem dX5_init_115 : decode cX5_init 115 = .ok (.aload_n 0, 1) := by decide +kernel
theorem dX5_init_116 : decode cX5_init 116 = .ok (.iconst 0, 1) := by decide +kernel
theorem dX5_init_117 : decode cX5_init 117 = .ok (.bipush 7, 2) := by decide +kernel
theorem dX5_init_119 : decode cX5_init 119 = .ok (.iconst (-1), 1) := by decide +kernel
theorem dX5_init_120 : decode cX5_init 120 = .ok (.invokevirtual 37, 3) := by decide +kernel
theorem dX5_init_123 : decode cX5_init 123 = .ok (.return_, 1) := by decide +kernel
theorem dX5_thrown_0 : decode cX5_thrown 0 = .ok (.aload_n 0, 1) := by decide +kernel
theorem dX5_thrown_1 : decode cX5_thrown 1 = .ok (.getfield 41, 3) := by decide +kernel
theorem dX5_thrown_4 : decode cX5_thrown 4 = .ok (.ireturn, 1) := by decide +kernel
theorem dX5_in_0 : decode cX5_in 0 = .ok (.iload_n 0, 1) := by decide +kernel
theorem dX5_in_1 : decode cX5_in 1 = .ok (.iload_n 1, 1) := by decide +kernel
theorem dX5_in_2 : decode cX5_in 2 = .ok (.if_icmp .lt 12, 3) := by decide +kernel
theorem dX5_in_5 : decode cX5_in 5 = .ok (.iload_n 0, 1) := by decide +kernel
theorem dX5_in_6 : decode cX5_in 6 = .ok (.iload_n 2, 1) := by decide +kernel
theorem dX5_in_7 : decode cX5_in 7 = .ok (.if_icmp .gt 7, 3) := by decide +kernel
theorem dX5_in_10 : decode cX5_in 10 = .ok (.iconst 1, 1) := by decide +kernel
theorem dX5_in_11 : decode cX5_in 11 = .ok (.goto 4, 3) := by decide +kernel
theorem dX5_in_14 : decode cX5_in 14 = .ok (.iconst 0, 1) := by decide +kernel
theorem dX5_in_15 : decode cX5_in 15 = .ok (.ireturn, 1) := by decide +kernel
theorem dX5_copies_0 : decode cX5_copies 0 = .ok (.iconst 0, 1) := by decide +kernel
theorem dX5_copies_1 : decode cX5_copies 1 = .ok (.istore 4, 2) := by decide +kernel
theorem dX5_copies_3 : decode cX5_copies 3 = .ok (.iload 4, 2) := by decide +kernel
theorem dX5_copies_5 : decode cX5_copies 5 = .ok (.sipush 1003, 3) := by decide +kernel
theorem dX5_copies_8 : decode cX5_copies 8 = .ok (.if_icmp .ge 21, 3) := by decide +kernel
theorem dX5_copies_11 : decode cX5_copies 11 = .ok (.aload_n 2, 1) := by decide +kernel
theorem dX5_copies_12 : decode cX5_copies 12 = .ok (.iload_n 3, 1) := by decide +kernel
theorem dX5_copies_13 : decode cX5_copies 13 = .ok (.iload 4, 2) := by decide +kernel
theorem dX5_copies_15 : decode cX5_copies 15 = .ok (.iadd, 1) := by decide +kernel
theorem dX5_copies_16 : decode cX5_copies 16 = .ok (.aload_n 0, 1) := by decide +kernel
theorem dX5_copies_17 : decode cX5_copies 17 = .ok (.iload_n 1, 1) := by decide +kernel
theorem dX5_copies_18 : decode cX5_copies 18 = .ok (.iload 4, 2) := by decide +kernel
theorem dX5_copies_20 : decode cX5_copies 20 = .ok (.iadd, 1) := by decide +kernel
theorem dX5_copies_21 : decode cX5_copies 21 = .ok (.iaload, 1) := by decide +kernel
theorem dX5_copies_22 : decode cX5_copies 22 = .ok (.iastore, 1) := by decide +kernel
theorem dX5_copies_23 : decode cX5_copies 23 = .ok (.iinc 4 1, 3) := by decide +kernel
theorem dX5_copies_26 : decode cX5_copies 26 = .ok (.goto (-23), 3) := by decide +kernel
theorem dX5_copies_29 : decode cX5_copies 29 = .ok (.return_, 1) := by decide +kernel
set_option maxRecDepth 20000 in
theorem ggX5_saves_X5_copies : GoodIn wsX5_saves wsX5_copies := goodIn_r _ [7] (by decide +kernel) (by decide +kernel)
set_option maxRecDepth 20000 in
theorem gX5_saves_X5_copies : GoodIn wsX5_saves (va_wsS RX5 48 yX5_copies wsX5_copies) := goodIn_app (goodIn_of _ (by decide +kernel)) ggX5_saves_X5_copies
theorem dX5_saves_0 : decode cX5_saves 0 = .ok (.aload_n 0, 1) := by decide +kernel
theorem dX5_saves_1 : decode cX5_saves 1 = .ok (.getfield 45, 3) := by decide +kernel
theorem dX5_saves_4 : decode cX5_saves 4 = .ok (.iconst 4, 1) := by decide +kernel
theorem dX5_saves_5 : decode cX5_saves 5 = .ok (.if_icmp .ne 39, 3) := by decide +kernel
theorem dX5_saves_8 : decode cX5_saves 8 = .ok (.iconst 0, 1) := by decide +kernel
theorem dX5_saves_9 : decode cX5_saves 9 = .ok (.istore_n 1, 1) := by decide +kernel
theorem dX5_saves_10 : decode cX5_saves 10 = .ok (.iload_n 1, 1) := by decide +kernel
theorem dX5_saves_11 : decode cX5_saves 11 = .ok (.sipush 3009, 3) := by decide +kernel
theorem dX5_saves_14 : decode cX5_saves 14 = .ok (.if_icmp .ge 25, 3) := by decide +kernel
theorem dX5_saves_17 : decode cX5_saves 17 = .ok (.aload_n 0, 1) := by decide +kernel
theorem dX5_saves_18 : decode cX5_saves 18 = .ok (.getfield 13, 3) := by decide +kernel
theorem dX5_saves_21 : decode cX5_saves 21 = .ok (.iload_n 1, 1) := by decide +kernel
theorem dX5_saves_22 : decode cX5_saves 22 = .ok (.aload_n 0, 1) := by decide +kernel
theorem dX5_saves_23 : decode cX5_saves 23 = .ok (.getfield 13, 3) := by decide +kernel
theorem dX5_saves_26 : decode cX5_saves 26 = .ok (.iload_n 1, 1) := by decide +kernel
theorem dX5_saves_27 : decode cX5_saves 27 = .ok (.sipush 1003, 3) := by decide +kernel
theorem dX5_saves_30 : decode cX5_saves 30 = .ok (.iadd, 1) := by decide +kernel
theorem dX5_saves_31 : decode cX5_saves 31 = .ok (.iaload, 1) := by decide +kernel
theorem dX5_saves_32 : decode cX5_saves 32 = .ok (.iastore, 1) := by decide +kernel
theorem dX5_saves_33 : decode cX5_saves 33 = .ok (.iinc 1 1, 3) := by decide +kernel
theorem dX5_saves_36 : decode cX5_saves 36 = .ok (.goto (-26), 3) := by decide +kernel
theorem dX5_saves_39 : decode cX5_saves 39 = .ok (.aload_n 0, 1) := by decide +kernel
theorem dX5_saves_40 : decode cX5_saves 40 = .ok (.iconst 3, 1) := by decide +kernel
theorem dX5_saves_41 : decode cX5_saves 41 = .ok (.putfield 45, 3) := by decide +kernel
theorem dX5_saves_44 : decode cX5_saves 44 = .ok (.aload_n 0, 1) := by decide +kernel
theorem dX5_saves_45 : decode cX5_saves 45 = .ok (.getfield 7, 3) := by decide +kernel
theorem dX5_saves_48 : decode cX5_saves 48 = .ok (.iconst 0, 1) := by decide +kernel
theorem dX5_saves_49 : decode cX5_saves 49 = .ok (.aload_n 0, 1) := by decide +kernel
theorem dX5_saves_50 : decode cX5_saves 50 = .ok (.getfield 13, 3) := by decide +kernel
theorem dX5_saves_53 : decode cX5_saves 53 = .ok (.aload_n 0, 1) := by decide +kernel
theorem dX5_saves_54 : decode cX5_saves 54 = .ok (.getfield 45, 3) := by decide +kernel
theorem dX5_saves_57 : decode cX5_saves 57 = .ok (.sipush 1003, 3) := by decide +kernel
theorem dX5_saves_60 : decode cX5_saves 60 = .ok (.imul, 1) := by decide +kernel
theorem dX5_saves_61 : decode cX5_saves 61 = .ok (.invokestatic 48, 3) := by decide +kernel
theorem dX5_saves_64 : decode cX5_saves 64 = .ok (.aload_n 0, 1) := by decide +kernel
theorem dX5_saves_65 : decode cX5_saves 65 = .ok (.dup, 1) := by decide +kernel
theorem dX5_saves_66 : decode cX5_saves 66 = .ok (.getfield 45, 3) := by decide +kernel
theorem dX5_saves_69 : decode cX5_saves 69 = .ok (.iconst 1, 1) := by decide +kernel
theorem dX5_saves_70 : decode cX5_saves 70 = .ok (.iadd, 1) := by decide +kernel
theorem dX5_saves_71 : decode cX5_saves 71 = .ok (.putfield 45, 3) := by decide +kernel
theorem dX5_saves_74 : decode cX5_saves 74 = .ok (.return_, 1) := by decide +kernel
theorem dX5_of_0 : decode cX5_of 0 = .ok (.aload_n 0, 1) := by decide +kernel
theorem dX5_of_1 : decode cX5_of 1 = .ok (.getfield 7, 3) := by decide +kernel
theorem dX5_of_4 : decode cX5_of 4 = .ok (.iconst 3, 1) := by decide +kernel
theorem dX5_of_5 : decode cX5_of 5 = .ok (.bipush 10, 2) := by decide +kernel
theorem dX5_of_7 : decode cX5_of 7 = .ok (.iload_n 1, 1) := by decide +kernel
theorem dX5_of_8 : decode cX5_of 8 = .ok (.imul, 1) := by decide +kernel
theorem dX5_of_9 : decode cX5_of 9 = .ok (.iadd, 1) := by decide +kernel
theorem dX5_of_10 : decode cX5_of 10 = .ok (.iload_n 2, 1) := by decide +kernel
theorem dX5_of_11 : decode cX5_of 11 = .ok (.iadd, 1) := by decide +kernel
theorem dX5_of_12 : decode cX5_of 12 = .ok (.iaload, 1) := by decide +kernel
theorem dX5_of_13 : decode cX5_of 13 = .ok (.ireturn, 1) := by decide +kernel
theorem dX5_lays_0 : decode cX5_lays 0 = .ok (.aload_n 0, 1) := by decide +kernel
theorem dX5_lays_1 : decode cX5_lays 1 = .ok (.getfield 7, 3) := by decide +kernel
theorem dX5_lays_4 : decode cX5_lays 4 = .ok (.iconst 3, 1) := by decide +kernel
theorem dX5_lays_5 : decode cX5_lays 5 = .ok (.bipush 10, 2) := by decide +kernel
theorem dX5_lays_7 : decode cX5_lays 7 = .ok (.iload_n 1, 1) := by decide +kernel
theorem dX5_lays_8 : decode cX5_lays 8 = .ok (.imul, 1) := by decide +kernel
theorem dX5_lays_9 : decode cX5_lays 9 = .ok (.iadd, 1) := by decide +kernel
theorem dX5_lays_10 : decode cX5_lays 10 = .ok (.iload_n 2, 1) := by decide +kernel
theorem dX5_lays_11 : decode cX5_lays 11 = .ok (.iadd, 1) := by decide +kernel
theorem dX5_lays_12 : decode cX5_lays 12 = .ok (.iload_n 3, 1) := by decide +kernel
theorem dX5_lays_13 : decode cX5_lays 13 = .ok (.iastore, 1) := by decide +kernel
theorem dX5_lays_14 : decode cX5_lays 14 = .ok (.return_, 1) := by decide +kernel
theorem dX5_adds_0 : decode cX5_adds 0 = .ok (.aload_n 0, 1) := by decide +kernel
theorem dX5_adds_1 : decode cX5_adds 1 = .ok (.getfield 7, 3) := by decide +kernel
theorem dX5_adds_4 : decode cX5_adds 4 = .ok (.iconst 3, 1) := by decide +kernel
theorem dX5_adds_5 : decode cX5_adds 5 = .ok (.bipush 10, 2) := by decide +kernel
theorem dX5_adds_7 : decode cX5_adds 7 = .ok (.iload_n 1, 1) := by decide +kernel
theorem dX5_adds_8 : decode cX5_adds 8 = .ok (.imul, 1) := by decide +kernel
theorem dX5_adds_9 : decode cX5_adds 9 = .ok (.iadd, 1) := by decide +kernel
theorem dX5_adds_10 : decode cX5_adds 10 = .ok (.iload_n 2, 1) := by decide +kernel
theorem dX5_adds_11 : decode cX5_adds 11 = .ok (.iadd, 1) := by decide +kernel
theorem dX5_adds_12 : decode cX5_adds 12 = .ok (.dup2, 1) := by decide +kernel
theorem dX5_adds_13 : decode cX5_adds 13 = .ok (.iaload, 1) := by decide +kernel
theorem dX5_adds_14 : decode cX5_adds 14 = .ok (.iload_n 3, 1) := by decide +kernel
theorem dX5_adds_15 : decode cX5_adds 15 = .ok (.iadd, 1) := by decide +kernel
theorem dX5_adds_16 : decode cX5_adds 16 = .ok (.iastore, 1) := by decide +kernel
theorem dX5_adds_17 : decode cX5_adds 17 = .ok (.return_, 1) := by decide +kernel
set_option maxRecDepth 20000 in
theorem ggX5_isVersion_X5_in : GoodIn wsX5_isVersion wsX5_in := goodIn_r _ [5] (by decide +kernel) (by decide +kernel)
set_option maxRecDepth 20000 in
theorem gX5_isVersion_X5_in : GoodIn wsX5_isVersion (va_wsS RX5 52 yX5_in wsX5_in) := goodIn_app (goodIn_of _ (by decide +kernel)) ggX5_isVersion_X5_in
theorem dX5_isVersion_0 : decode cX5_isVersion 0 = .ok (.iload_n 1, 1) := by decide +kernel
theorem dX5_isVersion_1 : decode cX5_isVersion 1 = .ok (.iconst 0, 1) := by decide +kernel
theorem dX5_isVersion_2 : decode cX5_isVersion 2 = .ok (.aload_n 0, 1) := by decide +kernel
theorem dX5_isVersion_3 : decode cX5_isVersion 3 = .ok (.getfield 7, 3) := by decide +kernel
theorem dX5_isVersion_6 : decode cX5_isVersion 6 = .ok (.iconst 2, 1) := by decide +kernel
theorem dX5_isVersion_7 : decode cX5_isVersion 7 = .ok (.iaload, 1) := by decide +kernel
theorem dX5_isVersion_8 : decode cX5_isVersion 8 = .ok (.iconst 1, 1) := by decide +kernel
theorem dX5_isVersion_9 : decode cX5_isVersion 9 = .ok (.isub, 1) := by decide +kernel
theorem dX5_isVersion_10 : decode cX5_isVersion 10 = .ok (.invokestatic 52, 3) := by decide +kernel
theorem dX5_isVersion_13 : decode cX5_isVersion 13 = .ok (.ireturn, 1) := by decide +kernel
set_option maxRecDepth 20000 in
theorem ggX5_partOf_X5_of : GoodIn wsX5_partOf wsX5_of := goodIn_r _ [5, 6, 7, 8, 9, 10, 11, 12, 13, 14, 15, 16, 17, 18, 19, 20, 21, 22] (by decide +kernel) (by decide +kernel)
set_option maxRecDepth 20000 in
theorem gX5_partOf_X5_of : GoodIn wsX5_partOf (wsV RX5 56 RX5 yX5_of wsX5_of) := goodIn_app (goodIn_of _ (by decide +kernel)) ggX5_partOf_X5_of
theorem dX5_partOf_0 : decode cX5_partOf 0 = .ok (.iload_n 2, 1) := by decide +kernel
theorem dX5_partOf_1 : decode cX5_partOf 1 = .ok (.ifCond .eq 12, 3) := by decide +kernel
theorem dX5_partOf_4 : decode cX5_partOf 4 = .ok (.aload_n 0, 1) := by decide +kernel
theorem dX5_partOf_5 : decode cX5_partOf 5 = .ok (.iload_n 1, 1) := by decide +kernel
theorem dX5_partOf_6 : decode cX5_partOf 6 = .ok (.iconst 2, 1) := by decide +kernel
theorem dX5_partOf_7 : decode cX5_partOf 7 = .ok (.invokevirtual 56, 3) := by decide +kernel
theorem dX5_partOf_10 : decode cX5_partOf 10 = .ok (.goto 16, 3) := by decide +kernel
theorem dX5_partOf_13 : decode cX5_partOf 13 = .ok (.aload_n 0, 1) := by decide +kernel
theorem dX5_partOf_14 : decode cX5_partOf 14 = .ok (.iload_n 1, 1) := by decide +kernel
theorem dX5_partOf_15 : decode cX5_partOf 15 = .ok (.iconst 1, 1) := by decide +kernel
theorem dX5_partOf_16 : decode cX5_partOf 16 = .ok (.invokevirtual 56, 3) := by decide +kernel
theorem dX5_partOf_19 : decode cX5_partOf 19 = .ok (.aload_n 0, 1) := by decide +kernel
theorem dX5_partOf_20 : decode cX5_partOf 20 = .ok (.iload_n 1, 1) := by decide +kernel
theorem dX5_partOf_21 : decode cX5_partOf 21 = .ok (.iconst 2, 1) := by decide +kernel
theorem dX5_partOf_22 : decode cX5_partOf 22 = .ok (.invokevirtual 56, 3) := by decide +kernel
theorem dX5_partOf_25 : decode cX5_partOf 25 = .ok (.isub, 1) := by decide +kernel
theorem dX5_partOf_26 : decode cX5_partOf 26 = .ok (.ireturn, 1) := by decide +kernel
set_option maxRecDepth 20000 in
theorem ggX5_laysWay_X5_of : GoodIn wsX5_laysWay wsX5_of := goodIn_r _ [6, 7, 8, 9, 10, 11, 12, 13, 14, 15, 16, 17, 18, 19, 20, 21, 22, 23] (by decide +kernel) (by decide +kernel)
set_option maxRecDepth 20000 in
theorem gX5_laysWay_X5_of : GoodIn wsX5_laysWay (wsV RX5 56 RX5 yX5_of wsX5_of) := goodIn_app (goodIn_of _ (by decide +kernel)) ggX5_laysWay_X5_of
theorem dX5_laysWay_0 : decode cX5_laysWay 0 = .ok (.aload_n 0, 1) := by decide +kernel
theorem dX5_laysWay_1 : decode cX5_laysWay 1 = .ok (.iload_n 1, 1) := by decide +kernel
theorem dX5_laysWay_2 : decode cX5_laysWay 2 = .ok (.bipush 8, 2) := by decide +kernel
theorem dX5_laysWay_4 : decode cX5_laysWay 4 = .ok (.invokevirtual 56, 3) := by decide +kernel
theorem dX5_laysWay_7 : decode cX5_laysWay 7 = .ok (.istore_n 2, 1) := by decide +kernel
theorem dX5_laysWay_8 : decode cX5_laysWay 8 = .ok (.iload_n 1, 1) := by decide +kernel
theorem dX5_laysWay_9 : decode cX5_laysWay 9 = .ok (.istore_n 3, 1) := by decide +kernel
theorem dX5_laysWay_10 : decode cX5_laysWay 10 = .ok (.iload_n 2, 1) := by decide +kernel
theorem dX5_laysWay_11 : decode cX5_laysWay 11 = .ok (.iconst 1, 1) := by decide +kernel
theorem dX5_laysWay_12 : decode cX5_laysWay 12 = .ok (.isub, 1) := by decide +kernel
theorem dX5_laysWay_13 : decode cX5_laysWay 13 = .ok (.istore 4, 2) := by decide +kernel
theorem dX5_laysWay_15 : decode cX5_laysWay 15 = .ok (.iload 4, 2) := by decide +kernel
theorem dX5_laysWay_17 : decode cX5_laysWay 17 = .ok (.ifCond .lt 24, 3) := by decide +kernel
theorem dX5_laysWay_20 : decode cX5_laysWay 20 = .ok (.aload_n 0, 1) := by decide +kernel
theorem dX5_laysWay_21 : decode cX5_laysWay 21 = .ok (.getfield 25, 3) := by decide +kernel
theorem dX5_laysWay_24 : decode cX5_laysWay 24 = .ok (.iload 4, 2) := by decide +kernel
theorem dX5_laysWay_26 : decode cX5_laysWay 26 = .ok (.iload_n 3, 1) := by decide +kernel
theorem dX5_laysWay_27 : decode cX5_laysWay 27 = .ok (.iastore, 1) := by decide +kernel
theorem dX5_laysWay_28 : decode cX5_laysWay 28 = .ok (.aload_n 0, 1) := by decide +kernel
theorem dX5_laysWay_29 : decode cX5_laysWay 29 = .ok (.iload_n 3, 1) := by decide +kernel
theorem dX5_laysWay_30 : decode cX5_laysWay 30 = .ok (.iconst 0, 1) := by decide +kernel
theorem dX5_laysWay_31 : decode cX5_laysWay 31 = .ok (.invokevirtual 56, 3) := by decide +kernel
theorem dX5_laysWay_34 : decode cX5_laysWay 34 = .ok (.istore_n 3, 1) := by decide +kernel
theorem dX5_laysWay_35 : decode cX5_laysWay 35 = .ok (.iinc 4 (-1), 3) := by decide +kernel
theorem dX5_laysWay_38 : decode cX5_laysWay 38 = .ok (.goto (-23), 3) := by decide +kernel
theorem dX5_laysWay_41 : decode cX5_laysWay 41 = .ok (.iload_n 2, 1) := by decide +kernel
theorem dX5_laysWay_42 : decode cX5_laysWay 42 = .ok (.ireturn, 1) := by decide +kernel
set_option maxRecDepth 20000 in
theorem ggX5_laysRow_X5_laysWay : GoodIn wsX5_laysRow wsX5_laysWay := goodIn_r _ [9, 3, 10, 11, 12, 8, 13, 14, 15, 16, 17, 18, 19, 20, 21, 22, 23, 24, 25, 26, 27, 28, 29, 30] (by decide +kernel) (by decide +kernel)
set_option maxRecDepth 20000 in
theorem gX5_laysRow_X5_laysWay : GoodIn wsX5_laysRow (wsV RX5 60 RX5 yX5_laysWay wsX5_laysWay) := goodIn_app (goodIn_of _ (by decide +kernel)) ggX5_laysRow_X5_laysWay
set_option maxRecDepth 20000 in
theorem ggX5_laysRow_X5_of : GoodIn wsX5_laysRow wsX5_of := goodIn_r _ [13, 14, 15, 16, 17, 18, 19, 20, 21, 22, 23, 24, 25, 26, 27, 28, 29, 30] (by decide +kernel) (by decide +kernel)
set_option maxRecDepth 20000 in
theorem gX5_laysRow_X5_of : GoodIn wsX5_laysRow (wsV RX5 56 RX5 yX5_of wsX5_of) := goodIn_app (goodIn_of _ (by decide +kernel)) ggX5_laysRow_X5_of
theorem dX5_laysRow_0 : decode cX5_laysRow 0 = .ok (.aload_n 0, 1) := by decide +kernel
theorem dX5_laysRow_1 : decode cX5_laysRow 1 = .ok (.iload_n 1, 1) := by decide +kernel
theorem dX5_laysRow_2 : decode cX5_laysRow 2 = .ok (.invokevirtual 60, 3) := by decide +kernel
theorem dX5_laysRow_5 : decode cX5_laysRow 5 = .ok (.istore_n 2, 1) := by decide +kernel
theorem dX5_laysRow_6 : decode cX5_laysRow 6 = .ok (.aload_n 0, 1) := by decide +kernel
theorem dX5_laysRow_7 : decode cX5_laysRow 7 = .ok (.sipush 128, 3) := by decide +kernel
theorem dX5_laysRow_10 : decode cX5_laysRow 10 = .ok (.putfield 64, 3) := by decide +kernel
theorem dX5_laysRow_13 : decode cX5_laysRow 13 = .ok (.aload_n 0, 1) := by decide +kernel
theorem dX5_laysRow_14 : decode cX5_laysRow 14 = .ok (.sipush 128, 3) := by decide +kernel
theorem dX5_laysRow_17 : decode cX5_laysRow 17 = .ok (.putfield 67, 3) := by decide +kernel
theorem dX5_laysRow_20 : decode cX5_laysRow 20 = .ok (.iconst 0, 1) := by decide +kernel
theorem dX5_laysRow_21 : decode cX5_laysRow 21 = .ok (.istore_n 3, 1) := by decide +kernel
theorem dX5_laysRow_22 : decode cX5_laysRow 22 = .ok (.iload_n 3, 1) := by decide +kernel
theorem dX5_laysRow_23 : decode cX5_laysRow 23 = .ok (.iload_n 2, 1) := by decide +kernel
theorem dX5_laysRow_24 : decode cX5_laysRow 24 = .ok (.if_icmp .ge 131, 3) := by decide +kernel
theorem dX5_laysRow_27 : decode cX5_laysRow 27 = .ok (.aload_n 0, 1) := by decide +kernel
theorem dX5_laysRow_28 : decode cX5_laysRow 28 = .ok (.aload_n 0, 1) := by decide +kernel
theorem dX5_laysRow_29 : decode cX5_laysRow 29 = .ok (.getfield 25, 3) := by decide +kernel
theorem dX5_laysRow_32 : decode cX5_laysRow 32 = .ok (.iload_n 3, 1) := by decide +kernel
theorem dX5_laysRow_33 : decode cX5_laysRow 33 = .ok (.iaload, 1) := by decide +kernel
theorem dX5_laysRow_34 : decode cX5_laysRow 34 = .ok (.bipush 7, 2) := by decide +kernel
theorem dX5_laysRow_36 : decode cX5_laysRow 36 = .ok (.invokevirtual 56, 3) := by decide +kernel
theorem dX5_laysRow_39 : decode cX5_laysRow 39 = .ok (.istore 4, 2) := by decide +kernel
theorem dX5_laysRow_41 : decode cX5_laysRow 41 = .ok (.iload 4, 2) := by decide +kernel
theorem dX5_laysRow_43 : decode cX5_laysRow 43 = .ok (.ifCond .ne 37, 3) := by decide +kernel
theorem dX5_laysRow_46 : decode cX5_laysRow 46 = .ok (.aload_n 0, 1) := by decide +kernel
theorem dX5_laysRow_47 : decode cX5_laysRow 47 = .ok (.dup, 1) := by decide +kernel
theorem dX5_laysRow_48 : decode cX5_laysRow 48 = .ok (.getfield 64, 3) := by decide +kernel
theorem dX5_laysRow_51 : decode cX5_laysRow 51 = .ok (.iconst 1, 1) := by decide +kernel
theorem dX5_laysRow_52 : decode cX5_laysRow 52 = .ok (.isub, 1) := by decide +kernel
theorem dX5_laysRow_53 : decode cX5_laysRow 53 = .ok (.putfield 64, 3) := by decide +kernel
theorem dX5_laysRow_56 : decode cX5_laysRow 56 = .ok (.aload_n 0, 1) := by decide +kernel
theorem dX5_laysRow_57 : decode cX5_laysRow 57 = .ok (.getfield 22, 3) := by decide +kernel
theorem dX5_laysRow_60 : decode cX5_laysRow 60 = .ok (.aload_n 0, 1) := by decide +kernel
theorem dX5_laysRow_61 : decode cX5_laysRow 61 = .ok (.getfield 64, 3) := by decide +kernel
theorem dX5_laysRow_64 : decode cX5_laysRow 64 = .ok (.aload_n 0, 1) := by decide +kernel
theorem dX5_laysRow_65 : decode cX5_laysRow 65 = .ok (.aload_n 0, 1) := by decide +kernel
theorem dX5_laysRow_66 : decode cX5_laysRow 66 = .ok (.getfield 25, 3) := by decide +kernel
theorem dX5_laysRow_69 : decode cX5_laysRow 69 = .ok (.iload_n 3, 1) := by decide +kernel
theorem dX5_laysRow_70 : decode cX5_laysRow 70 = .ok (.iaload, 1) := by decide +kernel
theorem dX5_laysRow_71 : decode cX5_laysRow 71 = .ok (.bipush 9, 2) := by decide +kernel
theorem dX5_laysRow_73 : decode cX5_laysRow 73 = .ok (.invokevirtual 56, 3) := by decide +kernel
theorem dX5_laysRow_76 : decode cX5_laysRow 76 = .ok (.iastore, 1) := by decide +kernel
theorem dX5_laysRow_77 : decode cX5_laysRow 77 = .ok (.goto 72, 3) := by decide +kernel
theorem dX5_laysRow_80 : decode cX5_laysRow 80 = .ok (.iload 4, 2) := by decide +kernel
theorem dX5_laysRow_82 : decode cX5_laysRow 82 = .ok (.iconst 1, 1) := by decide +kernel
theorem dX5_laysRow_83 : decode cX5_laysRow 83 = .ok (.if_icmp .ne 37, 3) := by decide +kernel
theorem dX5_laysRow_86 : decode cX5_laysRow 86 = .ok (.aload_n 0, 1) := by decide +kernel
theorem dX5_laysRow_87 : decode cX5_laysRow 87 = .ok (.getfield 22, 3) := by decide +kernel
theorem dX5_laysRow_90 : decode cX5_laysRow 90 = .ok (.aload_n 0, 1) := by decide +kernel
theorem dX5_laysRow_91 : decode cX5_laysRow 91 = .ok (.getfield 67, 3) := by decide +kernel
theorem dX5_laysRow_94 : decode cX5_laysRow 94 = .ok (.aload_n 0, 1) := by decide +kernel
theorem dX5_laysRow_95 : decode cX5_laysRow 95 = .ok (.aload_n 0, 1) := by decide +kernel
theorem dX5_laysRow_96 : decode cX5_laysRow 96 = .ok (.getfield 25, 3) := by decide +kernel
theorem dX5_laysRow_99 : decode cX5_laysRow 99 = .ok (.iload_n 3, 1) := by decide +kernel
theorem dX5_laysRow_100 : decode cX5_laysRow 100 = .ok (.iaload, 1) := by decide +kernel
theorem dX5_laysRow_101 : decode cX5_laysRow 101 = .ok (.bipush 9, 2) := by decide +kernel
theorem dX5_laysRow_103 : decode cX5_laysRow 103 = .ok (.invokevirtual 56, 3) := by decide +kernel
theorem dX5_laysRow_106 : decode cX5_laysRow 106 = .ok (.iastore, 1) := by decide +kernel
theorem dX5_laysRow_107 : decode cX5_laysRow 107 = .ok (.aload_n 0, 1) := by decide +kernel
theorem dX5_laysRow_108 : decode cX5_laysRow 108 = .ok (.dup, 1) := by decide +kernel
theorem dX5_laysRow_109 : decode cX5_laysRow 109 = .ok (.getfield 67, 3) := by decide +kernel
theorem dX5_laysRow_112 : decode cX5_laysRow 112 = .ok (.iconst 1, 1) := by decide +kernel
theorem dX5_laysRow_113 : decode cX5_laysRow 113 = .ok (.iadd, 1) := by decide +kernel
theorem dX5_laysRow_114 : decode cX5_laysRow 114 = .ok (.putfield 67, 3) := by decide +kernel
theorem dX5_laysRow_117 : decode cX5_laysRow 117 = .ok (.goto 32, 3) := by decide +kernel
theorem dX5_laysRow_120 : decode cX5_laysRow 120 = .ok (.iload 4, 2) := by decide +kernel
theorem dX5_laysRow_122 : decode cX5_laysRow 122 = .ok (.iconst 2, 1) := by decide +kernel
theorem dX5_laysRow_123 : decode cX5_laysRow 123 = .ok (.if_icmp .ne 16, 3) := by decide +kernel
theorem dX5_laysRow_126 : decode cX5_laysRow 126 = .ok (.aload_n 0, 1) := by decide +kernel
theorem dX5_laysRow_127 : decode cX5_laysRow 127 = .ok (.dup, 1) := by decide +kernel
theorem dX5_laysRow_128 : decode cX5_laysRow 128 = .ok (.getfield 64, 3) := by decide +kernel
theorem dX5_laysRow_131 : decode cX5_laysRow 131 = .ok (.iconst 1, 1) := by decide +kernel
theorem dX5_laysRow_132 : decode cX5_laysRow 132 = .ok (.iadd, 1) := by decide +kernel
theorem dX5_laysRow_133 : decode cX5_laysRow 133 = .ok (.putfield 64, 3) := by decide +kernel
theorem dX5_laysRow_136 : decode cX5_laysRow 136 = .ok (.goto 13, 3) := by decide +kernel
theorem dX5_laysRow_139 : decode cX5_laysRow 139 = .ok (.aload_n 0, 1) := by decide +kernel
theorem dX5_laysRow_140 : decode cX5_laysRow 140 = .ok (.dup, 1) := by decide +kernel
theorem dX5_laysRow_141 : decode cX5_laysRow 141 = .ok (.getfield 67, 3) := by decide +kernel
theorem dX5_laysRow_144 : decode cX5_laysRow 144 = .ok (.iconst 1, 1) := by decide +kernel
theorem dX5_laysRow_145 : decode cX5_laysRow 145 = .ok (.isub, 1) := by decide +kernel
theorem dX5_laysRow_146 : decode cX5_laysRow 146 = .ok (.putfield 67, 3) := by decide +kernel
theorem dX5_laysRow_149 : decode cX5_laysRow 149 = .ok (.iinc 3 1, 3) := by decide +kernel
theorem dX5_laysRow_152 : decode cX5_laysRow 152 = .ok (.goto (-130), 3) := by decide +kernel
theorem dX5_laysRow_155 : decode cX5_laysRow 155 = .ok (.return_, 1) := by decide +kernel
set_option maxRecDepth 20000 in
theorem ggX5_valueAt_X5_laysRow : GoodIn wsX5_valueAt wsX5_laysRow := goodIn_r _ [7, 2, 8, 9, 1, 10, 11, 12, 6, 13, 14, 15, 16, 17, 18, 19, 20, 21, 22, 23, 24, 25, 26, 27, 28, 29, 30, 31, 32, 33, 34] (by decide +kernel) (by decide +kernel)
set_option maxRecDepth 20000 in
theorem gX5_valueAt_X5_laysRow : GoodIn wsX5_valueAt (wsV RX5 70 RX5 yX5_laysRow wsX5_laysRow) := goodIn_app (goodIn_of _ (by decide +kernel)) ggX5_valueAt_X5_laysRow
theorem dX5_valueAt_0 : decode cX5_valueAt 0 = .ok (.aload_n 0, 1) := by decide +kernel
theorem dX5_valueAt_1 : decode cX5_valueAt 1 = .ok (.iload_n 1, 1) := by decide +kernel
theorem dX5_valueAt_2 : decode cX5_valueAt 2 = .ok (.invokevirtual 70, 3) := by decide +kernel
theorem dX5_valueAt_5 : decode cX5_valueAt 5 = .ok (.aload_n 0, 1) := by decide +kernel
theorem dX5_valueAt_6 : decode cX5_valueAt 6 = .ok (.getfield 22, 3) := by decide +kernel
theorem dX5_valueAt_9 : decode cX5_valueAt 9 = .ok (.aload_n 0, 1) := by decide +kernel
theorem dX5_valueAt_10 : decode cX5_valueAt 10 = .ok (.getfield 64, 3) := by decide +kernel
theorem dX5_valueAt_13 : decode cX5_valueAt 13 = .ok (.iload_n 2, 1) := by decide +kernel
theorem dX5_valueAt_14 : decode cX5_valueAt 14 = .ok (.iadd, 1) := by decide +kernel
theorem dX5_valueAt_15 : decode cX5_valueAt 15 = .ok (.iaload, 1) := by decide +kernel
theorem dX5_valueAt_16 : decode cX5_valueAt 16 = .ok (.ireturn, 1) := by decide +kernel
theorem dX5_half_0 : decode cX5_half 0 = .ok (.iload_n 0, 1) := by decide +kernel
theorem dX5_half_1 : decode cX5_half 1 = .ok (.iconst 2, 1) := by decide +kernel
theorem dX5_half_2 : decode cX5_half 2 = .ok (.idiv, 1) := by decide +kernel
theorem dX5_half_3 : decode cX5_half 3 = .ok (.ireturn, 1) := by decide +kernel
set_option maxRecDepth 20000 in
theorem ggX5_isOver_X5_of : GoodIn wsX5_isOver wsX5_of := goodIn_r _ [5, 6, 11, 12, 13, 14, 15, 16, 17, 18, 19, 20, 21, 22, 23, 24, 25, 26] (by decide +kernel) (by decide +kernel)
set_option maxRecDepth 20000 in
theorem gX5_isOver_X5_of : GoodIn wsX5_isOver (wsV RX5 56 RX5 yX5_of wsX5_of) := goodIn_app (goodIn_of _ (by decide +kernel)) ggX5_isOver_X5_of
set_option maxRecDepth 20000 in
theorem ggX5_isOver_X5_lays : GoodIn wsX5_isOver wsX5_lays := goodIn_r _ [10, 6, 11, 12, 13, 14, 15, 16, 17, 18, 19, 20, 21, 22, 23, 24, 25, 26] (by decide +kernel) (by decide +kernel)
set_option maxRecDepth 20000 in
theorem gX5_isOver_X5_lays : GoodIn wsX5_isOver (wsV RX5 37 RX5 yX5_lays wsX5_lays) := goodIn_app (goodIn_of _ (by decide +kernel)) ggX5_isOver_X5_lays
theorem dX5_isOver_0 : decode cX5_isOver 0 = .ok (.aload_n 0, 1) := by decide +kernel
theorem dX5_isOver_1 : decode cX5_isOver 1 = .ok (.iload_n 1, 1) := by decide +kernel
theorem dX5_isOver_2 : decode cX5_isOver 2 = .ok (.iconst 2, 1) := by decide +kernel
theorem dX5_isOver_3 : decode cX5_isOver 3 = .ok (.aload_n 0, 1) := by decide +kernel
theorem dX5_isOver_4 : decode cX5_isOver 4 = .ok (.iload_n 1, 1) := by decide +kernel
theorem dX5_isOver_5 : decode cX5_isOver 5 = .ok (.iconst 4, 1) := by decide +kernel
theorem dX5_isOver_6 : decode cX5_isOver 6 = .ok (.invokevirtual 56, 3) := by decide +kernel
theorem dX5_isOver_9 : decode cX5_isOver 9 = .ok (.invokevirtual 37, 3) := by decide +kernel
theorem dX5_isOver_12 : decode cX5_isOver 12 = .ok (.aload_n 0, 1) := by decide +kernel
theorem dX5_isOver_13 : decode cX5_isOver 13 = .ok (.iload_n 1, 1) := by decide +kernel
theorem dX5_isOver_14 : decode cX5_isOver 14 = .ok (.iconst 4, 1) := by decide +kernel
theorem dX5_isOver_15 : decode cX5_isOver 15 = .ok (.iconst (-1), 1) := by decide +kernel
theorem dX5_isOver_16 : decode cX5_isOver 16 = .ok (.invokevirtual 37, 3) := by decide +kernel
theorem dX5_isOver_19 : decode cX5_isOver 19 = .ok (.aload_n 0, 1) := by decide +kernel
theorem dX5_isOver_20 : decode cX5_isOver 20 = .ok (.iload_n 1, 1) := by decide +kernel
theorem dX5_isOver_21 : decode cX5_isOver 21 = .ok (.iconst 3, 1) := by decide +kernel
theorem dX5_isOver_22 : decode cX5_isOver 22 = .ok (.iconst 0, 1) := by decide +kernel
theorem dX5_isOver_23 : decode cX5_isOver 23 = .ok (.invokevirtual 37, 3) := by decide +kernel
theorem dX5_isOver_26 : decode cX5_isOver 26 = .ok (.return_, 1) := by decide +kernel
set_option maxRecDepth 20000 in
theorem ggX5_begins_X5_of : GoodIn wsX5_begins wsX5_of := goodIn_r _ [6, 1, 11, 12, 13, 14, 15, 16, 17, 18, 19, 20, 21, 22, 23, 24, 25, 26] (by decide +kernel) (by decide +kernel)
set_option maxRecDepth 20000 in
theorem gX5_begins_X5_of : GoodIn wsX5_begins (wsV RX5 56 RX5 yX5_of wsX5_of) := goodIn_app (goodIn_of _ (by decide +kernel)) ggX5_begins_X5_of
set_option maxRecDepth 20000 in
theorem ggX5_begins_X5_lays : GoodIn wsX5_begins wsX5_lays := goodIn_r _ [10, 1, 11, 12, 13, 14, 15, 16, 17, 18, 19, 20, 21, 22, 23, 24, 25, 26] (by decide +kernel) (by decide +kernel)
set_option maxRecDepth 20000 in
theorem gX5_begins_X5_lays : GoodIn wsX5_begins (wsV RX5 37 RX5 yX5_lays wsX5_lays) := goodIn_app (goodIn_of _ (by decide +kernel)) ggX5_begins_X5_lays
theorem dX5_begins_0 : decode cX5_begins 0 = .ok (.aload_n 0, 1) := by decide +kernel
theorem dX5_begins_1 : decode cX5_begins 1 = .ok (.getfield 7, 3) := by decide +kernel
theorem dX5_begins_4 : decode cX5_begins 4 = .ok (.iconst 2, 1) := by decide +kernel
theorem dX5_begins_5 : decode cX5_begins 5 = .ok (.iaload, 1) := by decide +kernel
theorem dX5_begins_6 : decode cX5_begins 6 = .ok (.istore_n 2, 1) := by decide +kernel
theorem dX5_begins_7 : decode cX5_begins 7 = .ok (.iconst 0, 1) := by decide +kernel
theorem dX5_begins_8 : decode cX5_begins 8 = .ok (.istore_n 3, 1) := by decide +kernel
theorem dX5_begins_9 : decode cX5_begins 9 = .ok (.iload_n 3, 1) := by decide +kernel
theorem dX5_begins_10 : decode cX5_begins 10 = .ok (.bipush 10, 2) := by decide +kernel
theorem dX5_begins_12 : decode cX5_begins 12 = .ok (.if_icmp .ge 21, 3) := by decide +kernel
theorem dX5_begins_15 : decode cX5_begins 15 = .ok (.aload_n 0, 1) := by decide +kernel
theorem dX5_begins_16 : decode cX5_begins 16 = .ok (.iload_n 2, 1) := by decide +kernel
theorem dX5_begins_17 : decode cX5_begins 17 = .ok (.iload_n 3, 1) := by decide +kernel
theorem dX5_begins_18 : decode cX5_begins 18 = .ok (.aload_n 0, 1) := by decide +kernel
theorem dX5_begins_19 : decode cX5_begins 19 = .ok (.iload_n 1, 1) := by decide +kernel
theorem dX5_begins_20 : decode cX5_begins 20 = .ok (.iload_n 3, 1) := by decide +kernel
theorem dX5_begins_21 : decode cX5_begins 21 = .ok (.invokevirtual 56, 3) := by decide +kernel
theorem dX5_begins_24 : decode cX5_begins 24 = .ok (.invokevirtual 37, 3) := by decide +kernel
theorem dX5_begins_27 : decode cX5_begins 27 = .ok (.iinc 3 1, 3) := by decide +kernel
theorem dX5_begins_30 : decode cX5_begins 30 = .ok (.goto (-21), 3) := by decide +kernel
theorem dX5_begins_33 : decode cX5_begins 33 = .ok (.aload_n 0, 1) := by decide +kernel
theorem dX5_begins_34 : decode cX5_begins 34 = .ok (.iload_n 2, 1) := by decide +kernel
theorem dX5_begins_35 : decode cX5_begins 35 = .ok (.iconst 0, 1) := by decide +kernel
theorem dX5_begins_36 : decode cX5_begins 36 = .ok (.iload_n 1, 1) := by decide +kernel
theorem dX5_begins_37 : decode cX5_begins 37 = .ok (.invokevirtual 37, 3) := by decide +kernel
theorem dX5_begins_40 : decode cX5_begins 40 = .ok (.aload_n 0, 1) := by decide +kernel
theorem dX5_begins_41 : decode cX5_begins 41 = .ok (.iload_n 2, 1) := by decide +kernel
theorem dX5_begins_42 : decode cX5_begins 42 = .ok (.iconst 5, 1) := by decide +kernel
theorem dX5_begins_43 : decode cX5_begins 43 = .ok (.iconst 0, 1) := by decide +kernel
theorem dX5_begins_44 : decode cX5_begins 44 = .ok (.invokevirtual 37, 3) := by decide +kernel
theorem dX5_begins_47 : decode cX5_begins 47 = .ok (.aload_n 0, 1) := by decide +kernel
theorem dX5_begins_48 : decode cX5_begins 48 = .ok (.iload_n 2, 1) := by decide +kernel
theorem dX5_begins_49 : decode cX5_begins 49 = .ok (.bipush 6, 2) := by decide +kernel
theorem dX5_begins_51 : decode cX5_begins 51 = .ok (.iconst 0, 1) := by decide +kernel
theorem dX5_begins_52 : decode cX5_begins 52 = .ok (.invokevirtual 37, 3) := by decide +kernel
theorem dX5_begins_55 : decode cX5_begins 55 = .ok (.aload_n 0, 1) := by decide +kernel
theorem dX5_begins_56 : decode cX5_begins 56 = .ok (.iload_n 2, 1) := by decide +kernel
theorem dX5_begins_57 : decode cX5_begins 57 = .ok (.bipush 8, 2) := by decide +kernel
theorem dX5_begins_59 : decode cX5_begins 59 = .ok (.aload_n 0, 1) := by decide +kernel
theorem dX5_begins_60 : decode cX5_begins 60 = .ok (.iload_n 1, 1) := by decide +kernel
theorem dX5_begins_61 : decode cX5_begins 61 = .ok (.bipush 8, 2) := by decide +kernel
theorem dX5_begins_63 : decode cX5_begins 63 = .ok (.invokevirtual 56, 3) := by decide +kernel
theorem dX5_begins_66 : decode cX5_begins 66 = .ok (.iconst 1, 1) := by decide +kernel
theorem dX5_begins_67 : decode cX5_begins 67 = .ok (.iadd, 1) := by decide +kernel
theorem dX5_begins_68 : decode cX5_begins 68 = .ok (.invokevirtual 37, 3) := by decide +kernel
theorem dX5_begins_71 : decode cX5_begins 71 = .ok (.aload_n 0, 1) := by decide +kernel
theorem dX5_begins_72 : decode cX5_begins 72 = .ok (.getfield 7, 3) := by decide +kernel
theorem dX5_begins_75 : decode cX5_begins 75 = .ok (.iconst 2, 1) := by decide +kernel
theorem dX5_begins_76 : decode cX5_begins 76 = .ok (.dup2, 1) := by decide +kernel
theorem dX5_begins_77 : decode cX5_begins 77 = .ok (.iaload, 1) := by decide +kernel
theorem dX5_begins_78 : decode cX5_begins 78 = .ok (.iconst 1, 1) := by decide +kernel
theorem dX5_begins_79 : decode cX5_begins 79 = .ok (.iadd, 1) := by decide +kernel
theorem dX5_begins_80 : decode cX5_begins 80 = .ok (.iastore, 1) := by decide +kernel
theorem dX5_begins_81 : decode cX5_begins 81 = .ok (.iload_n 2, 1) := by decide +kernel
theorem dX5_begins_82 : decode cX5_begins 82 = .ok (.ireturn, 1) := by decide +kernel
set_option maxRecDepth 20000 in
theorem ggX5_opens_X5_of : GoodIn wsX5_opens wsX5_of := goodIn_r _ [5, 6, 19, 20, 21, 22, 23, 24, 25, 26, 27, 28, 29, 30, 31, 32, 33, 34] (by decide +kernel) (by decide +kernel)
set_option maxRecDepth 20000 in
theorem gX5_opens_X5_of : GoodIn wsX5_opens (wsV RX5 56 RX5 yX5_of wsX5_of) := goodIn_app (goodIn_of _ (by decide +kernel)) ggX5_opens_X5_of
set_option maxRecDepth 20000 in
theorem ggX5_opens_X5_isOver : GoodIn wsX5_opens wsX5_isOver := goodIn_r _ [10, 1, 2, 3, 4, 5, 6, 11, 12, 13, 14, 19, 20, 21, 22, 23, 24, 25, 26, 27, 28, 29, 30, 31, 32, 33, 34] (by decide +kernel) (by decide +kernel)
set_option maxRecDepth 20000 in
theorem gX5_opens_X5_isOver : GoodIn wsX5_opens (wsV RX5 74 RX5 yX5_isOver wsX5_isOver) := goodIn_app (goodIn_of _ (by decide +kernel)) ggX5_opens_X5_isOver
set_option maxRecDepth 20000 in
theorem ggX5_opens_X5_partOf : GoodIn wsX5_opens wsX5_partOf := goodIn_r _ [18, 1, 2, 3, 4, 5, 6, 19, 20, 21, 22, 23, 24, 25, 26, 27, 28, 29, 30, 31, 32, 33, 34] (by decide +kernel) (by decide +kernel)
set_option maxRecDepth 20000 in
theorem gX5_opens_X5_partOf : GoodIn wsX5_opens (wsV RX5 77 RX5 yX5_partOf wsX5_partOf) := goodIn_app (goodIn_of _ (by decide +kernel)) ggX5_opens_X5_partOf
set_option maxRecDepth 20000 in
theorem ggX5_opens_X5_lays : GoodIn wsX5_opens wsX5_lays := goodIn_r _ [14, 6, 19, 20, 21, 22, 23, 24, 25, 26, 27, 28, 29, 30, 31, 32, 33, 34] (by decide +kernel) (by decide +kernel)
set_option maxRecDepth 20000 in
theorem gX5_opens_X5_lays : GoodIn wsX5_opens (wsV RX5 37 RX5 yX5_lays wsX5_lays) := goodIn_app (goodIn_of _ (by decide +kernel)) ggX5_opens_X5_lays
theorem dX5_opens_0 : decode cX5_opens 0 = .ok (.iconst 0, 1) := by decide +kernel
theorem dX5_opens_1 : decode cX5_opens 1 = .ok (.istore_n 3, 1) := by decide +kernel
theorem dX5_opens_2 : decode cX5_opens 2 = .ok (.aload_n 0, 1) := by decide +kernel
theorem dX5_opens_3 : decode cX5_opens 3 = .ok (.iload_n 1, 1) := by decide +kernel
theorem dX5_opens_4 : decode cX5_opens 4 = .ok (.iconst 4, 1) := by decide +kernel
theorem dX5_opens_5 : decode cX5_opens 5 = .ok (.invokevirtual 56, 3) := by decide +kernel
theorem dX5_opens_8 : decode cX5_opens 8 = .ok (.iconst (-1), 1) := by decide +kernel
theorem dX5_opens_9 : decode cX5_opens 9 = .ok (.if_icmp .eq 15, 3) := by decide +kernel
theorem dX5_opens_12 : decode cX5_opens 12 = .ok (.aload_n 0, 1) := by decide +kernel
theorem dX5_opens_13 : decode cX5_opens 13 = .ok (.iload_n 1, 1) := by decide +kernel
theorem dX5_opens_14 : decode cX5_opens 14 = .ok (.iconst 3, 1) := by decide +kernel
theorem dX5_opens_15 : decode cX5_opens 15 = .ok (.invokevirtual 56, 3) := by decide +kernel
theorem dX5_opens_18 : decode cX5_opens 18 = .ok (.istore_n 3, 1) := by decide +kernel
theorem dX5_opens_19 : decode cX5_opens 19 = .ok (.aload_n 0, 1) := by decide +kernel
theorem dX5_opens_20 : decode cX5_opens 20 = .ok (.iload_n 1, 1) := by decide +kernel
theorem dX5_opens_21 : decode cX5_opens 21 = .ok (.invokevirtual 74, 3) := by decide +kernel
theorem dX5_opens_24 : decode cX5_opens 24 = .ok (.iload_n 3, 1) := by decide +kernel
theorem dX5_opens_25 : decode cX5_opens 25 = .ok (.aload_n 0, 1) := by decide +kernel
theorem dX5_opens_26 : decode cX5_opens 26 = .ok (.iload_n 1, 1) := by decide +kernel
theorem dX5_opens_27 : decode cX5_opens 27 = .ok (.iload_n 2, 1) := by decide +kernel
theorem dX5_opens_28 : decode cX5_opens 28 = .ok (.invokevirtual 77, 3) := by decide +kernel
theorem dX5_opens_31 : decode cX5_opens 31 = .ok (.ifCond .ne 22, 3) := by decide +kernel
theorem dX5_opens_34 : decode cX5_opens 34 = .ok (.aload_n 0, 1) := by decide +kernel
theorem dX5_opens_35 : decode cX5_opens 35 = .ok (.iload_n 1, 1) := by decide +kernel
theorem dX5_opens_36 : decode cX5_opens 36 = .ok (.iload_n 2, 1) := by decide +kernel
theorem dX5_opens_37 : decode cX5_opens 37 = .ok (.ifCond .ne 7, 3) := by decide +kernel
theorem dX5_opens_40 : decode cX5_opens 40 = .ok (.iconst 1, 1) := by decide +kernel
theorem dX5_opens_41 : decode cX5_opens 41 = .ok (.goto 4, 3) := by decide +kernel
theorem dX5_opens_44 : decode cX5_opens 44 = .ok (.iconst 0, 1) := by decide +kernel
theorem dX5_opens_45 : decode cX5_opens 45 = .ok (.invokevirtual 77, 3) := by decide +kernel
theorem dX5_opens_48 : decode cX5_opens 48 = .ok (.iconst 1, 1) := by decide +kernel
theorem dX5_opens_49 : decode cX5_opens 49 = .ok (.isub, 1) := by decide +kernel
theorem dX5_opens_50 : decode cX5_opens 50 = .ok (.goto 4, 3) := by decide +kernel
theorem dX5_opens_53 : decode cX5_opens 53 = .ok (.iconst 0, 1) := by decide +kernel
theorem dX5_opens_54 : decode cX5_opens 54 = .ok (.iadd, 1) := by decide +kernel
theorem dX5_opens_55 : decode cX5_opens 55 = .ok (.istore_n 3, 1) := by decide +kernel
theorem dX5_opens_56 : decode cX5_opens 56 = .ok (.aload_n 0, 1) := by decide +kernel
theorem dX5_opens_57 : decode cX5_opens 57 = .ok (.iload_n 1, 1) := by decide +kernel
theorem dX5_opens_58 : decode cX5_opens 58 = .ok (.bipush 6, 2) := by decide +kernel
theorem dX5_opens_60 : decode cX5_opens 60 = .ok (.iload_n 3, 1) := by decide +kernel
theorem dX5_opens_61 : decode cX5_opens 61 = .ok (.invokevirtual 37, 3) := by decide +kernel
theorem dX5_opens_64 : decode cX5_opens 64 = .ok (.aload_n 0, 1) := by decide +kernel
theorem dX5_opens_65 : decode cX5_opens 65 = .ok (.iload_n 1, 1) := by decide +kernel
theorem dX5_opens_66 : decode cX5_opens 66 = .ok (.iconst 5, 1) := by decide +kernel
theorem dX5_opens_67 : decode cX5_opens 67 = .ok (.iload_n 3, 1) := by decide +kernel
theorem dX5_opens_68 : decode cX5_opens 68 = .ok (.invokevirtual 37, 3) := by decide +kernel
theorem dX5_opens_71 : decode cX5_opens 71 = .ok (.return_, 1) := by decide +kernel
set_option maxRecDepth 20000 in
theorem ggX5_changes_X5_partOf : GoodIn wsX5_changes wsX5_partOf := goodIn_r _ [5, 6, 7, 8, 4, 9, 10, 19, 20, 21, 22, 23, 24, 25, 26, 27, 28, 29, 30, 31, 32, 33, 34] (by decide +kernel) (by decide +kernel)
set_option maxRecDepth 20000 in
theorem gX5_changes_X5_partOf : GoodIn wsX5_changes (wsV RX5 77 RX5 yX5_partOf wsX5_partOf) := goodIn_app (goodIn_of _ (by decide +kernel)) ggX5_changes_X5_partOf
set_option maxRecDepth 20000 in
theorem ggX5_changes_X5_adds : GoodIn wsX5_changes wsX5_adds := goodIn_r _ [14, 10, 19, 20, 21, 22, 23, 24, 25, 26, 27, 28, 29, 30, 31, 32, 33, 34] (by decide +kernel) (by decide +kernel)
set_option maxRecDepth 20000 in
theorem gX5_changes_X5_adds : GoodIn wsX5_changes (wsV RX5 81 RX5 yX5_adds wsX5_adds) := goodIn_app (goodIn_of _ (by decide +kernel)) ggX5_changes_X5_adds
set_option maxRecDepth 20000 in
theorem ggX5_changes_X5_of : GoodIn wsX5_changes wsX5_of := goodIn_r _ [9, 10, 19, 20, 21, 22, 23, 24, 25, 26, 27, 28, 29, 30, 31, 32, 33, 34] (by decide +kernel) (by decide +kernel)
set_option maxRecDepth 20000 in
theorem gX5_changes_X5_of : GoodIn wsX5_changes (wsV RX5 56 RX5 yX5_of wsX5_of) := goodIn_app (goodIn_of _ (by decide +kernel)) ggX5_changes_X5_of
set_option maxRecDepth 20000 in
theorem ggX5_changes_X5_lays : GoodIn wsX5_changes wsX5_lays := goodIn_r _ [18, 10, 19, 20, 21, 22, 23, 24, 25, 26, 27, 28, 29, 30, 31, 32, 33, 34] (by decide +kernel) (by decide +kernel)
set_option maxRecDepth 20000 in
theorem gX5_changes_X5_lays : GoodIn wsX5_changes (wsV RX5 37 RX5 yX5_lays wsX5_lays) := goodIn_app (goodIn_of _ (by decide +kernel)) ggX5_changes_X5_lays
theorem dX5_changes_0 : decode cX5_changes 0 = .ok (.iload_n 3, 1) := by decide +kernel
theorem dX5_changes_1 : decode cX5_changes 1 = .ok (.ifCond .gt 12, 3) := by decide +kernel
theorem dX5_changes_4 : decode cX5_changes 4 = .ok (.aload_n 0, 1) := by decide +kernel
theorem dX5_changes_5 : decode cX5_changes 5 = .ok (.iload_n 1, 1) := by decide +kernel
theorem dX5_changes_6 : decode cX5_changes 6 = .ok (.iload_n 2, 1) := by decide +kernel
theorem dX5_changes_7 : decode cX5_changes 7 = .ok (.invokevirtual 77, 3) := by decide +kernel
theorem dX5_changes_10 : decode cX5_changes 10 = .ok (.ifCond .le 7, 3) := by decide +kernel
theorem dX5_changes_13 : decode cX5_changes 13 = .ok (.iload_n 2, 1) := by decide +kernel
theorem dX5_changes_14 : decode cX5_changes 14 = .ok (.goto 12, 3) := by decide +kernel
theorem dX5_changes_17 : decode cX5_changes 17 = .ok (.iload_n 2, 1) := by decide +kernel
theorem dX5_changes_18 : decode cX5_changes 18 = .ok (.ifCond .ne 7, 3) := by decide +kernel
theorem dX5_changes_21 : decode cX5_changes 21 = .ok (.iconst 1, 1) := by decide +kernel
theorem dX5_changes_22 : decode cX5_changes 22 = .ok (.goto 4, 3) := by decide +kernel
theorem dX5_changes_25 : decode cX5_changes 25 = .ok (.iconst 0, 1) := by decide +kernel
theorem dX5_changes_26 : decode cX5_changes 26 = .ok (.istore 4, 2) := by decide +kernel
theorem dX5_changes_28 : decode cX5_changes 28 = .ok (.aload_n 0, 1) := by decide +kernel
theorem dX5_changes_29 : decode cX5_changes 29 = .ok (.iload_n 1, 1) := by decide +kernel
theorem dX5_changes_30 : decode cX5_changes 30 = .ok (.iconst 1, 1) := by decide +kernel
theorem dX5_changes_31 : decode cX5_changes 31 = .ok (.iload_n 3, 1) := by decide +kernel
theorem dX5_changes_32 : decode cX5_changes 32 = .ok (.invokevirtual 81, 3) := by decide +kernel
theorem dX5_changes_35 : decode cX5_changes 35 = .ok (.aload_n 0, 1) := by decide +kernel
theorem dX5_changes_36 : decode cX5_changes 36 = .ok (.iload_n 1, 1) := by decide +kernel
theorem dX5_changes_37 : decode cX5_changes 37 = .ok (.iconst 2, 1) := by decide +kernel
theorem dX5_changes_38 : decode cX5_changes 38 = .ok (.iload 4, 2) := by decide +kernel
theorem dX5_changes_40 : decode cX5_changes 40 = .ok (.ifCond .eq 7, 3) := by decide +kernel
theorem dX5_changes_43 : decode cX5_changes 43 = .ok (.iload_n 3, 1) := by decide +kernel
theorem dX5_changes_44 : decode cX5_changes 44 = .ok (.goto 4, 3) := by decide +kernel
theorem dX5_changes_47 : decode cX5_changes 47 = .ok (.iconst 0, 1) := by decide +kernel
theorem dX5_changes_48 : decode cX5_changes 48 = .ok (.invokevirtual 81, 3) := by decide +kernel
theorem dX5_changes_51 : decode cX5_changes 51 = .ok (.aload_n 0, 1) := by decide +kernel
theorem dX5_changes_52 : decode cX5_changes 52 = .ok (.iload_n 1, 1) := by decide +kernel
theorem dX5_changes_53 : decode cX5_changes 53 = .ok (.iconst 5, 1) := by decide +kernel
theorem dX5_changes_54 : decode cX5_changes 54 = .ok (.iconst 1, 1) := by decide +kernel
theorem dX5_changes_55 : decode cX5_changes 55 = .ok (.invokevirtual 81, 3) := by decide +kernel
theorem dX5_changes_58 : decode cX5_changes 58 = .ok (.aload_n 0, 1) := by decide +kernel
theorem dX5_changes_59 : decode cX5_changes 59 = .ok (.iload_n 1, 1) := by decide +kernel
theorem dX5_changes_60 : decode cX5_changes 60 = .ok (.iconst 4, 1) := by decide +kernel
theorem dX5_changes_61 : decode cX5_changes 61 = .ok (.invokevirtual 56, 3) := by decide +kernel
theorem dX5_changes_64 : decode cX5_changes 64 = .ok (.iconst (-1), 1) := by decide +kernel
theorem dX5_changes_65 : decode cX5_changes 65 = .ok (.if_icmp .eq 62, 3) := by decide +kernel
theorem dX5_changes_68 : decode cX5_changes 68 = .ok (.aload_n 0, 1) := by decide +kernel
theorem dX5_changes_69 : decode cX5_changes 69 = .ok (.iload_n 1, 1) := by decide +kernel
theorem dX5_changes_70 : decode cX5_changes 70 = .ok (.iconst 4, 1) := by decide +kernel
theorem dX5_changes_71 : decode cX5_changes 71 = .ok (.invokevirtual 56, 3) := by decide +kernel
theorem dX5_changes_74 : decode cX5_changes 74 = .ok (.iload_n 2, 1) := by decide +kernel
theorem dX5_changes_75 : decode cX5_changes 75 = .ok (.ifCond .eq 7, 3) := by decide +kernel
theorem dX5_changes_78 : decode cX5_changes 78 = .ok (.iload_n 3, 1) := by decide +kernel
theorem dX5_changes_79 : decode cX5_changes 79 = .ok (.goto 4, 3) := by decide +kernel
theorem dX5_changes_82 : decode cX5_changes 82 = .ok (.iconst 0, 1) := by decide +kernel
theorem dX5_changes_83 : decode cX5_changes 83 = .ok (.iadd, 1) := by decide +kernel
theorem dX5_changes_84 : decode cX5_changes 84 = .ok (.istore 5, 2) := by decide +kernel
theorem dX5_changes_86 : decode cX5_changes 86 = .ok (.iload 5, 2) := by decide +kernel
theorem dX5_changes_88 : decode cX5_changes 88 = .ok (.ifCond .ge 7, 3) := by decide +kernel
theorem dX5_changes_91 : decode cX5_changes 91 = .ok (.iconst 0, 1) := by decide +kernel
theorem dX5_changes_92 : decode cX5_changes 92 = .ok (.goto 5, 3) := by decide +kernel
theorem dX5_changes_95 : decode cX5_changes 95 = .ok (.iload 5, 2) := by decide +kernel
theorem dX5_changes_97 : decode cX5_changes 97 = .ok (.istore 5, 2) := by decide +kernel
theorem dX5_changes_99 : decode cX5_changes 99 = .ok (.aload_n 0, 1) := by decide +kernel
theorem dX5_changes_100 : decode cX5_changes 100 = .ok (.iload_n 1, 1) := by decide +kernel
theorem dX5_changes_101 : decode cX5_changes 101 = .ok (.iconst 4, 1) := by decide +kernel
theorem dX5_changes_102 : decode cX5_changes 102 = .ok (.iload 5, 2) := by decide +kernel
theorem dX5_changes_104 : decode cX5_changes 104 = .ok (.aload_n 0, 1) := by decide +kernel
theorem dX5_changes_105 : decode cX5_changes 105 = .ok (.iload_n 1, 1) := by decide +kernel
theorem dX5_changes_106 : decode cX5_changes 106 = .ok (.iconst 1, 1) := by decide +kernel
theorem dX5_changes_107 : decode cX5_changes 107 = .ok (.invokevirtual 56, 3) := by decide +kernel
theorem dX5_changes_110 : decode cX5_changes 110 = .ok (.if_icmp .le 12, 3) := by decide +kernel
theorem dX5_changes_113 : decode cX5_changes 113 = .ok (.aload_n 0, 1) := by decide +kernel
theorem dX5_changes_114 : decode cX5_changes 114 = .ok (.iload_n 1, 1) := by decide +kernel
theorem dX5_changes_115 : decode cX5_changes 115 = .ok (.iconst 1, 1) := by decide +kernel
theorem dX5_changes_116 : decode cX5_changes 116 = .ok (.invokevirtual 56, 3) := by decide +kernel
theorem dX5_changes_119 : decode cX5_changes 119 = .ok (.goto 5, 3) := by decide +kernel
theorem dX5_changes_122 : decode cX5_changes 122 = .ok (.iload 5, 2) := by decide +kernel
theorem dX5_changes_124 : decode cX5_changes 124 = .ok (.invokevirtual 37, 3) := by decide +kernel
theorem dX5_changes_127 : decode cX5_changes 127 = .ok (.return_, 1) := by decide +kernel
set_option maxRecDepth 20000 in
theorem ggX5_pays_X5_of : GoodIn wsX5_pays wsX5_of := goodIn_r _ [6, 1, 26, 27, 28, 29, 30, 31, 32, 33, 34, 35, 36, 37, 38, 39, 40, 41] (by decide +kernel) (by decide +kernel)
set_option maxRecDepth 20000 in
theorem gX5_pays_X5_of : GoodIn wsX5_pays (wsV RX5 56 RX5 yX5_of wsX5_of) := goodIn_app (goodIn_of _ (by decide +kernel)) ggX5_pays_X5_of
set_option maxRecDepth 20000 in
theorem ggX5_pays_X5_adds : GoodIn wsX5_pays wsX5_adds := goodIn_r _ [10, 1, 26, 27, 28, 29, 30, 31, 32, 33, 34, 35, 36, 37, 38, 39, 40, 41] (by decide +kernel) (by decide +kernel)
set_option maxRecDepth 20000 in
theorem gX5_pays_X5_adds : GoodIn wsX5_pays (wsV RX5 81 RX5 yX5_adds wsX5_adds) := goodIn_app (goodIn_of _ (by decide +kernel)) ggX5_pays_X5_adds
set_option maxRecDepth 20000 in
theorem ggX5_pays_X5_isOver : GoodIn wsX5_pays wsX5_isOver := goodIn_r _ [14, 2, 3, 4, 5, 6, 1, 15, 16, 17, 18, 26, 27, 28, 29, 30, 31, 32, 33, 34, 35, 36, 37, 38, 39, 40, 41] (by decide +kernel) (by decide +kernel)
set_option maxRecDepth 20000 in
theorem gX5_pays_X5_isOver : GoodIn wsX5_pays (wsV RX5 74 RX5 yX5_isOver wsX5_isOver) := goodIn_app (goodIn_of _ (by decide +kernel)) ggX5_pays_X5_isOver
set_option maxRecDepth 20000 in
theorem ggX5_pays_X5_partOf : GoodIn wsX5_pays wsX5_partOf := goodIn_r _ [22, 2, 3, 4, 5, 6, 1, 26, 27, 28, 29, 30, 31, 32, 33, 34, 35, 36, 37, 38, 39, 40, 41] (by decide +kernel) (by decide +kernel)
set_option maxRecDepth 20000 in
theorem gX5_pays_X5_partOf : GoodIn wsX5_pays (wsV RX5 77 RX5 yX5_partOf wsX5_partOf) := goodIn_app (goodIn_of _ (by decide +kernel)) ggX5_pays_X5_partOf
set_option maxRecDepth 20000 in
theorem ggX5_pays_X5_lays : GoodIn wsX5_pays wsX5_lays := goodIn_r _ [18, 1, 26, 27, 28, 29, 30, 31, 32, 33, 34, 35, 36, 37, 38, 39, 40, 41] (by decide +kernel) (by decide +kernel)
set_option maxRecDepth 20000 in
theorem gX5_pays_X5_lays : GoodIn wsX5_pays (wsV RX5 37 RX5 yX5_lays wsX5_lays) := goodIn_app (goodIn_of _ (by decide +kernel)) ggX5_pays_X5_lays
set_option maxRecDepth 20000 in
theorem ggX5_pays_X5_half : GoodIn wsX5_pays wsX5_half := goodIn_r _ [25] (by decide +kernel) (by decide +kernel)
set_option maxRecDepth 20000 in
theorem gX5_pays_X5_half : GoodIn wsX5_pays (va_wsS RX5 84 yX5_half wsX5_half) := goodIn_app (goodIn_of _ (by decide +kernel)) ggX5_pays_X5_half
theorem dX5_pays_0 : decode cX5_pays 0 = .ok (.aload_n 0, 1) := by decide +kernel
theorem dX5_pays_1 : decode cX5_pays 1 = .ok (.iload_n 1, 1) := by decide +kernel
theorem dX5_pays_2 : decode cX5_pays 2 = .ok (.iconst 4, 1) := by decide +kernel
theorem dX5_pays_3 : decode cX5_pays 3 = .ok (.invokevirtual 56, 3) := by decide +kernel
theorem dX5_pays_6 : decode cX5_pays 6 = .ok (.iconst (-1), 1) := by decide +kernel
theorem dX5_pays_7 : decode cX5_pays 7 = .ok (.if_icmp .eq 63, 3) := by decide +kernel
theorem dX5_pays_10 : decode cX5_pays 10 = .ok (.aload_n 0, 1) := by decide +kernel
theorem dX5_pays_11 : decode cX5_pays 11 = .ok (.iload_n 1, 1) := by decide +kernel
theorem dX5_pays_12 : decode cX5_pays 12 = .ok (.iconst 3, 1) := by decide +kernel
theorem dX5_pays_13 : decode cX5_pays 13 = .ok (.invokevirtual 56, 3) := by decide +kernel
theorem dX5_pays_16 : decode cX5_pays 16 = .ok (.aload_n 0, 1) := by decide +kernel
theorem dX5_pays_17 : decode cX5_pays 17 = .ok (.getfield 7, 3) := by decide +kernel
theorem dX5_pays_20 : decode cX5_pays 20 = .ok (.iconst 0, 1) := by decide +kernel
theorem dX5_pays_21 : decode cX5_pays 21 = .ok (.iaload, 1) := by decide +kernel
theorem dX5_pays_22 : decode cX5_pays 22 = .ok (.if_icmp .ge 12, 3) := by decide +kernel
theorem dX5_pays_25 : decode cX5_pays 25 = .ok (.aload_n 0, 1) := by decide +kernel
theorem dX5_pays_26 : decode cX5_pays 26 = .ok (.iload_n 1, 1) := by decide +kernel
theorem dX5_pays_27 : decode cX5_pays 27 = .ok (.iconst 3, 1) := by decide +kernel
theorem dX5_pays_28 : decode cX5_pays 28 = .ok (.invokevirtual 56, 3) := by decide +kernel
theorem dX5_pays_31 : decode cX5_pays 31 = .ok (.goto 9, 3) := by decide +kernel
theorem dX5_pays_34 : decode cX5_pays 34 = .ok (.aload_n 0, 1) := by decide +kernel
theorem dX5_pays_35 : decode cX5_pays 35 = .ok (.getfield 7, 3) := by decide +kernel
theorem dX5_pays_38 : decode cX5_pays 38 = .ok (.iconst 0, 1) := by decide +kernel
theorem dX5_pays_39 : decode cX5_pays 39 = .ok (.iaload, 1) := by decide +kernel
theorem dX5_pays_40 : decode cX5_pays 40 = .ok (.istore_n 2, 1) := by decide +kernel
theorem dX5_pays_41 : decode cX5_pays 41 = .ok (.aload_n 0, 1) := by decide +kernel
theorem dX5_pays_42 : decode cX5_pays 42 = .ok (.iload_n 1, 1) := by decide +kernel
theorem dX5_pays_43 : decode cX5_pays 43 = .ok (.iconst 5, 1) := by decide +kernel
theorem dX5_pays_44 : decode cX5_pays 44 = .ok (.iload_n 2, 1) := by decide +kernel
theorem dX5_pays_45 : decode cX5_pays 45 = .ok (.invokevirtual 81, 3) := by decide +kernel
theorem dX5_pays_48 : decode cX5_pays 48 = .ok (.aload_n 0, 1) := by decide +kernel
theorem dX5_pays_49 : decode cX5_pays 49 = .ok (.iload_n 1, 1) := by decide +kernel
theorem dX5_pays_50 : decode cX5_pays 50 = .ok (.iconst 3, 1) := by decide +kernel
theorem dX5_pays_51 : decode cX5_pays 51 = .ok (.iload_n 2, 1) := by decide +kernel
theorem dX5_pays_52 : decode cX5_pays 52 = .ok (.ineg, 1) := by decide +kernel
theorem dX5_pays_53 : decode cX5_pays 53 = .ok (.invokevirtual 81, 3) := by decide +kernel
theorem dX5_pays_56 : decode cX5_pays 56 = .ok (.aload_n 0, 1) := by decide +kernel
theorem dX5_pays_57 : decode cX5_pays 57 = .ok (.iload_n 1, 1) := by decide +kernel
theorem dX5_pays_58 : decode cX5_pays 58 = .ok (.iconst 3, 1) := by decide +kernel
theorem dX5_pays_59 : decode cX5_pays 59 = .ok (.invokevirtual 56, 3) := by decide +kernel
theorem dX5_pays_62 : decode cX5_pays 62 = .ok (.ifCond .ne 8, 3) := by decide +kernel
theorem dX5_pays_65 : decode cX5_pays 65 = .ok (.aload_n 0, 1) := by decide +kernel
theorem dX5_pays_66 : decode cX5_pays 66 = .ok (.iload_n 1, 1) := by decide +kernel
theorem dX5_pays_67 : decode cX5_pays 67 = .ok (.invokevirtual 74, 3) := by decide +kernel
theorem dX5_pays_70 : decode cX5_pays 70 = .ok (.aload_n 0, 1) := by decide +kernel
theorem dX5_pays_71 : decode cX5_pays 71 = .ok (.iload_n 1, 1) := by decide +kernel
theorem dX5_pays_72 : decode cX5_pays 72 = .ok (.iconst 1, 1) := by decide +kernel
theorem dX5_pays_73 : decode cX5_pays 73 = .ok (.invokevirtual 77, 3) := by decide +kernel
theorem dX5_pays_76 : decode cX5_pays 76 = .ok (.istore_n 2, 1) := by decide +kernel
theorem dX5_pays_77 : decode cX5_pays 77 = .ok (.aload_n 0, 1) := by decide +kernel
theorem dX5_pays_78 : decode cX5_pays 78 = .ok (.iload_n 1, 1) := by decide +kernel
theorem dX5_pays_79 : decode cX5_pays 79 = .ok (.iconst 0, 1) := by decide +kernel
theorem dX5_pays_80 : decode cX5_pays 80 = .ok (.invokevirtual 77, 3) := by decide +kernel
theorem dX5_pays_83 : decode cX5_pays 83 = .ok (.istore_n 3, 1) := by decide +kernel
theorem dX5_pays_84 : decode cX5_pays 84 = .ok (.iload_n 2, 1) := by decide +kernel
theorem dX5_pays_85 : decode cX5_pays 85 = .ok (.iload_n 3, 1) := by decide +kernel
theorem dX5_pays_86 : decode cX5_pays 86 = .ok (.if_icmp .le 7, 3) := by decide +kernel
theorem dX5_pays_89 : decode cX5_pays 89 = .ok (.iload_n 2, 1) := by decide +kernel
theorem dX5_pays_90 : decode cX5_pays 90 = .ok (.goto 4, 3) := by decide +kernel
theorem dX5_pays_93 : decode cX5_pays 93 = .ok (.iload_n 3, 1) := by decide +kernel
theorem dX5_pays_94 : decode cX5_pays 94 = .ok (.istore 4, 2) := by decide +kernel
theorem dX5_pays_96 : decode cX5_pays 96 = .ok (.iload_n 2, 1) := by decide +kernel
theorem dX5_pays_97 : decode cX5_pays 97 = .ok (.iload_n 3, 1) := by decide +kernel
theorem dX5_pays_98 : decode cX5_pays 98 = .ok (.if_icmp .le 7, 3) := by decide +kernel
theorem dX5_pays_101 : decode cX5_pays 101 = .ok (.iload_n 3, 1) := by decide +kernel
theorem dX5_pays_102 : decode cX5_pays 102 = .ok (.goto 4, 3) := by decide +kernel
theorem dX5_pays_105 : decode cX5_pays 105 = .ok (.iload_n 2, 1) := by decide +kernel
theorem dX5_pays_106 : decode cX5_pays 106 = .ok (.istore 5, 2) := by decide +kernel
theorem dX5_pays_108 : decode cX5_pays 108 = .ok (.aload_n 0, 1) := by decide +kernel
theorem dX5_pays_109 : decode cX5_pays 109 = .ok (.iload_n 1, 1) := by decide +kernel
theorem dX5_pays_110 : decode cX5_pays 110 = .ok (.iconst 4, 1) := by decide +kernel
theorem dX5_pays_111 : decode cX5_pays 111 = .ok (.invokevirtual 56, 3) := by decide +kernel
theorem dX5_pays_114 : decode cX5_pays 114 = .ok (.iconst (-1), 1) := by decide +kernel
theorem dX5_pays_115 : decode cX5_pays 115 = .ok (.if_icmp .ne 46, 3) := by decide +kernel
theorem dX5_pays_118 : decode cX5_pays 118 = .ok (.iload 4, 2) := by decide +kernel
theorem dX5_pays_120 : decode cX5_pays 120 = .ok (.aload_n 0, 1) := by decide +kernel
theorem dX5_pays_121 : decode cX5_pays 121 = .ok (.getfield 7, 3) := by decide +kernel
theorem dX5_pays_124 : decode cX5_pays 124 = .ok (.iconst 1, 1) := by decide +kernel
theorem dX5_pays_125 : decode cX5_pays 125 = .ok (.iaload, 1) := by decide +kernel
theorem dX5_pays_126 : decode cX5_pays 126 = .ok (.iload 5, 2) := by decide +kernel
theorem dX5_pays_128 : decode cX5_pays 128 = .ok (.imul, 1) := by decide +kernel
theorem dX5_pays_129 : decode cX5_pays 129 = .ok (.iconst 1, 1) := by decide +kernel
theorem dX5_pays_130 : decode cX5_pays 130 = .ok (.iadd, 1) := by decide +kernel
theorem dX5_pays_131 : decode cX5_pays 131 = .ok (.if_icmp .le 30, 3) := by decide +kernel
theorem dX5_pays_134 : decode cX5_pays 134 = .ok (.aload_n 0, 1) := by decide +kernel
theorem dX5_pays_135 : decode cX5_pays 135 = .ok (.iload_n 1, 1) := by decide +kernel
theorem dX5_pays_136 : decode cX5_pays 136 = .ok (.iconst 3, 1) := by decide +kernel
theorem dX5_pays_137 : decode cX5_pays 137 = .ok (.aload_n 0, 1) := by decide +kernel
theorem dX5_pays_138 : decode cX5_pays 138 = .ok (.iload_n 1, 1) := by decide +kernel
theorem dX5_pays_139 : decode cX5_pays 139 = .ok (.iconst 1, 1) := by decide +kernel
theorem dX5_pays_140 : decode cX5_pays 140 = .ok (.invokevirtual 56, 3) := by decide +kernel
theorem dX5_pays_143 : decode cX5_pays 143 = .ok (.invokevirtual 37, 3) := by decide +kernel
theorem dX5_pays_146 : decode cX5_pays 146 = .ok (.aload_n 0, 1) := by decide +kernel
theorem dX5_pays_147 : decode cX5_pays 147 = .ok (.iload_n 1, 1) := by decide +kernel
theorem dX5_pays_148 : decode cX5_pays 148 = .ok (.iconst 4, 1) := by decide +kernel
theorem dX5_pays_149 : decode cX5_pays 149 = .ok (.aload_n 0, 1) := by decide +kernel
theorem dX5_pays_150 : decode cX5_pays 150 = .ok (.iload_n 1, 1) := by decide +kernel
theorem dX5_pays_151 : decode cX5_pays 151 = .ok (.iconst 1, 1) := by decide +kernel
theorem dX5_pays_152 : decode cX5_pays 152 = .ok (.invokevirtual 56, 3) := by decide +kernel
theorem dX5_pays_155 : decode cX5_pays 155 = .ok (.invokestatic 84, 3) := by decide +kernel
theorem dX5_pays_158 : decode cX5_pays 158 = .ok (.invokevirtual 37, 3) := by decide +kernel
theorem dX5_pays_161 : decode cX5_pays 161 = .ok (.return_, 1) := by decide +kernel
set_option maxRecDepth 20000 in
theorem ggX5_pushes_X5_begins : GoodIn wsX5_pushes wsX5_begins := goodIn_r _ [5, 6, 7, 8, 9, 4, 10, 11, 12, 13, 14, 38, 39, 40, 41, 42, 43, 44, 45, 46, 47, 48, 49, 50, 51, 52, 53] (by decide +kernel) (by decide +kernel)
set_option maxRecDepth 20000 in
theorem gX5_pushes_X5_begins : GoodIn wsX5_pushes (wsV RX5 87 RX5 yX5_begins wsX5_begins) := goodIn_app (goodIn_of _ (by decide +kernel)) ggX5_pushes_X5_begins
set_option maxRecDepth 20000 in
theorem ggX5_pushes_X5_lays : GoodIn wsX5_pushes wsX5_lays := goodIn_r _ [14, 6, 38, 39, 40, 41, 42, 43, 44, 45, 46, 47, 48, 49, 50, 51, 52, 53] (by decide +kernel) (by decide +kernel)
set_option maxRecDepth 20000 in
theorem gX5_pushes_X5_lays : GoodIn wsX5_pushes (wsV RX5 37 RX5 yX5_lays wsX5_lays) := goodIn_app (goodIn_of _ (by decide +kernel)) ggX5_pushes_X5_lays
set_option maxRecDepth 20000 in
theorem ggX5_pushes_X5_changes : GoodIn wsX5_pushes wsX5_changes := goodIn_r _ [18, 19, 20, 21, 4, 22, 7, 8, 9, 10, 6, 23, 24, 25, 26, 11, 12, 13, 14, 38, 39, 40, 41, 42, 43, 44, 45, 46, 47, 48, 49, 50, 51, 52, 53] (by decide +kernel) (by decide +kernel)
set_option maxRecDepth 20000 in
theorem gX5_pushes_X5_changes : GoodIn wsX5_pushes (wsV RX5 90 RX5 yX5_changes wsX5_changes) := goodIn_app (goodIn_of _ (by decide +kernel)) ggX5_pushes_X5_changes
set_option maxRecDepth 20000 in
theorem ggX5_pushes_X5_pays : GoodIn wsX5_pushes wsX5_pays := goodIn_r _ [30, 6, 7, 8, 9, 4, 10, 23, 24, 25, 26, 31, 32, 33, 34, 11, 12, 13, 14, 19, 20, 21, 22, 35, 36, 37, 38, 39, 40, 41, 42, 43, 44, 45, 46, 47, 48, 49, 50, 51, 52, 53] (by decide +kernel) (by decide +kernel)
set_option maxRecDepth 20000 in
theorem gX5_pushes_X5_pays : GoodIn wsX5_pushes (wsV RX5 94 RX5 yX5_pays wsX5_pays) := goodIn_app (goodIn_of _ (by decide +kernel)) ggX5_pushes_X5_pays
theorem dX5_pushes_0 : decode cX5_pushes 0 = .ok (.aload_n 0, 1) := by decide +kernel
theorem dX5_pushes_1 : decode cX5_pushes 1 = .ok (.iload_n 1, 1) := by decide +kernel
theorem dX5_pushes_2 : decode cX5_pushes 2 = .ok (.invokevirtual 87, 3) := by decide +kernel
theorem dX5_pushes_5 : decode cX5_pushes 5 = .ok (.istore 4, 2) := by decide +kernel
theorem dX5_pushes_7 : decode cX5_pushes 7 = .ok (.aload_n 0, 1) := by decide +kernel
theorem dX5_pushes_8 : decode cX5_pushes 8 = .ok (.iload 4, 2) := by decide +kernel
theorem dX5_pushes_10 : decode cX5_pushes 10 = .ok (.bipush 7, 2) := by decide +kernel
theorem dX5_pushes_12 : decode cX5_pushes 12 = .ok (.iload_n 3, 1) := by decide +kernel
theorem dX5_pushes_13 : decode cX5_pushes 13 = .ok (.ifCond .eq 7, 3) := by decide +kernel
theorem dX5_pushes_16 : decode cX5_pushes 16 = .ok (.iconst 0, 1) := by decide +kernel
theorem dX5_pushes_17 : decode cX5_pushes 17 = .ok (.goto 4, 3) := by decide +kernel
theorem dX5_pushes_20 : decode cX5_pushes 20 = .ok (.iconst 1, 1) := by decide +kernel
theorem dX5_pushes_21 : decode cX5_pushes 21 = .ok (.invokevirtual 37, 3) := by decide +kernel
theorem dX5_pushes_24 : decode cX5_pushes 24 = .ok (.aload_n 0, 1) := by decide +kernel
theorem dX5_pushes_25 : decode cX5_pushes 25 = .ok (.iload 4, 2) := by decide +kernel
theorem dX5_pushes_27 : decode cX5_pushes 27 = .ok (.bipush 9, 2) := by decide +kernel
theorem dX5_pushes_29 : decode cX5_pushes 29 = .ok (.iload_n 2, 1) := by decide +kernel
theorem dX5_pushes_30 : decode cX5_pushes 30 = .ok (.invokevirtual 37, 3) := by decide +kernel
theorem dX5_pushes_33 : decode cX5_pushes 33 = .ok (.aload_n 0, 1) := by decide +kernel
theorem dX5_pushes_34 : decode cX5_pushes 34 = .ok (.iload 4, 2) := by decide +kernel
theorem dX5_pushes_36 : decode cX5_pushes 36 = .ok (.iload_n 3, 1) := by decide +kernel
theorem dX5_pushes_37 : decode cX5_pushes 37 = .ok (.iconst 1, 1) := by decide +kernel
theorem dX5_pushes_38 : decode cX5_pushes 38 = .ok (.invokevirtual 90, 3) := by decide +kernel
theorem dX5_pushes_41 : decode cX5_pushes 41 = .ok (.aload_n 0, 1) := by decide +kernel
theorem dX5_pushes_42 : decode cX5_pushes 42 = .ok (.iload 4, 2) := by decide +kernel
theorem dX5_pushes_44 : decode cX5_pushes 44 = .ok (.invokevirtual 94, 3) := by decide +kernel
theorem dX5_pushes_47 : decode cX5_pushes 47 = .ok (.iload 4, 2) := by decide +kernel
theorem dX5_pushes_49 : decode cX5_pushes 49 = .ok (.ireturn, 1) := by decide +kernel
set_option maxRecDepth 20000 in
theorem ggX5_pops_X5_of : GoodIn wsX5_pops wsX5_of := goodIn_r _ [5, 6, 58, 59, 60, 61, 62, 63, 64, 65, 66, 67, 68, 69, 70, 71, 72, 73] (by decide +kernel) (by decide +kernel)
set_option maxRecDepth 20000 in
theorem gX5_pops_X5_of : GoodIn wsX5_pops (wsV RX5 56 RX5 yX5_of wsX5_of) := goodIn_app (goodIn_of _ (by decide +kernel)) ggX5_pops_X5_of
set_option maxRecDepth 20000 in
theorem ggX5_pops_X5_valueAt : GoodIn wsX5_pops wsX5_valueAt := goodIn_r _ [10, 11, 12, 13, 14, 15, 4, 16, 17, 18, 19, 20, 21, 22, 1, 2, 3, 5, 6, 58, 59, 60, 61, 62, 63, 64, 65, 66, 67, 68, 69, 70, 71, 72, 73] (by decide +kernel) (by decide +kernel)
set_option maxRecDepth 20000 in
theorem gX5_pops_X5_valueAt : GoodIn wsX5_pops (wsV RX5 97 RX5 yX5_valueAt wsX5_valueAt) := goodIn_app (goodIn_of _ (by decide +kernel)) ggX5_pops_X5_valueAt
set_option maxRecDepth 20000 in
theorem ggX5_pops_X5_begins : GoodIn wsX5_pops wsX5_begins := goodIn_r _ [26, 6, 1, 2, 3, 4, 5, 27, 28, 29, 30, 58, 59, 60, 61, 62, 63, 64, 65, 66, 67, 68, 69, 70, 71, 72, 73] (by decide +kernel) (by decide +kernel)
set_option maxRecDepth 20000 in
theorem gX5_pops_X5_begins : GoodIn wsX5_pops (wsV RX5 87 RX5 yX5_begins wsX5_begins) := goodIn_app (goodIn_of _ (by decide +kernel)) ggX5_pops_X5_begins
set_option maxRecDepth 20000 in
theorem ggX5_pops_X5_lays : GoodIn wsX5_pops wsX5_lays := goodIn_r _ [30, 6, 58, 59, 60, 61, 62, 63, 64, 65, 66, 67, 68, 69, 70, 71, 72, 73] (by decide +kernel) (by decide +kernel)
set_option maxRecDepth 20000 in
theorem gX5_pops_X5_lays : GoodIn wsX5_pops (wsV RX5 37 RX5 yX5_lays wsX5_lays) := goodIn_app (goodIn_of _ (by decide +kernel)) ggX5_pops_X5_lays
set_option maxRecDepth 20000 in
theorem ggX5_pops_X5_partOf : GoodIn wsX5_pops wsX5_partOf := goodIn_r _ [34, 1, 2, 3, 4, 5, 6, 58, 59, 60, 61, 62, 63, 64, 65, 66, 67, 68, 69, 70, 71, 72, 73] (by decide +kernel) (by decide +kernel)
set_option maxRecDepth 20000 in
theorem gX5_pops_X5_partOf : GoodIn wsX5_pops (wsV RX5 77 RX5 yX5_partOf wsX5_partOf) := goodIn_app (goodIn_of _ (by decide +kernel)) ggX5_pops_X5_partOf
set_option maxRecDepth 20000 in
theorem ggX5_pops_X5_opens : GoodIn wsX5_pops wsX5_opens := goodIn_r _ [38, 1, 2, 3, 4, 5, 6, 39, 40, 41, 42, 27, 28, 29, 30, 31, 32, 33, 34, 58, 59, 60, 61, 62, 63, 64, 65, 66, 67, 68, 69, 70, 71, 72, 73] (by decide +kernel) (by decide +kernel)
set_option maxRecDepth 20000 in
theorem gX5_pops_X5_opens : GoodIn wsX5_pops (wsV RX5 100 RX5 yX5_opens wsX5_opens) := goodIn_app (goodIn_of _ (by decide +kernel)) ggX5_pops_X5_opens
set_option maxRecDepth 20000 in
theorem ggX5_pops_X5_changes : GoodIn wsX5_pops wsX5_changes := goodIn_r _ [46, 31, 32, 33, 4, 34, 1, 2, 3, 5, 6, 47, 48, 49, 50, 27, 28, 29, 30, 58, 59, 60, 61, 62, 63, 64, 65, 66, 67, 68, 69, 70, 71, 72, 73] (by decide +kernel) (by decide +kernel)
set_option maxRecDepth 20000 in
theorem gX5_pops_X5_changes : GoodIn wsX5_pops (wsV RX5 90 RX5 yX5_changes wsX5_changes) := goodIn_app (goodIn_of _ (by decide +kernel)) ggX5_pops_X5_changes
set_option maxRecDepth 20000 in
theorem ggX5_pops_X5_pays : GoodIn wsX5_pops wsX5_pays := goodIn_r _ [54, 6, 1, 2, 3, 4, 5, 47, 48, 49, 50, 39, 40, 41, 42, 27, 28, 29, 30, 31, 32, 33, 34, 55, 56, 57, 58, 59, 60, 61, 62, 63, 64, 65, 66, 67, 68, 69, 70, 71, 72, 73] (by decide +kernel) (by decide +kernel)
set_option maxRecDepth 20000 in
theorem gX5_pops_X5_pays : GoodIn wsX5_pops (wsV RX5 94 RX5 yX5_pays wsX5_pays) := goodIn_app (goodIn_of _ (by decide +kernel)) ggX5_pops_X5_pays
theorem dX5_pops_0 : decode cX5_pops 0 = .ok (.aload_n 0, 1) := by decide +kernel
theorem dX5_pops_1 : decode cX5_pops 1 = .ok (.iload_n 1, 1) := by decide +kernel
theorem dX5_pops_2 : decode cX5_pops 2 = .ok (.iload_n 2, 1) := by decide +kernel
theorem dX5_pops_3 : decode cX5_pops 3 = .ok (.ifCond .eq 7, 3) := by decide +kernel
theorem dX5_pops_6 : decode cX5_pops 6 = .ok (.iconst 0, 1) := by decide +kernel
theorem dX5_pops_7 : decode cX5_pops 7 = .ok (.goto 11, 3) := by decide +kernel
theorem dX5_pops_10 : decode cX5_pops 10 = .ok (.aload_n 0, 1) := by decide +kernel
theorem dX5_pops_11 : decode cX5_pops 11 = .ok (.iload_n 1, 1) := by decide +kernel
theorem dX5_pops_12 : decode cX5_pops 12 = .ok (.iconst 1, 1) := by decide +kernel
theorem dX5_pops_13 : decode cX5_pops 13 = .ok (.invokevirtual 56, 3) := by decide +kernel
theorem dX5_pops_16 : decode cX5_pops 16 = .ok (.iconst 1, 1) := by decide +kernel
theorem dX5_pops_17 : decode cX5_pops 17 = .ok (.isub, 1) := by decide +kernel
theorem dX5_pops_18 : decode cX5_pops 18 = .ok (.invokevirtual 97, 3) := by decide +kernel
theorem dX5_pops_21 : decode cX5_pops 21 = .ok (.istore_n 3, 1) := by decide +kernel
theorem dX5_pops_22 : decode cX5_pops 22 = .ok (.aload_n 0, 1) := by decide +kernel
theorem dX5_pops_23 : decode cX5_pops 23 = .ok (.iload_n 1, 1) := by decide +kernel
theorem dX5_pops_24 : decode cX5_pops 24 = .ok (.invokevirtual 87, 3) := by decide +kernel
theorem dX5_pops_27 : decode cX5_pops 27 = .ok (.istore 4, 2) := by decide +kernel
theorem dX5_pops_29 : decode cX5_pops 29 = .ok (.aload_n 0, 1) := by decide +kernel
theorem dX5_pops_30 : decode cX5_pops 30 = .ok (.iload 4, 2) := by decide +kernel
theorem dX5_pops_32 : decode cX5_pops 32 = .ok (.bipush 7, 2) := by decide +kernel
theorem dX5_pops_34 : decode cX5_pops 34 = .ok (.iload_n 2, 1) := by decide +kernel
theorem dX5_pops_35 : decode cX5_pops 35 = .ok (.ifCond .eq 7, 3) := by decide +kernel
theorem dX5_pops_38 : decode cX5_pops 38 = .ok (.iconst 2, 1) := by decide +kernel
theorem dX5_pops_39 : decode cX5_pops 39 = .ok (.goto 4, 3) := by decide +kernel
theorem dX5_pops_42 : decode cX5_pops 42 = .ok (.iconst 3, 1) := by decide +kernel
theorem dX5_pops_43 : decode cX5_pops 43 = .ok (.invokevirtual 37, 3) := by decide +kernel
theorem dX5_pops_46 : decode cX5_pops 46 = .ok (.aload_n 0, 1) := by decide +kernel
theorem dX5_pops_47 : decode cX5_pops 47 = .ok (.iload 4, 2) := by decide +kernel
theorem dX5_pops_49 : decode cX5_pops 49 = .ok (.bipush 9, 2) := by decide +kernel
theorem dX5_pops_51 : decode cX5_pops 51 = .ok (.iload_n 3, 1) := by decide +kernel
theorem dX5_pops_52 : decode cX5_pops 52 = .ok (.invokevirtual 37, 3) := by decide +kernel
theorem dX5_pops_55 : decode cX5_pops 55 = .ok (.aload_n 0, 1) := by decide +kernel
theorem dX5_pops_56 : decode cX5_pops 56 = .ok (.iload 4, 2) := by decide +kernel
theorem dX5_pops_58 : decode cX5_pops 58 = .ok (.iload_n 2, 1) := by decide +kernel
theorem dX5_pops_59 : decode cX5_pops 59 = .ok (.invokevirtual 77, 3) := by decide +kernel
theorem dX5_pops_62 : decode cX5_pops 62 = .ok (.ifCond .ne 10, 3) := by decide +kernel
theorem dX5_pops_65 : decode cX5_pops 65 = .ok (.aload_n 0, 1) := by decide +kernel
theorem dX5_pops_66 : decode cX5_pops 66 = .ok (.iload 4, 2) := by decide +kernel
theorem dX5_pops_68 : decode cX5_pops 68 = .ok (.iload_n 2, 1) := by decide +kernel
theorem dX5_pops_69 : decode cX5_pops 69 = .ok (.invokevirtual 100, 3) := by decide +kernel
theorem dX5_pops_72 : decode cX5_pops 72 = .ok (.aload_n 0, 1) := by decide +kernel
theorem dX5_pops_73 : decode cX5_pops 73 = .ok (.iload 4, 2) := by decide +kernel
theorem dX5_pops_75 : decode cX5_pops 75 = .ok (.iload_n 2, 1) := by decide +kernel
theorem dX5_pops_76 : decode cX5_pops 76 = .ok (.iconst (-1), 1) := by decide +kernel
theorem dX5_pops_77 : decode cX5_pops 77 = .ok (.invokevirtual 90, 3) := by decide +kernel
theorem dX5_pops_80 : decode cX5_pops 80 = .ok (.aload_n 0, 1) := by decide +kernel
theorem dX5_pops_81 : decode cX5_pops 81 = .ok (.iload 4, 2) := by decide +kernel
theorem dX5_pops_83 : decode cX5_pops 83 = .ok (.invokevirtual 94, 3) := by decide +kernel
theorem dX5_pops_86 : decode cX5_pops 86 = .ok (.iload 4, 2) := by decide +kernel
theorem dX5_pops_88 : decode cX5_pops 88 = .ok (.ireturn, 1) := by decide +kernel
set_option maxRecDepth 20000 in
theorem ggX5_set_X5_in : GoodIn wsX5_set wsX5_in := goodIn_r _ [6] (by decide +kernel) (by decide +kernel)
set_option maxRecDepth 20000 in
theorem gX5_set_X5_in : GoodIn wsX5_set (va_wsS RX5 52 yX5_in wsX5_in) := goodIn_app (goodIn_of _ (by decide +kernel)) ggX5_set_X5_in
set_option maxRecDepth 20000 in
theorem ggX5_set_X5_saves : GoodIn wsX5_set wsX5_saves := goodIn_r _ [10, 11, 12, 2, 13, 14, 5, 15, 16, 17, 18, 19, 20, 21, 22, 23, 24, 25, 26, 27, 28, 29, 30, 31] (by decide +kernel) (by decide +kernel)
set_option maxRecDepth 20000 in
theorem gX5_set_X5_saves : GoodIn wsX5_set (wsV RX5 104 RX5 yX5_saves wsX5_saves) := goodIn_app (goodIn_of _ (by decide +kernel)) ggX5_set_X5_saves
theorem dX5_set_0 : decode cX5_set 0 = .ok (.aload_n 0, 1) := by decide +kernel
theorem dX5_set_1 : decode cX5_set 1 = .ok (.iload_n 1, 1) := by decide +kernel
theorem dX5_set_2 : decode cX5_set 2 = .ok (.iconst 0, 1) := by decide +kernel
theorem dX5_set_3 : decode cX5_set 3 = .ok (.iconst 1, 1) := by decide +kernel
theorem dX5_set_4 : decode cX5_set 4 = .ok (.invokestatic 52, 3) := by decide +kernel
theorem dX5_set_7 : decode cX5_set 7 = .ok (.ifCond .eq 29, 3) := by decide +kernel
theorem dX5_set_10 : decode cX5_set 10 = .ok (.iload_n 2, 1) := by decide +kernel
theorem dX5_set_11 : decode cX5_set 11 = .ok (.iload_n 1, 1) := by decide +kernel
theorem dX5_set_12 : decode cX5_set 12 = .ok (.ifCond .ne 7, 3) := by decide +kernel
theorem dX5_set_15 : decode cX5_set 15 = .ok (.iconst 1, 1) := by decide +kernel
theorem dX5_set_16 : decode cX5_set 16 = .ok (.goto 4, 3) := by decide +kernel
theorem dX5_set_19 : decode cX5_set 19 = .ok (.iconst 2, 1) := by decide +kernel
theorem dX5_set_20 : decode cX5_set 20 = .ok (.iload_n 1, 1) := by decide +kernel
theorem dX5_set_21 : decode cX5_set 21 = .ok (.ifCond .ne 8, 3) := by decide +kernel
theorem dX5_set_24 : decode cX5_set 24 = .ok (.bipush 9, 2) := by decide +kernel
theorem dX5_set_26 : decode cX5_set 26 = .ok (.goto 4, 3) := by decide +kernel
theorem dX5_set_29 : decode cX5_set 29 = .ok (.iconst 5, 1) := by decide +kernel
theorem dX5_set_30 : decode cX5_set 30 = .ok (.invokestatic 52, 3) := by decide +kernel
theorem dX5_set_33 : decode cX5_set 33 = .ok (.ifCond .ne 7, 3) := by decide +kernel
theorem dX5_set_36 : decode cX5_set 36 = .ok (.iconst 1, 1) := by decide +kernel
theorem dX5_set_37 : decode cX5_set 37 = .ok (.goto 4, 3) := by decide +kernel
theorem dX5_set_40 : decode cX5_set 40 = .ok (.iconst 0, 1) := by decide +kernel
theorem dX5_set_41 : decode cX5_set 41 = .ok (.putfield 41, 3) := by decide +kernel
theorem dX5_set_44 : decode cX5_set 44 = .ok (.aload_n 0, 1) := by decide +kernel
theorem dX5_set_45 : decode cX5_set 45 = .ok (.getfield 41, 3) := by decide +kernel
theorem dX5_set_48 : decode cX5_set 48 = .ok (.ifCond .eq 5, 3) := by decide +kernel
theorem dX5_set_51 : decode cX5_set 51 = .ok (.iconst 0, 1) := by decide +kernel
theorem dX5_set_52 : decode cX5_set 52 = .ok (.ireturn, 1) := by decide +kernel
theorem dX5_set_53 : decode cX5_set 53 = .ok (.aload_n 0, 1) := by decide +kernel
theorem dX5_set_54 : decode cX5_set 54 = .ok (.invokevirtual 104, 3) := by decide +kernel
theorem dX5_set_57 : decode cX5_set 57 = .ok (.aload_n 0, 1) := by decide +kernel
theorem dX5_set_58 : decode cX5_set 58 = .ok (.getfield 7, 3) := by decide +kernel
theorem dX5_set_61 : decode cX5_set 61 = .ok (.iload_n 1, 1) := by decide +kernel
theorem dX5_set_62 : decode cX5_set 62 = .ok (.iaload, 1) := by decide +kernel
theorem dX5_set_63 : decode cX5_set 63 = .ok (.istore_n 3, 1) := by decide +kernel
theorem dX5_set_64 : decode cX5_set 64 = .ok (.aload_n 0, 1) := by decide +kernel
theorem dX5_set_65 : decode cX5_set 65 = .ok (.getfield 7, 3) := by decide +kernel
theorem dX5_set_68 : decode cX5_set 68 = .ok (.iload_n 1, 1) := by decide +kernel
theorem dX5_set_69 : decode cX5_set 69 = .ok (.iload_n 2, 1) := by decide +kernel
theorem dX5_set_70 : decode cX5_set 70 = .ok (.iastore, 1) := by decide +kernel
theorem dX5_set_71 : decode cX5_set 71 = .ok (.iload_n 3, 1) := by decide +kernel
theorem dX5_set_72 : decode cX5_set 72 = .ok (.ireturn, 1) := by decide +kernel
set_option maxRecDepth 20000 in
theorem ggX5_push_X5_isVersion : GoodIn wsX5_push wsX5_isVersion := goodIn_r _ [7, 1, 8, 9, 6, 10, 59, 60, 61, 62, 63, 64, 65, 66, 67, 68, 69, 70, 71, 72, 73, 74] (by decide +kernel) (by decide +kernel)
set_option maxRecDepth 20000 in
theorem gX5_push_X5_isVersion : GoodIn wsX5_push (wsV RX5 107 RX5 yX5_isVersion wsX5_isVersion) := goodIn_app (goodIn_of _ (by decide +kernel)) ggX5_push_X5_isVersion
set_option maxRecDepth 20000 in
theorem ggX5_push_X5_in : GoodIn wsX5_push wsX5_in := goodIn_r _ [10] (by decide +kernel) (by decide +kernel)
set_option maxRecDepth 20000 in
theorem gX5_push_X5_in : GoodIn wsX5_push (va_wsS RX5 52 yX5_in wsX5_in) := goodIn_app (goodIn_of _ (by decide +kernel)) ggX5_push_X5_in
set_option maxRecDepth 20000 in
theorem ggX5_push_X5_of : GoodIn wsX5_push wsX5_of := goodIn_r _ [14, 1, 59, 60, 61, 62, 63, 64, 65, 66, 67, 68, 69, 70, 71, 72, 73, 74] (by decide +kernel) (by decide +kernel)
set_option maxRecDepth 20000 in
theorem gX5_push_X5_of : GoodIn wsX5_push (wsV RX5 56 RX5 yX5_of wsX5_of) := goodIn_app (goodIn_of _ (by decide +kernel)) ggX5_push_X5_of
set_option maxRecDepth 20000 in
theorem ggX5_push_X5_saves : GoodIn wsX5_push wsX5_saves := goodIn_r _ [18, 19, 20, 1, 21, 22, 6, 23, 59, 60, 61, 62, 63, 64, 65, 66, 67, 68, 69, 70, 71, 72, 73, 74] (by decide +kernel) (by decide +kernel)
set_option maxRecDepth 20000 in
theorem gX5_push_X5_saves : GoodIn wsX5_push (wsV RX5 104 RX5 yX5_saves wsX5_saves) := goodIn_app (goodIn_of _ (by decide +kernel)) ggX5_push_X5_saves
set_option maxRecDepth 20000 in
theorem ggX5_push_X5_pushes : GoodIn wsX5_push wsX5_pushes := goodIn_r _ [27, 28, 29, 30, 6, 31, 1, 11, 12, 13, 14, 32, 33, 34, 35, 36, 37, 38, 39, 40, 41, 42, 43, 44, 45, 46, 47, 48, 49, 50, 51, 52, 53, 54, 55, 56, 57, 58, 59, 60, 61, 62, 63, 64, 65, 66, 67, 68, 69, 70, 71, 72, 73, 74] (by decide +kernel) (by decide +kernel)
set_option maxRecDepth 20000 in
theorem gX5_push_X5_pushes : GoodIn wsX5_push (wsV RX5 111 RX5 yX5_pushes wsX5_pushes) := goodIn_app (goodIn_of _ (by decide +kernel)) ggX5_push_X5_pushes
theorem dX5_push_0 : decode cX5_push 0 = .ok (.aload_n 0, 1) := by decide +kernel
theorem dX5_push_1 : decode cX5_push 1 = .ok (.aload_n 0, 1) := by decide +kernel
theorem dX5_push_2 : decode cX5_push 2 = .ok (.iload_n 1, 1) := by decide +kernel
theorem dX5_push_3 : decode cX5_push 3 = .ok (.invokevirtual 107, 3) := by decide +kernel
theorem dX5_push_6 : decode cX5_push 6 = .ok (.ifCond .ne 7, 3) := by decide +kernel
theorem dX5_push_9 : decode cX5_push 9 = .ok (.iconst 1, 1) := by decide +kernel
theorem dX5_push_10 : decode cX5_push 10 = .ok (.goto 47, 3) := by decide +kernel
theorem dX5_push_13 : decode cX5_push 13 = .ok (.iload_n 2, 1) := by decide +kernel
theorem dX5_push_14 : decode cX5_push 14 = .ok (.sipush (-999), 3) := by decide +kernel
theorem dX5_push_17 : decode cX5_push 17 = .ok (.sipush 999, 3) := by decide +kernel
theorem dX5_push_20 : decode cX5_push 20 = .ok (.invokestatic 52, 3) := by decide +kernel
theorem dX5_push_23 : decode cX5_push 23 = .ok (.ifCond .ne 7, 3) := by decide +kernel
theorem dX5_push_26 : decode cX5_push 26 = .ok (.iconst 2, 1) := by decide +kernel
theorem dX5_push_27 : decode cX5_push 27 = .ok (.goto 30, 3) := by decide +kernel
theorem dX5_push_30 : decode cX5_push 30 = .ok (.aload_n 0, 1) := by decide +kernel
theorem dX5_push_31 : decode cX5_push 31 = .ok (.iload_n 1, 1) := by decide +kernel
theorem dX5_push_32 : decode cX5_push 32 = .ok (.iconst 1, 1) := by decide +kernel
theorem dX5_push_33 : decode cX5_push 33 = .ok (.invokevirtual 56, 3) := by decide +kernel
theorem dX5_push_36 : decode cX5_push 36 = .ok (.bipush 40, 2) := by decide +kernel
theorem dX5_push_38 : decode cX5_push 38 = .ok (.if_icmp .eq 14, 3) := by decide +kernel
theorem dX5_push_41 : decode cX5_push 41 = .ok (.aload_n 0, 1) := by decide +kernel
theorem dX5_push_42 : decode cX5_push 42 = .ok (.getfield 7, 3) := by decide +kernel
theorem dX5_push_45 : decode cX5_push 45 = .ok (.iconst 2, 1) := by decide +kernel
theorem dX5_push_46 : decode cX5_push 46 = .ok (.iaload, 1) := by decide +kernel
theorem dX5_push_47 : decode cX5_push 47 = .ok (.bipush 100, 2) := by decide +kernel
theorem dX5_push_49 : decode cX5_push 49 = .ok (.if_icmp .ne 7, 3) := by decide +kernel
theorem dX5_push_52 : decode cX5_push 52 = .ok (.iconst 3, 1) := by decide +kernel
theorem dX5_push_53 : decode cX5_push 53 = .ok (.goto 4, 3) := by decide +kernel
theorem dX5_push_56 : decode cX5_push 56 = .ok (.iconst 0, 1) := by decide +kernel
theorem dX5_push_57 : decode cX5_push 57 = .ok (.putfield 41, 3) := by decide +kernel
theorem dX5_push_60 : decode cX5_push 60 = .ok (.aload_n 0, 1) := by decide +kernel
theorem dX5_push_61 : decode cX5_push 61 = .ok (.getfield 41, 3) := by decide +kernel
theorem dX5_push_64 : decode cX5_push 64 = .ok (.ifCond .eq 5, 3) := by decide +kernel
theorem dX5_push_67 : decode cX5_push 67 = .ok (.iconst 0, 1) := by decide +kernel
theorem dX5_push_68 : decode cX5_push 68 = .ok (.ireturn, 1) := by decide +kernel
theorem dX5_push_69 : decode cX5_push 69 = .ok (.aload_n 0, 1) := by decide +kernel
theorem dX5_push_70 : decode cX5_push 70 = .ok (.invokevirtual 104, 3) := by decide +kernel
theorem dX5_push_73 : decode cX5_push 73 = .ok (.aload_n 0, 1) := by decide +kernel
theorem dX5_push_74 : decode cX5_push 74 = .ok (.iload_n 1, 1) := by decide +kernel
theorem dX5_push_75 : decode cX5_push 75 = .ok (.iload_n 2, 1) := by decide +kernel
theorem dX5_push_76 : decode cX5_push 76 = .ok (.iload_n 3, 1) := by decide +kernel
theorem dX5_push_77 : decode cX5_push 77 = .ok (.invokevirtual 111, 3) := by decide +kernel
theorem dX5_push_80 : decode cX5_push 80 = .ok (.ireturn, 1) := by decide +kernel
set_option maxRecDepth 20000 in
theorem ggX5_pop_X5_isVersion : GoodIn wsX5_pop wsX5_isVersion := goodIn_r _ [7, 1, 8, 9, 6, 10, 79, 80, 81, 82, 83, 84, 85, 86, 87, 88, 89, 90, 91, 92, 93, 94] (by decide +kernel) (by decide +kernel)
set_option maxRecDepth 20000 in
theorem gX5_pop_X5_isVersion : GoodIn wsX5_pop (wsV RX5 107 RX5 yX5_isVersion wsX5_isVersion) := goodIn_app (goodIn_of _ (by decide +kernel)) ggX5_pop_X5_isVersion
set_option maxRecDepth 20000 in
theorem ggX5_pop_X5_of : GoodIn wsX5_pop wsX5_of := goodIn_r _ [14, 1, 79, 80, 81, 82, 83, 84, 85, 86, 87, 88, 89, 90, 91, 92, 93, 94] (by decide +kernel) (by decide +kernel)
set_option maxRecDepth 20000 in
theorem gX5_pop_X5_of : GoodIn wsX5_pop (wsV RX5 56 RX5 yX5_of wsX5_of) := goodIn_app (goodIn_of _ (by decide +kernel)) ggX5_pop_X5_of
set_option maxRecDepth 20000 in
theorem ggX5_pop_X5_saves : GoodIn wsX5_pop wsX5_saves := goodIn_r _ [18, 19, 20, 1, 21, 22, 6, 23, 79, 80, 81, 82, 83, 84, 85, 86, 87, 88, 89, 90, 91, 92, 93, 94] (by decide +kernel) (by decide +kernel)
set_option maxRecDepth 20000 in
theorem gX5_pop_X5_saves : GoodIn wsX5_pop (wsV RX5 104 RX5 yX5_saves wsX5_saves) := goodIn_app (goodIn_of _ (by decide +kernel)) ggX5_pop_X5_saves
set_option maxRecDepth 20000 in
theorem ggX5_pop_X5_pops : GoodIn wsX5_pop wsX5_pops := goodIn_r _ [27, 11, 12, 13, 6, 14, 1, 28, 29, 30, 31, 32, 33, 34, 35, 36, 37, 38, 39, 40, 41, 42, 43, 44, 45, 46, 47, 48, 49, 50, 51, 52, 53, 54, 55, 56, 57, 58, 59, 60, 61, 62, 63, 64, 65, 66, 67, 68, 69, 70, 71, 72, 73, 74, 75, 76, 77, 78, 79, 80, 81, 82, 83, 84, 85, 86, 87, 88, 89, 90, 91, 92, 93, 94] (by decide +kernel) (by decide +kernel)
set_option maxRecDepth 20000 in
theorem gX5_pop_X5_pops : GoodIn wsX5_pop (wsV RX5 115 RX5 yX5_pops wsX5_pops) := goodIn_app (goodIn_of _ (by decide +kernel)) ggX5_pop_X5_pops
theorem dX5_pop_0 : decode cX5_pop 0 = .ok (.aload_n 0, 1) := by decide +kernel
theorem dX5_pop_1 : decode cX5_pop 1 = .ok (.aload_n 0, 1) := by decide +kernel
theorem dX5_pop_2 : decode cX5_pop 2 = .ok (.iload_n 1, 1) := by decide +kernel
theorem dX5_pop_3 : decode cX5_pop 3 = .ok (.invokevirtual 107, 3) := by decide +kernel
theorem dX5_pop_6 : decode cX5_pop 6 = .ok (.ifCond .ne 7, 3) := by decide +kernel
theorem dX5_pop_9 : decode cX5_pop 9 = .ok (.iconst 1, 1) := by decide +kernel
theorem dX5_pop_10 : decode cX5_pop 10 = .ok (.goto 32, 3) := by decide +kernel
theorem dX5_pop_13 : decode cX5_pop 13 = .ok (.aload_n 0, 1) := by decide +kernel
theorem dX5_pop_14 : decode cX5_pop 14 = .ok (.iload_n 1, 1) := by decide +kernel
theorem dX5_pop_15 : decode cX5_pop 15 = .ok (.iconst 1, 1) := by decide +kernel
theorem dX5_pop_16 : decode cX5_pop 16 = .ok (.invokevirtual 56, 3) := by decide +kernel
theorem dX5_pop_19 : decode cX5_pop 19 = .ok (.ifCond .ne 7, 3) := by decide +kernel
theorem dX5_pop_22 : decode cX5_pop 22 = .ok (.iconst 2, 1) := by decide +kernel
theorem dX5_pop_23 : decode cX5_pop 23 = .ok (.goto 19, 3) := by decide +kernel
theorem dX5_pop_26 : decode cX5_pop 26 = .ok (.aload_n 0, 1) := by decide +kernel
theorem dX5_pop_27 : decode cX5_pop 27 = .ok (.getfield 7, 3) := by decide +kernel
theorem dX5_pop_30 : decode cX5_pop 30 = .ok (.iconst 2, 1) := by decide +kernel
theorem dX5_pop_31 : decode cX5_pop 31 = .ok (.iaload, 1) := by decide +kernel
theorem dX5_pop_32 : decode cX5_pop 32 = .ok (.bipush 100, 2) := by decide +kernel
theorem dX5_pop_34 : decode cX5_pop 34 = .ok (.if_icmp .ne 7, 3) := by decide +kernel
theorem dX5_pop_37 : decode cX5_pop 37 = .ok (.iconst 3, 1) := by decide +kernel
theorem dX5_pop_38 : decode cX5_pop 38 = .ok (.goto 4, 3) := by decide +kernel
theorem dX5_pop_41 : decode cX5_pop 41 = .ok (.iconst 0, 1) := by decide +kernel
theorem dX5_pop_42 : decode cX5_pop 42 = .ok (.putfield 41, 3) := by decide +kernel
theorem dX5_pop_45 : decode cX5_pop 45 = .ok (.aload_n 0, 1) := by decide +kernel
theorem dX5_pop_46 : decode cX5_pop 46 = .ok (.getfield 41, 3) := by decide +kernel
theorem dX5_pop_49 : decode cX5_pop 49 = .ok (.ifCond .eq 5, 3) := by decide +kernel
theorem dX5_pop_52 : decode cX5_pop 52 = .ok (.iconst 0, 1) := by decide +kernel
theorem dX5_pop_53 : decode cX5_pop 53 = .ok (.ireturn, 1) := by decide +kernel
theorem dX5_pop_54 : decode cX5_pop 54 = .ok (.aload_n 0, 1) := by decide +kernel
theorem dX5_pop_55 : decode cX5_pop 55 = .ok (.invokevirtual 104, 3) := by decide +kernel
theorem dX5_pop_58 : decode cX5_pop 58 = .ok (.aload_n 0, 1) := by decide +kernel
theorem dX5_pop_59 : decode cX5_pop 59 = .ok (.iload_n 1, 1) := by decide +kernel
theorem dX5_pop_60 : decode cX5_pop 60 = .ok (.iload_n 2, 1) := by decide +kernel
theorem dX5_pop_61 : decode cX5_pop 61 = .ok (.invokevirtual 115, 3) := by decide +kernel
theorem dX5_pop_64 : decode cX5_pop 64 = .ok (.ireturn, 1) := by decide +kernel
set_option maxRecDepth 20000 in
theorem ggX5_drop_X5_saves : GoodIn wsX5_drop wsX5_saves := goodIn_r _ [7, 8, 9, 1, 10, 11, 6, 12, 13, 14, 15, 16, 17, 18, 19, 20, 21, 22, 23, 24, 25, 26, 27, 28] (by decide +kernel) (by decide +kernel)
set_option maxRecDepth 20000 in
theorem gX5_drop_X5_saves : GoodIn wsX5_drop (wsV RX5 104 RX5 yX5_saves wsX5_saves) := goodIn_app (goodIn_of _ (by decide +kernel)) ggX5_drop_X5_saves
theorem dX5_drop_0 : decode cX5_drop 0 = .ok (.aload_n 0, 1) := by decide +kernel
theorem dX5_drop_1 : decode cX5_drop 1 = .ok (.aload_n 0, 1) := by decide +kernel
theorem dX5_drop_2 : decode cX5_drop 2 = .ok (.getfield 7, 3) := by decide +kernel
theorem dX5_drop_5 : decode cX5_drop 5 = .ok (.iconst 2, 1) := by decide +kernel
theorem dX5_drop_6 : decode cX5_drop 6 = .ok (.iaload, 1) := by decide +kernel
theorem dX5_drop_7 : decode cX5_drop 7 = .ok (.iconst 1, 1) := by decide +kernel
theorem dX5_drop_8 : decode cX5_drop 8 = .ok (.if_icmp .ne 7, 3) := by decide +kernel
theorem dX5_drop_11 : decode cX5_drop 11 = .ok (.iconst 1, 1) := by decide +kernel
theorem dX5_drop_12 : decode cX5_drop 12 = .ok (.goto 4, 3) := by decide +kernel
theorem dX5_drop_15 : decode cX5_drop 15 = .ok (.iconst 0, 1) := by decide +kernel
theorem dX5_drop_16 : decode cX5_drop 16 = .ok (.putfield 41, 3) := by decide +kernel
theorem dX5_drop_19 : decode cX5_drop 19 = .ok (.aload_n 0, 1) := by decide +kernel
theorem dX5_drop_20 : decode cX5_drop 20 = .ok (.getfield 41, 3) := by decide +kernel
theorem dX5_drop_23 : decode cX5_drop 23 = .ok (.ifCond .eq 5, 3) := by decide +kernel
theorem dX5_drop_26 : decode cX5_drop 26 = .ok (.iconst 0, 1) := by decide +kernel
theorem dX5_drop_27 : decode cX5_drop 27 = .ok (.ireturn, 1) := by decide +kernel
theorem dX5_drop_28 : decode cX5_drop 28 = .ok (.aload_n 0, 1) := by decide +kernel
theorem dX5_drop_29 : decode cX5_drop 29 = .ok (.invokevirtual 104, 3) := by decide +kernel
theorem dX5_drop_32 : decode cX5_drop 32 = .ok (.aload_n 0, 1) := by decide +kernel
theorem dX5_drop_33 : decode cX5_drop 33 = .ok (.getfield 7, 3) := by decide +kernel
theorem dX5_drop_36 : decode cX5_drop 36 = .ok (.iconst 2, 1) := by decide +kernel
theorem dX5_drop_37 : decode cX5_drop 37 = .ok (.dup2, 1) := by decide +kernel
theorem dX5_drop_38 : decode cX5_drop 38 = .ok (.iaload, 1) := by decide +kernel
theorem dX5_drop_39 : decode cX5_drop 39 = .ok (.iconst 1, 1) := by decide +kernel
theorem dX5_drop_40 : decode cX5_drop 40 = .ok (.isub, 1) := by decide +kernel
theorem dX5_drop_41 : decode cX5_drop 41 = .ok (.iastore, 1) := by decide +kernel
theorem dX5_drop_42 : decode cX5_drop 42 = .ok (.aload_n 0, 1) := by decide +kernel
theorem dX5_drop_43 : decode cX5_drop 43 = .ok (.getfield 7, 3) := by decide +kernel
theorem dX5_drop_46 : decode cX5_drop 46 = .ok (.iconst 2, 1) := by decide +kernel
theorem dX5_drop_47 : decode cX5_drop 47 = .ok (.iaload, 1) := by decide +kernel
theorem dX5_drop_48 : decode cX5_drop 48 = .ok (.ireturn, 1) := by decide +kernel
set_option maxRecDepth 20000 in
theorem ggX5_clear_X5_saves : GoodIn wsX5_clear wsX5_saves := goodIn_r _ [7, 8, 9, 2, 10, 11, 6, 12, 13, 14, 15, 16, 17, 18, 19, 20, 21, 22, 23, 24, 25, 26, 27, 28] (by decide +kernel) (by decide +kernel)
set_option maxRecDepth 20000 in
theorem gX5_clear_X5_saves : GoodIn wsX5_clear (wsV RX5 104 RX5 yX5_saves wsX5_saves) := goodIn_app (goodIn_of _ (by decide +kernel)) ggX5_clear_X5_saves
theorem dX5_clear_0 : decode cX5_clear 0 = .ok (.aload_n 0, 1) := by decide +kernel
theorem dX5_clear_1 : decode cX5_clear 1 = .ok (.iconst 0, 1) := by decide +kernel
theorem dX5_clear_2 : decode cX5_clear 2 = .ok (.putfield 41, 3) := by decide +kernel
theorem dX5_clear_5 : decode cX5_clear 5 = .ok (.aload_n 0, 1) := by decide +kernel
theorem dX5_clear_6 : decode cX5_clear 6 = .ok (.invokevirtual 104, 3) := by decide +kernel
theorem dX5_clear_9 : decode cX5_clear 9 = .ok (.aload_n 0, 1) := by decide +kernel
theorem dX5_clear_10 : decode cX5_clear 10 = .ok (.getfield 7, 3) := by decide +kernel
theorem dX5_clear_13 : decode cX5_clear 13 = .ok (.iconst 2, 1) := by decide +kernel
theorem dX5_clear_14 : decode cX5_clear 14 = .ok (.iaload, 1) := by decide +kernel
theorem dX5_clear_15 : decode cX5_clear 15 = .ok (.iconst 1, 1) := by decide +kernel
theorem dX5_clear_16 : decode cX5_clear 16 = .ok (.isub, 1) := by decide +kernel
theorem dX5_clear_17 : decode cX5_clear 17 = .ok (.istore_n 1, 1) := by decide +kernel
theorem dX5_clear_18 : decode cX5_clear 18 = .ok (.aload_n 0, 1) := by decide +kernel
theorem dX5_clear_19 : decode cX5_clear 19 = .ok (.getfield 7, 3) := by decide +kernel
theorem dX5_clear_22 : decode cX5_clear 22 = .ok (.iconst 2, 1) := by decide +kernel
theorem dX5_clear_23 : decode cX5_clear 23 = .ok (.iconst 1, 1) := by decide +kernel
theorem dX5_clear_24 : decode cX5_clear 24 = .ok (.iastore, 1) := by decide +kernel
theorem dX5_clear_25 : decode cX5_clear 25 = .ok (.iload_n 1, 1) := by decide +kernel
theorem dX5_clear_26 : decode cX5_clear 26 = .ok (.ireturn, 1) := by decide +kernel
set_option maxRecDepth 20000 in
theorem ggX5_told_X5_of : GoodIn wsX5_told wsX5_of := goodIn_r _ [5, 6, 11, 12, 13, 14, 15, 16, 17, 18, 19, 20, 21, 22, 23, 24, 25, 26] (by decide +kernel) (by decide +kernel)
set_option maxRecDepth 20000 in
theorem gX5_told_X5_of : GoodIn wsX5_told (wsV RX5 56 RX5 yX5_of wsX5_of) := goodIn_app (goodIn_of _ (by decide +kernel)) ggX5_told_X5_of
set_option maxRecDepth 20000 in
theorem ggX5_told_X5_partOf : GoodIn wsX5_told wsX5_partOf := goodIn_r _ [10, 1, 2, 3, 4, 5, 6, 11, 12, 13, 14, 15, 16, 17, 18, 19, 20, 21, 22, 23, 24, 25, 26] (by decide +kernel) (by decide +kernel)
set_option maxRecDepth 20000 in
theorem gX5_told_X5_partOf : GoodIn wsX5_told (wsV RX5 77 RX5 yX5_partOf wsX5_partOf) := goodIn_app (goodIn_of _ (by decide +kernel)) ggX5_told_X5_partOf
theorem dX5_told_0 : decode cX5_told 0 = .ok (.iload_n 2, 1) := by decide +kernel
theorem dX5_told_1 : decode cX5_told 1 = .ok (.tableswitch 116 0 8 #[51, 58, 65, 72, 79, 86, 93, 100, 108], 51) := by decide +kernel
theorem dX5_told_52 : decode cX5_told 52 = .ok (.aload_n 0, 1) := by decide +kernel
theorem dX5_told_53 : decode cX5_told 53 = .ok (.iload_n 1, 1) := by decide +kernel
theorem dX5_told_54 : decode cX5_told 54 = .ok (.iconst 0, 1) := by decide +kernel
theorem dX5_told_55 : decode cX5_told 55 = .ok (.invokevirtual 56, 3) := by decide +kernel
theorem dX5_told_58 : decode cX5_told 58 = .ok (.ireturn, 1) := by decide +kernel
theorem dX5_told_59 : decode cX5_told 59 = .ok (.aload_n 0, 1) := by decide +kernel
theorem dX5_told_60 : decode cX5_told 60 = .ok (.iload_n 1, 1) := by decide +kernel
theorem dX5_told_61 : decode cX5_told 61 = .ok (.iconst 1, 1) := by decide +kernel
theorem dX5_told_62 : decode cX5_told 62 = .ok (.invokevirtual 56, 3) := by decide +kernel
theorem dX5_told_65 : decode cX5_told 65 = .ok (.ireturn, 1) := by decide +kernel
theorem dX5_told_66 : decode cX5_told 66 = .ok (.aload_n 0, 1) := by decide +kernel
theorem dX5_told_67 : decode cX5_told 67 = .ok (.iload_n 1, 1) := by decide +kernel
theorem dX5_told_68 : decode cX5_told 68 = .ok (.iconst 1, 1) := by decide +kernel
theorem dX5_told_69 : decode cX5_told 69 = .ok (.invokevirtual 77, 3) := by decide +kernel
theorem dX5_told_72 : decode cX5_told 72 = .ok (.ireturn, 1) := by decide +kernel
theorem dX5_told_73 : decode cX5_told 73 = .ok (.aload_n 0, 1) := by decide +kernel
theorem dX5_told_74 : decode cX5_told 74 = .ok (.iload_n 1, 1) := by decide +kernel
theorem dX5_told_75 : decode cX5_told 75 = .ok (.iconst 0, 1) := by decide +kernel
theorem dX5_told_76 : decode cX5_told 76 = .ok (.invokevirtual 77, 3) := by decide +kernel
theorem dX5_told_79 : decode cX5_told 79 = .ok (.ireturn, 1) := by decide +kernel
theorem dX5_told_80 : decode cX5_told 80 = .ok (.aload_n 0, 1) := by decide +kernel
theorem dX5_told_81 : decode cX5_told 81 = .ok (.iload_n 1, 1) := by decide +kernel
theorem dX5_told_82 : decode cX5_told 82 = .ok (.iconst 3, 1) := by decide +kernel
theorem dX5_told_83 : decode cX5_told 83 = .ok (.invokevirtual 56, 3) := by decide +kernel
theorem dX5_told_86 : decode cX5_told 86 = .ok (.ireturn, 1) := by decide +kernel
theorem dX5_told_87 : decode cX5_told 87 = .ok (.aload_n 0, 1) := by decide +kernel
theorem dX5_told_88 : decode cX5_told 88 = .ok (.iload_n 1, 1) := by decide +kernel
theorem dX5_told_89 : decode cX5_told 89 = .ok (.iconst 4, 1) := by decide +kernel
theorem dX5_told_90 : decode cX5_told 90 = .ok (.invokevirtual 56, 3) := by decide +kernel
theorem dX5_told_93 : decode cX5_told 93 = .ok (.ireturn, 1) := by decide +kernel
theorem dX5_told_94 : decode cX5_told 94 = .ok (.aload_n 0, 1) := by decide +kernel
theorem dX5_told_95 : decode cX5_told 95 = .ok (.iload_n 1, 1) := by decide +kernel
theorem dX5_told_96 : decode cX5_told 96 = .ok (.iconst 5, 1) := by decide +kernel
theorem dX5_told_97 : decode cX5_told 97 = .ok (.invokevirtual 56, 3) := by decide +kernel
theorem dX5_told_100 : decode cX5_told 100 = .ok (.ireturn, 1) := by decide +kernel
theorem dX5_told_101 : decode cX5_told 101 = .ok (.aload_n 0, 1) := by decide +kernel
theorem dX5_told_102 : decode cX5_told 102 = .ok (.iload_n 1, 1) := by decide +kernel
theorem dX5_told_103 : decode cX5_told 103 = .ok (.bipush 6, 2) := by decide +kernel
theorem dX5_told_105 : decode cX5_told 105 = .ok (.invokevirtual 56, 3) := by decide +kernel
theorem dX5_told_108 : decode cX5_told 108 = .ok (.ireturn, 1) := by decide +kernel
theorem dX5_told_109 : decode cX5_told 109 = .ok (.aload_n 0, 1) := by decide +kernel
theorem dX5_told_110 : decode cX5_told 110 = .ok (.iload_n 1, 1) := by decide +kernel
theorem dX5_told_111 : decode cX5_told 111 = .ok (.bipush 7, 2) := by decide +kernel
theorem dX5_told_113 : decode cX5_told 113 = .ok (.invokevirtual 56, 3) := by decide +kernel
theorem dX5_told_116 : decode cX5_told 116 = .ok (.ireturn, 1) := by decide +kernel
theorem dX5_told_117 : decode cX5_told 117 = .ok (.aload_n 0, 1) := by decide +kernel
theorem dX5_told_118 : decode cX5_told 118 = .ok (.iload_n 1, 1) := by decide +kernel
theorem dX5_told_119 : decode cX5_told 119 = .ok (.bipush 8, 2) := by decide +kernel
theorem dX5_told_121 : decode cX5_told 121 = .ok (.invokevirtual 56, 3) := by decide +kernel
theorem dX5_told_124 : decode cX5_told 124 = .ok (.ireturn, 1) := by decide +kernel
set_option maxRecDepth 20000 in
theorem ggX5_version_X5_isVersion : GoodIn wsX5_version wsX5_isVersion := goodIn_r _ [6, 7, 8, 9, 5, 10, 23, 24, 25, 26, 27, 28, 29, 30, 31, 32, 33, 34, 35, 36, 37, 38] (by decide +kernel) (by decide +kernel)
set_option maxRecDepth 20000 in
theorem gX5_version_X5_isVersion : GoodIn wsX5_version (wsV RX5 107 RX5 yX5_isVersion wsX5_isVersion) := goodIn_app (goodIn_of _ (by decide +kernel)) ggX5_version_X5_isVersion
set_option maxRecDepth 20000 in
theorem ggX5_version_X5_in : GoodIn wsX5_version wsX5_in := goodIn_r _ [10] (by decide +kernel) (by decide +kernel)
set_option maxRecDepth 20000 in
theorem gX5_version_X5_in : GoodIn wsX5_version (va_wsS RX5 52 yX5_in wsX5_in) := goodIn_app (goodIn_of _ (by decide +kernel)) ggX5_version_X5_in
set_option maxRecDepth 20000 in
theorem ggX5_version_X5_told : GoodIn wsX5_version wsX5_told := goodIn_r _ [14, 15, 16, 17, 5, 18, 7, 19, 20, 21, 22, 23, 24, 25, 26, 27, 28, 29, 30, 31, 32, 33, 34, 35, 36, 37, 38] (by decide +kernel) (by decide +kernel)
set_option maxRecDepth 20000 in
theorem gX5_version_X5_told : GoodIn wsX5_version (wsV RX5 118 RX5 yX5_told wsX5_told) := goodIn_app (goodIn_of _ (by decide +kernel)) ggX5_version_X5_told
theorem dX5_version_0 : decode cX5_version 0 = .ok (.aload_n 0, 1) := by decide +kernel
theorem dX5_version_1 : decode cX5_version 1 = .ok (.aload_n 0, 1) := by decide +kernel
theorem dX5_version_2 : decode cX5_version 2 = .ok (.iload_n 1, 1) := by decide +kernel
theorem dX5_version_3 : decode cX5_version 3 = .ok (.invokevirtual 107, 3) := by decide +kernel
theorem dX5_version_6 : decode cX5_version 6 = .ok (.ifCond .ne 7, 3) := by decide +kernel
theorem dX5_version_9 : decode cX5_version 9 = .ok (.iconst 1, 1) := by decide +kernel
theorem dX5_version_10 : decode cX5_version 10 = .ok (.goto 18, 3) := by decide +kernel
theorem dX5_version_13 : decode cX5_version 13 = .ok (.iload_n 2, 1) := by decide +kernel
theorem dX5_version_14 : decode cX5_version 14 = .ok (.iconst 0, 1) := by decide +kernel
theorem dX5_version_15 : decode cX5_version 15 = .ok (.bipush 9, 2) := by decide +kernel
theorem dX5_version_17 : decode cX5_version 17 = .ok (.invokestatic 52, 3) := by decide +kernel
theorem dX5_version_20 : decode cX5_version 20 = .ok (.ifCond .ne 7, 3) := by decide +kernel
theorem dX5_version_23 : decode cX5_version 23 = .ok (.iconst 2, 1) := by decide +kernel
theorem dX5_version_24 : decode cX5_version 24 = .ok (.goto 4, 3) := by decide +kernel
theorem dX5_version_27 : decode cX5_version 27 = .ok (.iconst 0, 1) := by decide +kernel
theorem dX5_version_28 : decode cX5_version 28 = .ok (.putfield 41, 3) := by decide +kernel
theorem dX5_version_31 : decode cX5_version 31 = .ok (.aload_n 0, 1) := by decide +kernel
theorem dX5_version_32 : decode cX5_version 32 = .ok (.getfield 41, 3) := by decide +kernel
theorem dX5_version_35 : decode cX5_version 35 = .ok (.ifCond .eq 7, 3) := by decide +kernel
theorem dX5_version_38 : decode cX5_version 38 = .ok (.iconst 0, 1) := by decide +kernel
theorem dX5_version_39 : decode cX5_version 39 = .ok (.goto 9, 3) := by decide +kernel
theorem dX5_version_42 : decode cX5_version 42 = .ok (.aload_n 0, 1) := by decide +kernel
theorem dX5_version_43 : decode cX5_version 43 = .ok (.iload_n 1, 1) := by decide +kernel
theorem dX5_version_44 : decode cX5_version 44 = .ok (.iload_n 2, 1) := by decide +kernel
theorem dX5_version_45 : decode cX5_version 45 = .ok (.invokevirtual 118, 3) := by decide +kernel
theorem dX5_version_48 : decode cX5_version 48 = .ok (.ireturn, 1) := by decide +kernel
set_option maxRecDepth 20000 in
theorem ggX5_value_X5_isVersion : GoodIn wsX5_value wsX5_isVersion := goodIn_r _ [6, 7, 8, 9, 5, 10, 15, 16, 17, 18, 19, 20, 21, 22, 23, 24, 25, 26, 27, 28, 29, 30] (by decide +kernel) (by decide +kernel)
set_option maxRecDepth 20000 in
theorem gX5_value_X5_isVersion : GoodIn wsX5_value (wsV RX5 107 RX5 yX5_isVersion wsX5_isVersion) := goodIn_app (goodIn_of _ (by decide +kernel)) ggX5_value_X5_isVersion
set_option maxRecDepth 20000 in
theorem ggX5_value_X5_of : GoodIn wsX5_value wsX5_of := goodIn_r _ [14, 7, 15, 16, 17, 18, 19, 20, 21, 22, 23, 24, 25, 26, 27, 28, 29, 30] (by decide +kernel) (by decide +kernel)
set_option maxRecDepth 20000 in
theorem gX5_value_X5_of : GoodIn wsX5_value (wsV RX5 56 RX5 yX5_of wsX5_of) := goodIn_app (goodIn_of _ (by decide +kernel)) ggX5_value_X5_of
theorem dX5_value_0 : decode cX5_value 0 = .ok (.aload_n 0, 1) := by decide +kernel
theorem dX5_value_1 : decode cX5_value 1 = .ok (.aload_n 0, 1) := by decide +kernel
theorem dX5_value_2 : decode cX5_value 2 = .ok (.iload_n 1, 1) := by decide +kernel
theorem dX5_value_3 : decode cX5_value 3 = .ok (.invokevirtual 107, 3) := by decide +kernel
theorem dX5_value_6 : decode cX5_value 6 = .ok (.ifCond .ne 7, 3) := by decide +kernel
theorem dX5_value_9 : decode cX5_value 9 = .ok (.iconst 1, 1) := by decide +kernel
theorem dX5_value_10 : decode cX5_value 10 = .ok (.goto 12, 3) := by decide +kernel
theorem dX5_value_13 : decode cX5_value 13 = .ok (.iload_n 1, 1) := by decide +kernel
theorem dX5_value_14 : decode cX5_value 14 = .ok (.ifCond .ne 7, 3) := by decide +kernel
theorem dX5_value_17 : decode cX5_value 17 = .ok (.iconst 2, 1) := by decide +kernel
theorem dX5_value_18 : decode cX5_value 18 = .ok (.goto 4, 3) := by decide +kernel
theorem dX5_value_21 : decode cX5_value 21 = .ok (.iconst 0, 1) := by decide +kernel
theorem dX5_value_22 : decode cX5_value 22 = .ok (.putfield 41, 3) := by decide +kernel
theorem dX5_value_25 : decode cX5_value 25 = .ok (.aload_n 0, 1) := by decide +kernel
theorem dX5_value_26 : decode cX5_value 26 = .ok (.getfield 41, 3) := by decide +kernel
theorem dX5_value_29 : decode cX5_value 29 = .ok (.ifCond .eq 7, 3) := by decide +kernel
theorem dX5_value_32 : decode cX5_value 32 = .ok (.iconst 0, 1) := by decide +kernel
theorem dX5_value_33 : decode cX5_value 33 = .ok (.goto 10, 3) := by decide +kernel
theorem dX5_value_36 : decode cX5_value 36 = .ok (.aload_n 0, 1) := by decide +kernel
theorem dX5_value_37 : decode cX5_value 37 = .ok (.iload_n 1, 1) := by decide +kernel
theorem dX5_value_38 : decode cX5_value 38 = .ok (.bipush 9, 2) := by decide +kernel
theorem dX5_value_40 : decode cX5_value 40 = .ok (.invokevirtual 56, 3) := by decide +kernel
theorem dX5_value_43 : decode cX5_value 43 = .ok (.ireturn, 1) := by decide +kernel
set_option maxRecDepth 20000 in
theorem ggX5_isPlace_X5_isVersion : GoodIn wsX5_isPlace wsX5_isVersion := goodIn_r _ [5, 6, 7, 8, 4, 9, 14, 15, 16, 17, 18, 19, 20, 21, 22, 23, 24, 25, 26, 27, 28, 29] (by decide +kernel) (by decide +kernel)
set_option maxRecDepth 20000 in
theorem gX5_isPlace_X5_isVersion : GoodIn wsX5_isPlace (wsV RX5 107 RX5 yX5_isVersion wsX5_isVersion) := goodIn_app (goodIn_of _ (by decide +kernel)) ggX5_isPlace_X5_isVersion
set_option maxRecDepth 20000 in
theorem ggX5_isPlace_X5_of : GoodIn wsX5_isPlace wsX5_of := goodIn_r _ [13, 6, 14, 15, 16, 17, 18, 19, 20, 21, 22, 23, 24, 25, 26, 27, 28, 29] (by decide +kernel) (by decide +kernel)
set_option maxRecDepth 20000 in
theorem gX5_isPlace_X5_of : GoodIn wsX5_isPlace (wsV RX5 56 RX5 yX5_of wsX5_of) := goodIn_app (goodIn_of _ (by decide +kernel)) ggX5_isPlace_X5_of
set_option maxRecDepth 20000 in
theorem ggX5_isPlace_X5_in : GoodIn wsX5_isPlace wsX5_in := goodIn_r _ [9] (by decide +kernel) (by decide +kernel)
set_option maxRecDepth 20000 in
theorem gX5_isPlace_X5_in : GoodIn wsX5_isPlace (va_wsS RX5 52 yX5_in wsX5_in) := goodIn_app (goodIn_of _ (by decide +kernel)) ggX5_isPlace_X5_in
theorem dX5_isPlace_0 : decode cX5_isPlace 0 = .ok (.aload_n 0, 1) := by decide +kernel
theorem dX5_isPlace_1 : decode cX5_isPlace 1 = .ok (.iload_n 1, 1) := by decide +kernel
theorem dX5_isPlace_2 : decode cX5_isPlace 2 = .ok (.invokevirtual 107, 3) := by decide +kernel
theorem dX5_isPlace_5 : decode cX5_isPlace 5 = .ok (.ifCond .eq 23, 3) := by decide +kernel
theorem dX5_isPlace_8 : decode cX5_isPlace 8 = .ok (.iload_n 2, 1) := by decide +kernel
theorem dX5_isPlace_9 : decode cX5_isPlace 9 = .ok (.iconst 0, 1) := by decide +kernel
theorem dX5_isPlace_10 : decode cX5_isPlace 10 = .ok (.aload_n 0, 1) := by decide +kernel
theorem dX5_isPlace_11 : decode cX5_isPlace 11 = .ok (.iload_n 1, 1) := by decide +kernel
theorem dX5_isPlace_12 : decode cX5_isPlace 12 = .ok (.iconst 1, 1) := by decide +kernel
theorem dX5_isPlace_13 : decode cX5_isPlace 13 = .ok (.invokevirtual 56, 3) := by decide +kernel
theorem dX5_isPlace_16 : decode cX5_isPlace 16 = .ok (.iconst 1, 1) := by decide +kernel
theorem dX5_isPlace_17 : decode cX5_isPlace 17 = .ok (.isub, 1) := by decide +kernel
theorem dX5_isPlace_18 : decode cX5_isPlace 18 = .ok (.invokestatic 52, 3) := by decide +kernel
theorem dX5_isPlace_21 : decode cX5_isPlace 21 = .ok (.ifCond .eq 7, 3) := by decide +kernel
theorem dX5_isPlace_24 : decode cX5_isPlace 24 = .ok (.iconst 1, 1) := by decide +kernel
theorem dX5_isPlace_25 : decode cX5_isPlace 25 = .ok (.goto 4, 3) := by decide +kernel
theorem dX5_isPlace_28 : decode cX5_isPlace 28 = .ok (.iconst 0, 1) := by decide +kernel
theorem dX5_isPlace_29 : decode cX5_isPlace 29 = .ok (.ireturn, 1) := by decide +kernel
set_option maxRecDepth 20000 in
theorem ggX5_at_X5_isPlace : GoodIn wsX5_at wsX5_isPlace := goodIn_r _ [6, 7, 8, 9, 5, 10, 11, 12, 13, 14, 15, 16, 17, 18, 35, 36, 37, 38, 39, 40, 41, 42, 43, 44, 45, 46, 47, 48, 49, 50] (by decide +kernel) (by decide +kernel)
set_option maxRecDepth 20000 in
theorem gX5_at_X5_isPlace : GoodIn wsX5_at (wsV RX5 120 RX5 yX5_isPlace wsX5_isPlace) := goodIn_app (goodIn_of _ (by decide +kernel)) ggX5_at_X5_isPlace
set_option maxRecDepth 20000 in
theorem ggX5_at_X5_valueAt : GoodIn wsX5_at wsX5_valueAt := goodIn_r _ [22, 23, 24, 25, 26, 27, 5, 28, 29, 30, 31, 32, 33, 34, 15, 16, 17, 18, 11, 35, 36, 37, 38, 39, 40, 41, 42, 43, 44, 45, 46, 47, 48, 49, 50] (by decide +kernel) (by decide +kernel)
set_option maxRecDepth 20000 in
theorem gX5_at_X5_valueAt : GoodIn wsX5_at (wsV RX5 97 RX5 yX5_valueAt wsX5_valueAt) := goodIn_app (goodIn_of _ (by decide +kernel)) ggX5_at_X5_valueAt
theorem dX5_at_0 : decode cX5_at 0 = .ok (.aload_n 0, 1) := by decide +kernel
theorem dX5_at_1 : decode cX5_at 1 = .ok (.aload_n 0, 1) := by decide +kernel
theorem dX5_at_2 : decode cX5_at 2 = .ok (.iload_n 1, 1) := by decide +kernel
theorem dX5_at_3 : decode cX5_at 3 = .ok (.iload_n 2, 1) := by decide +kernel
theorem dX5_at_4 : decode cX5_at 4 = .ok (.invokevirtual 120, 3) := by decide +kernel
theorem dX5_at_7 : decode cX5_at 7 = .ok (.ifCond .ne 7, 3) := by decide +kernel
theorem dX5_at_10 : decode cX5_at 10 = .ok (.iconst 1, 1) := by decide +kernel
theorem dX5_at_11 : decode cX5_at 11 = .ok (.goto 4, 3) := by decide +kernel
theorem dX5_at_14 : decode cX5_at 14 = .ok (.iconst 0, 1) := by decide +kernel
theorem dX5_at_15 : decode cX5_at 15 = .ok (.putfield 41, 3) := by decide +kernel
theorem dX5_at_18 : decode cX5_at 18 = .ok (.aload_n 0, 1) := by decide +kernel
theorem dX5_at_19 : decode cX5_at 19 = .ok (.getfield 41, 3) := by decide +kernel
theorem dX5_at_22 : decode cX5_at 22 = .ok (.ifCond .eq 7, 3) := by decide +kernel
theorem dX5_at_25 : decode cX5_at 25 = .ok (.iconst 0, 1) := by decide +kernel
theorem dX5_at_26 : decode cX5_at 26 = .ok (.goto 9, 3) := by decide +kernel
theorem dX5_at_29 : decode cX5_at 29 = .ok (.aload_n 0, 1) := by decide +kernel
theorem dX5_at_30 : decode cX5_at 30 = .ok (.iload_n 1, 1) := by decide +kernel
theorem dX5_at_31 : decode cX5_at 31 = .ok (.iload_n 2, 1) := by decide +kernel
theorem dX5_at_32 : decode cX5_at 32 = .ok (.invokevirtual 97, 3) := by decide +kernel
theorem dX5_at_35 : decode cX5_at 35 = .ok (.ireturn, 1) := by decide +kernel
set_option maxRecDepth 20000 in
theorem ggX5_steps_X5_isPlace : GoodIn wsX5_steps wsX5_isPlace := goodIn_r _ [6, 7, 8, 9, 5, 10, 11, 12, 13, 14, 15, 16, 17, 18, 19, 20, 21, 22, 23, 24, 25, 26, 27, 28, 29, 30, 31, 32, 33, 34] (by decide +kernel) (by decide +kernel)
set_option maxRecDepth 20000 in
theorem gX5_steps_X5_isPlace : GoodIn wsX5_steps (wsV RX5 120 RX5 yX5_isPlace wsX5_isPlace) := goodIn_app (goodIn_of _ (by decide +kernel)) ggX5_steps_X5_isPlace
set_option maxRecDepth 20000 in
theorem ggX5_steps_X5_of : GoodIn wsX5_steps wsX5_of := goodIn_r _ [18, 11, 19, 20, 21, 22, 23, 24, 25, 26, 27, 28, 29, 30, 31, 32, 33, 34] (by decide +kernel) (by decide +kernel)
set_option maxRecDepth 20000 in
theorem gX5_steps_X5_of : GoodIn wsX5_steps (wsV RX5 56 RX5 yX5_of wsX5_of) := goodIn_app (goodIn_of _ (by decide +kernel)) ggX5_steps_X5_of
theorem dX5_steps_0 : decode cX5_steps 0 = .ok (.aload_n 0, 1) := by decide +kernel
theorem dX5_steps_1 : decode cX5_steps 1 = .ok (.aload_n 0, 1) := by decide +kernel
theorem dX5_steps_2 : decode cX5_steps 2 = .ok (.iload_n 1, 1) := by decide +kernel
theorem dX5_steps_3 : decode cX5_steps 3 = .ok (.iload_n 2, 1) := by decide +kernel
theorem dX5_steps_4 : decode cX5_steps 4 = .ok (.invokevirtual 120, 3) := by decide +kernel
theorem dX5_steps_7 : decode cX5_steps 7 = .ok (.ifCond .ne 7, 3) := by decide +kernel
theorem dX5_steps_10 : decode cX5_steps 10 = .ok (.iconst 1, 1) := by decide +kernel
theorem dX5_steps_11 : decode cX5_steps 11 = .ok (.goto 4, 3) := by decide +kernel
theorem dX5_steps_14 : decode cX5_steps 14 = .ok (.iconst 0, 1) := by decide +kernel
theorem dX5_steps_15 : decode cX5_steps 15 = .ok (.putfield 41, 3) := by decide +kernel
theorem dX5_steps_18 : decode cX5_steps 18 = .ok (.aload_n 0, 1) := by decide +kernel
theorem dX5_steps_19 : decode cX5_steps 19 = .ok (.getfield 41, 3) := by decide +kernel
theorem dX5_steps_22 : decode cX5_steps 22 = .ok (.ifCond .eq 5, 3) := by decide +kernel
theorem dX5_steps_25 : decode cX5_steps 25 = .ok (.iconst 0, 1) := by decide +kernel
theorem dX5_steps_26 : decode cX5_steps 26 = .ok (.ireturn, 1) := by decide +kernel
theorem dX5_steps_27 : decode cX5_steps 27 = .ok (.iload_n 2, 1) := by decide +kernel
theorem dX5_steps_28 : decode cX5_steps 28 = .ok (.aload_n 0, 1) := by decide +kernel
theorem dX5_steps_29 : decode cX5_steps 29 = .ok (.iload_n 1, 1) := by decide +kernel
theorem dX5_steps_30 : decode cX5_steps 30 = .ok (.iconst 2, 1) := by decide +kernel
theorem dX5_steps_31 : decode cX5_steps 31 = .ok (.invokevirtual 56, 3) := by decide +kernel
theorem dX5_steps_34 : decode cX5_steps 34 = .ok (.if_icmp .ge 9, 3) := by decide +kernel
theorem dX5_steps_37 : decode cX5_steps 37 = .ok (.iload_n 2, 1) := by decide +kernel
theorem dX5_steps_38 : decode cX5_steps 38 = .ok (.iconst 1, 1) := by decide +kernel
theorem dX5_steps_39 : decode cX5_steps 39 = .ok (.iadd, 1) := by decide +kernel
theorem dX5_steps_40 : decode cX5_steps 40 = .ok (.goto 11, 3) := by decide +kernel
theorem dX5_steps_43 : decode cX5_steps 43 = .ok (.aload_n 0, 1) := by decide +kernel
theorem dX5_steps_44 : decode cX5_steps 44 = .ok (.iload_n 1, 1) := by decide +kernel
theorem dX5_steps_45 : decode cX5_steps 45 = .ok (.iconst 1, 1) := by decide +kernel
theorem dX5_steps_46 : decode cX5_steps 46 = .ok (.invokevirtual 56, 3) := by decide +kernel
theorem dX5_steps_49 : decode cX5_steps 49 = .ok (.iload_n 2, 1) := by decide +kernel
theorem dX5_steps_50 : decode cX5_steps 50 = .ok (.isub, 1) := by decide +kernel
theorem dX5_steps_51 : decode cX5_steps 51 = .ok (.ireturn, 1) := by decide +kernel
set_option maxRecDepth 20000 in
theorem ggX5_hasChild_X5_of : GoodIn wsX5_hasChild wsX5_of := goodIn_r _ [6, 1, 7, 8, 9, 10, 11, 12, 13, 14, 15, 16, 17, 18, 19, 20, 21, 22] (by decide +kernel) (by decide +kernel)
set_option maxRecDepth 20000 in
theorem gX5_hasChild_X5_of : GoodIn wsX5_hasChild (wsV RX5 56 RX5 yX5_of wsX5_of) := goodIn_app (goodIn_of _ (by decide +kernel)) ggX5_hasChild_X5_of
theorem dX5_hasChild_0 : decode cX5_hasChild 0 = .ok (.iload_n 1, 1) := by decide +kernel
theorem dX5_hasChild_1 : decode cX5_hasChild 1 = .ok (.iconst 1, 1) := by decide +kernel
theorem dX5_hasChild_2 : decode cX5_hasChild 2 = .ok (.iadd, 1) := by decide +kernel
theorem dX5_hasChild_3 : decode cX5_hasChild 3 = .ok (.istore_n 2, 1) := by decide +kernel
theorem dX5_hasChild_4 : decode cX5_hasChild 4 = .ok (.iload_n 2, 1) := by decide +kernel
theorem dX5_hasChild_5 : decode cX5_hasChild 5 = .ok (.aload_n 0, 1) := by decide +kernel
theorem dX5_hasChild_6 : decode cX5_hasChild 6 = .ok (.getfield 7, 3) := by decide +kernel
theorem dX5_hasChild_9 : decode cX5_hasChild 9 = .ok (.iconst 2, 1) := by decide +kernel
theorem dX5_hasChild_10 : decode cX5_hasChild 10 = .ok (.iaload, 1) := by decide +kernel
theorem dX5_hasChild_11 : decode cX5_hasChild 11 = .ok (.if_icmp .ge 21, 3) := by decide +kernel
theorem dX5_hasChild_14 : decode cX5_hasChild 14 = .ok (.aload_n 0, 1) := by decide +kernel
theorem dX5_hasChild_15 : decode cX5_hasChild 15 = .ok (.iload_n 2, 1) := by decide +kernel
theorem dX5_hasChild_16 : decode cX5_hasChild 16 = .ok (.iconst 0, 1) := by decide +kernel
theorem dX5_hasChild_17 : decode cX5_hasChild 17 = .ok (.invokevirtual 56, 3) := by decide +kernel
theorem dX5_hasChild_20 : decode cX5_hasChild 20 = .ok (.iload_n 1, 1) := by decide +kernel
theorem dX5_hasChild_21 : decode cX5_hasChild 21 = .ok (.if_icmp .ne 5, 3) := by decide +kernel
theorem dX5_hasChild_24 : decode cX5_hasChild 24 = .ok (.iconst 1, 1) := by decide +kernel
theorem dX5_hasChild_25 : decode cX5_hasChild 25 = .ok (.ireturn, 1) := by decide +kernel
theorem dX5_hasChild_26 : decode cX5_hasChild 26 = .ok (.iinc 2 1, 3) := by decide +kernel
theorem dX5_hasChild_29 : decode cX5_hasChild 29 = .ok (.goto (-25), 3) := by decide +kernel
theorem dX5_hasChild_32 : decode cX5_hasChild 32 = .ok (.iconst 0, 1) := by decide +kernel
theorem dX5_hasChild_33 : decode cX5_hasChild 33 = .ok (.ireturn, 1) := by decide +kernel
set_option maxRecDepth 20000 in
theorem ggX5_counted_X5_hasChild : GoodIn wsX5_counted wsX5_hasChild := goodIn_r _ [6, 1, 7, 8, 9, 5, 10, 11, 12, 13, 14, 15, 16, 17, 18, 19, 20, 21, 22, 23, 24, 25, 26] (by decide +kernel) (by decide +kernel)
set_option maxRecDepth 20000 in
theorem gX5_counted_X5_hasChild : GoodIn wsX5_counted (wsV RX5 124 RX5 yX5_hasChild wsX5_hasChild) := goodIn_app (goodIn_of _ (by decide +kernel)) ggX5_counted_X5_hasChild
set_option maxRecDepth 20000 in
theorem ggX5_counted_X5_of : GoodIn wsX5_counted wsX5_of := goodIn_r _ [10, 1, 11, 12, 13, 14, 15, 16, 17, 18, 19, 20, 21, 22, 23, 24, 25, 26] (by decide +kernel) (by decide +kernel)
set_option maxRecDepth 20000 in
theorem gX5_counted_X5_of : GoodIn wsX5_counted (wsV RX5 56 RX5 yX5_of wsX5_of) := goodIn_app (goodIn_of _ (by decide +kernel)) ggX5_counted_X5_of
theorem dX5_counted_0 : decode cX5_counted 0 = .ok (.iconst 0, 1) := by decide +kernel
theorem dX5_counted_1 : decode cX5_counted 1 = .ok (.istore_n 2, 1) := by decide +kernel
theorem dX5_counted_2 : decode cX5_counted 2 = .ok (.iconst 0, 1) := by decide +kernel
theorem dX5_counted_3 : decode cX5_counted 3 = .ok (.istore_n 3, 1) := by decide +kernel
theorem dX5_counted_4 : decode cX5_counted 4 = .ok (.iload_n 3, 1) := by decide +kernel
theorem dX5_counted_5 : decode cX5_counted 5 = .ok (.aload_n 0, 1) := by decide +kernel
theorem dX5_counted_6 : decode cX5_counted 6 = .ok (.getfield 7, 3) := by decide +kernel
theorem dX5_counted_9 : decode cX5_counted 9 = .ok (.iconst 2, 1) := by decide +kernel
theorem dX5_counted_10 : decode cX5_counted 10 = .ok (.iaload, 1) := by decide +kernel
theorem dX5_counted_11 : decode cX5_counted 11 = .ok (.if_icmp .ge 190, 3) := by decide +kernel
theorem dX5_counted_14 : decode cX5_counted 14 = .ok (.iload_n 1, 1) := by decide +kernel
theorem dX5_counted_15 : decode cX5_counted 15 = .ok (.tableswitch 157 0 6 #[41, 47, 66, 90, 102, 123, 136], 41) := by decide +kernel
theorem dX5_counted_56 : decode cX5_counted 56 = .ok (.iinc 2 1, 3) := by decide +kernel
theorem dX5_counted_59 : decode cX5_counted 59 = .ok (.goto 136, 3) := by decide +kernel
theorem dX5_counted_62 : decode cX5_counted 62 = .ok (.iload_n 2, 1) := by decide +kernel
theorem dX5_counted_63 : decode cX5_counted 63 = .ok (.aload_n 0, 1) := by decide +kernel
theorem dX5_counted_64 : decode cX5_counted 64 = .ok (.iload_n 3, 1) := by decide +kernel
theorem dX5_counted_65 : decode cX5_counted 65 = .ok (.invokevirtual 124, 3) := by decide +kernel
theorem dX5_counted_68 : decode cX5_counted 68 = .ok (.ifCond .eq 7, 3) := by decide +kernel
theorem dX5_counted_71 : decode cX5_counted 71 = .ok (.iconst 0, 1) := by decide +kernel
theorem dX5_counted_72 : decode cX5_counted 72 = .ok (.goto 4, 3) := by decide +kernel
theorem dX5_counted_75 : decode cX5_counted 75 = .ok (.iconst 1, 1) := by decide +kernel
theorem dX5_counted_76 : decode cX5_counted 76 = .ok (.iadd, 1) := by decide +kernel
theorem dX5_counted_77 : decode cX5_counted 77 = .ok (.istore_n 2, 1) := by decide +kernel
theorem dX5_counted_78 : decode cX5_counted 78 = .ok (.goto 117, 3) := by decide +kernel
theorem dX5_counted_81 : decode cX5_counted 81 = .ok (.aload_n 0, 1) := by decide +kernel
theorem dX5_counted_82 : decode cX5_counted 82 = .ok (.iload_n 3, 1) := by decide +kernel
theorem dX5_counted_83 : decode cX5_counted 83 = .ok (.iconst 5, 1) := by decide +kernel
theorem dX5_counted_84 : decode cX5_counted 84 = .ok (.invokevirtual 56, 3) := by decide +kernel
theorem dX5_counted_87 : decode cX5_counted 87 = .ok (.iload_n 2, 1) := by decide +kernel
theorem dX5_counted_88 : decode cX5_counted 88 = .ok (.if_icmp .le 12, 3) := by decide +kernel
theorem dX5_counted_91 : decode cX5_counted 91 = .ok (.aload_n 0, 1) := by decide +kernel
theorem dX5_counted_92 : decode cX5_counted 92 = .ok (.iload_n 3, 1) := by decide +kernel
theorem dX5_counted_93 : decode cX5_counted 93 = .ok (.iconst 5, 1) := by decide +kernel
theorem dX5_counted_94 : decode cX5_counted 94 = .ok (.invokevirtual 56, 3) := by decide +kernel
theorem dX5_counted_97 : decode cX5_counted 97 = .ok (.goto 4, 3) := by decide +kernel
theorem dX5_counted_100 : decode cX5_counted 100 = .ok (.iload_n 2, 1) := by decide +kernel
theorem dX5_counted_101 : decode cX5_counted 101 = .ok (.istore_n 2, 1) := by decide +kernel
theorem dX5_counted_102 : decode cX5_counted 102 = .ok (.goto 93, 3) := by decide +kernel
theorem dX5_counted_105 : decode cX5_counted 105 = .ok (.iload_n 2, 1) := by decide +kernel
theorem dX5_counted_106 : decode cX5_counted 106 = .ok (.aload_n 0, 1) := by decide +kernel
theorem dX5_counted_107 : decode cX5_counted 107 = .ok (.iload_n 3, 1) := by decide +kernel
theorem dX5_counted_108 : decode cX5_counted 108 = .ok (.iconst 5, 1) := by decide +kernel
theorem dX5_counted_109 : decode cX5_counted 109 = .ok (.invokevirtual 56, 3) := by decide +kernel
theorem dX5_counted_112 : decode cX5_counted 112 = .ok (.iadd, 1) := by decide +kernel
theorem dX5_counted_113 : decode cX5_counted 113 = .ok (.istore_n 2, 1) := by decide +kernel
theorem dX5_counted_114 : decode cX5_counted 114 = .ok (.goto 81, 3) := by decide +kernel
theorem dX5_counted_117 : decode cX5_counted 117 = .ok (.iload_n 2, 1) := by decide +kernel
theorem dX5_counted_118 : decode cX5_counted 118 = .ok (.aload_n 0, 1) := by decide +kernel
theorem dX5_counted_119 : decode cX5_counted 119 = .ok (.iload_n 3, 1) := by decide +kernel
theorem dX5_counted_120 : decode cX5_counted 120 = .ok (.bipush 6, 2) := by decide +kernel
theorem dX5_counted_122 : decode cX5_counted 122 = .ok (.invokevirtual 56, 3) := by decide +kernel
theorem dX5_counted_125 : decode cX5_counted 125 = .ok (.ifCond .le 7, 3) := by decide +kernel
theorem dX5_counted_128 : decode cX5_counted 128 = .ok (.iconst 1, 1) := by decide +kernel
theorem dX5_counted_129 : decode cX5_counted 129 = .ok (.goto 4, 3) := by decide +kernel
theorem dX5_counted_132 : decode cX5_counted 132 = .ok (.iconst 0, 1) := by decide +kernel
theorem dX5_counted_133 : decode cX5_counted 133 = .ok (.iadd, 1) := by decide +kernel
theorem dX5_counted_134 : decode cX5_counted 134 = .ok (.istore_n 2, 1) := by decide +kernel
theorem dX5_counted_135 : decode cX5_counted 135 = .ok (.goto 60, 3) := by decide +kernel
theorem dX5_counted_138 : decode cX5_counted 138 = .ok (.iload_n 2, 1) := by decide +kernel
theorem dX5_counted_139 : decode cX5_counted 139 = .ok (.aload_n 0, 1) := by decide +kernel
theorem dX5_counted_140 : decode cX5_counted 140 = .ok (.iload_n 3, 1) := by decide +kernel
theorem dX5_counted_141 : decode cX5_counted 141 = .ok (.bipush 6, 2) := by decide +kernel
theorem dX5_counted_143 : decode cX5_counted 143 = .ok (.invokevirtual 56, 3) := by decide +kernel
theorem dX5_counted_146 : decode cX5_counted 146 = .ok (.iadd, 1) := by decide +kernel
theorem dX5_counted_147 : decode cX5_counted 147 = .ok (.istore_n 2, 1) := by decide +kernel
theorem dX5_counted_148 : decode cX5_counted 148 = .ok (.goto 47, 3) := by decide +kernel
theorem dX5_counted_151 : decode cX5_counted 151 = .ok (.iload_n 2, 1) := by decide +kernel
theorem dX5_counted_152 : decode cX5_counted 152 = .ok (.aload_n 0, 1) := by decide +kernel
theorem dX5_counted_153 : decode cX5_counted 153 = .ok (.iload_n 3, 1) := by decide +kernel
theorem dX5_counted_154 : decode cX5_counted 154 = .ok (.iconst 4, 1) := by decide +kernel
theorem dX5_counted_155 : decode cX5_counted 155 = .ok (.invokevirtual 56, 3) := by decide +kernel
theorem dX5_counted_158 : decode cX5_counted 158 = .ok (.iconst (-1), 1) := by decide +kernel
theorem dX5_counted_159 : decode cX5_counted 159 = .ok (.if_icmp .eq 7, 3) := by decide +kernel
theorem dX5_counted_162 : decode cX5_counted 162 = .ok (.iconst 1, 1) := by decide +kernel
theorem dX5_counted_163 : decode cX5_counted 163 = .ok (.goto 4, 3) := by decide +kernel
theorem dX5_counted_166 : decode cX5_counted 166 = .ok (.iconst 0, 1) := by decide +kernel
theorem dX5_counted_167 : decode cX5_counted 167 = .ok (.iadd, 1) := by decide +kernel
theorem dX5_counted_168 : decode cX5_counted 168 = .ok (.istore_n 2, 1) := by decide +kernel
theorem dX5_counted_169 : decode cX5_counted 169 = .ok (.goto 26, 3) := by decide +kernel
theorem dX5_counted_172 : decode cX5_counted 172 = .ok (.aload_n 0, 1) := by decide +kernel
theorem dX5_counted_173 : decode cX5_counted 173 = .ok (.iload_n 3, 1) := by decide +kernel
theorem dX5_counted_174 : decode cX5_counted 174 = .ok (.bipush 8, 2) := by decide +kernel
theorem dX5_counted_176 : decode cX5_counted 176 = .ok (.invokevirtual 56, 3) := by decide +kernel
theorem dX5_counted_179 : decode cX5_counted 179 = .ok (.iload_n 2, 1) := by decide +kernel
theorem dX5_counted_180 : decode cX5_counted 180 = .ok (.if_icmp .le 13, 3) := by decide +kernel
theorem dX5_counted_183 : decode cX5_counted 183 = .ok (.aload_n 0, 1) := by decide +kernel
theorem dX5_counted_184 : decode cX5_counted 184 = .ok (.iload_n 3, 1) := by decide +kernel
theorem dX5_counted_185 : decode cX5_counted 185 = .ok (.bipush 8, 2) := by decide +kernel
theorem dX5_counted_187 : decode cX5_counted 187 = .ok (.invokevirtual 56, 3) := by decide +kernel
theorem dX5_counted_190 : decode cX5_counted 190 = .ok (.goto 4, 3) := by decide +kernel
theorem dX5_counted_193 : decode cX5_counted 193 = .ok (.iload_n 2, 1) := by decide +kernel
theorem dX5_counted_194 : decode cX5_counted 194 = .ok (.istore_n 2, 1) := by decide +kernel
theorem dX5_counted_195 : decode cX5_counted 195 = .ok (.iinc 3 1, 3) := by decide +kernel
theorem dX5_counted_198 : decode cX5_counted 198 = .ok (.goto (-194), 3) := by decide +kernel
theorem dX5_counted_201 : decode cX5_counted 201 = .ok (.iload_n 2, 1) := by decide +kernel
theorem dX5_counted_202 : decode cX5_counted 202 = .ok (.ireturn, 1) := by decide +kernel
set_option maxRecDepth 20000 in
theorem ggX5_count_X5_in : GoodIn wsX5_count wsX5_in := goodIn_r _ [5] (by decide +kernel) (by decide +kernel)
set_option maxRecDepth 20000 in
theorem gX5_count_X5_in : GoodIn wsX5_count (va_wsS RX5 52 yX5_in wsX5_in) := goodIn_app (goodIn_of _ (by decide +kernel)) ggX5_count_X5_in
set_option maxRecDepth 20000 in
theorem ggX5_count_X5_counted : GoodIn wsX5_count wsX5_counted := goodIn_r _ [9, 10, 11, 12, 13, 4, 14, 15, 16, 17, 18, 19, 20, 21, 22, 23, 24, 25, 26, 27, 28, 29, 30, 31, 32, 33, 34] (by decide +kernel) (by decide +kernel)
set_option maxRecDepth 20000 in
theorem gX5_count_X5_counted : GoodIn wsX5_count (wsV RX5 127 RX5 yX5_counted wsX5_counted) := goodIn_app (goodIn_of _ (by decide +kernel)) ggX5_count_X5_counted
theorem dX5_count_0 : decode cX5_count 0 = .ok (.aload_n 0, 1) := by decide +kernel
theorem dX5_count_1 : decode cX5_count 1 = .ok (.iload_n 1, 1) := by decide +kernel
theorem dX5_count_2 : decode cX5_count 2 = .ok (.iconst 0, 1) := by decide +kernel
theorem dX5_count_3 : decode cX5_count 3 = .ok (.bipush 7, 2) := by decide +kernel
theorem dX5_count_5 : decode cX5_count 5 = .ok (.invokestatic 52, 3) := by decide +kernel
theorem dX5_count_8 : decode cX5_count 8 = .ok (.ifCond .ne 7, 3) := by decide +kernel
theorem dX5_count_11 : decode cX5_count 11 = .ok (.iconst 1, 1) := by decide +kernel
theorem dX5_count_12 : decode cX5_count 12 = .ok (.goto 4, 3) := by decide +kernel
theorem dX5_count_15 : decode cX5_count 15 = .ok (.iconst 0, 1) := by decide +kernel
theorem dX5_count_16 : decode cX5_count 16 = .ok (.putfield 41, 3) := by decide +kernel
theorem dX5_count_19 : decode cX5_count 19 = .ok (.aload_n 0, 1) := by decide +kernel
theorem dX5_count_20 : decode cX5_count 20 = .ok (.getfield 41, 3) := by decide +kernel
theorem dX5_count_23 : decode cX5_count 23 = .ok (.ifCond .eq 7, 3) := by decide +kernel
theorem dX5_count_26 : decode cX5_count 26 = .ok (.iconst 0, 1) := by decide +kernel
theorem dX5_count_27 : decode cX5_count 27 = .ok (.goto 8, 3) := by decide +kernel
theorem dX5_count_30 : decode cX5_count 30 = .ok (.aload_n 0, 1) := by decide +kernel
theorem dX5_count_31 : decode cX5_count 31 = .ok (.iload_n 1, 1) := by decide +kernel
theorem dX5_count_32 : decode cX5_count 32 = .ok (.invokevirtual 127, 3) := by decide +kernel
theorem dX5_count_35 : decode cX5_count 35 = .ok (.ireturn, 1) := by decide +kernel
set_option maxRecDepth 20000 in
theorem ggX5_setting_X5_in : GoodIn wsX5_setting wsX5_in := goodIn_r _ [6] (by decide +kernel) (by decide +kernel)
set_option maxRecDepth 20000 in
theorem gX5_setting_X5_in : GoodIn wsX5_setting (va_wsS RX5 52 yX5_in wsX5_in) := goodIn_app (goodIn_of _ (by decide +kernel)) ggX5_setting_X5_in
theorem dX5_setting_0 : decode cX5_setting 0 = .ok (.aload_n 0, 1) := by decide +kernel
theorem dX5_setting_1 : decode cX5_setting 1 = .ok (.iload_n 1, 1) := by decide +kernel
theorem dX5_setting_2 : decode cX5_setting 2 = .ok (.iconst 0, 1) := by decide +kernel
theorem dX5_setting_3 : decode cX5_setting 3 = .ok (.iconst 1, 1) := by decide +kernel
theorem dX5_setting_4 : decode cX5_setting 4 = .ok (.invokestatic 52, 3) := by decide +kernel
theorem dX5_setting_7 : decode cX5_setting 7 = .ok (.ifCond .ne 7, 3) := by decide +kernel
theorem dX5_setting_10 : decode cX5_setting 10 = .ok (.iconst 1, 1) := by decide +kernel
theorem dX5_setting_11 : decode cX5_setting 11 = .ok (.goto 4, 3) := by decide +kernel
theorem dX5_setting_14 : decode cX5_setting 14 = .ok (.iconst 0, 1) := by decide +kernel
theorem dX5_setting_15 : decode cX5_setting 15 = .ok (.putfield 41, 3) := by decide +kernel
theorem dX5_setting_18 : decode cX5_setting 18 = .ok (.aload_n 0, 1) := by decide +kernel
theorem dX5_setting_19 : decode cX5_setting 19 = .ok (.getfield 41, 3) := by decide +kernel
theorem dX5_setting_22 : decode cX5_setting 22 = .ok (.ifCond .eq 7, 3) := by decide +kernel
theorem dX5_setting_25 : decode cX5_setting 25 = .ok (.iconst 0, 1) := by decide +kernel
theorem dX5_setting_26 : decode cX5_setting 26 = .ok (.goto 9, 3) := by decide +kernel
theorem dX5_setting_29 : decode cX5_setting 29 = .ok (.aload_n 0, 1) := by decide +kernel
theorem dX5_setting_30 : decode cX5_setting 30 = .ok (.getfield 7, 3) := by decide +kernel
theorem dX5_setting_33 : decode cX5_setting 33 = .ok (.iload_n 1, 1) := by decide +kernel
theorem dX5_setting_34 : decode cX5_setting 34 = .ok (.iaload, 1) := by decide +kernel
theorem dX5_setting_35 : decode cX5_setting 35 = .ok (.ireturn, 1) := by decide +kernel
set_option maxRecDepth 20000 in
theorem ggX5_common_X5_isVersion : GoodIn wsX5_common wsX5_isVersion := goodIn_r _ [6, 7, 8, 9, 5, 10, 15, 16, 17, 18, 19, 20, 21, 22, 23, 24, 25, 26, 27, 28, 29, 30] (by decide +kernel) (by decide +kernel)
set_option maxRecDepth 20000 in
theorem gX5_common_X5_isVersion : GoodIn wsX5_common (wsV RX5 107 RX5 yX5_isVersion wsX5_isVersion) := goodIn_app (goodIn_of _ (by decide +kernel)) ggX5_common_X5_isVersion
set_option maxRecDepth 20000 in
theorem ggX5_common_X5_of : GoodIn wsX5_common wsX5_of := goodIn_r _ [14, 7, 15, 16, 17, 18, 19, 20, 21, 22, 23, 24, 25, 26, 27, 28, 29, 30] (by decide +kernel) (by decide +kernel)
set_option maxRecDepth 20000 in
theorem gX5_common_X5_of : GoodIn wsX5_common (wsV RX5 56 RX5 yX5_of wsX5_of) := goodIn_app (goodIn_of _ (by decide +kernel)) ggX5_common_X5_of
theorem dX5_common_0 : decode cX5_common 0 = .ok (.aload_n 0, 1) := by decide +kernel
theorem dX5_common_1 : decode cX5_common 1 = .ok (.aload_n 0, 1) := by decide +kernel
theorem dX5_common_2 : decode cX5_common 2 = .ok (.iload_n 1, 1) := by decide +kernel
theorem dX5_common_3 : decode cX5_common 3 = .ok (.invokevirtual 107, 3) := by decide +kernel
theorem dX5_common_6 : decode cX5_common 6 = .ok (.ifCond .eq 11, 3) := by decide +kernel
theorem dX5_common_9 : decode cX5_common 9 = .ok (.aload_n 0, 1) := by decide +kernel
theorem dX5_common_10 : decode cX5_common 10 = .ok (.iload_n 2, 1) := by decide +kernel
theorem dX5_common_11 : decode cX5_common 11 = .ok (.invokevirtual 107, 3) := by decide +kernel
theorem dX5_common_14 : decode cX5_common 14 = .ok (.ifCond .ne 7, 3) := by decide +kernel
theorem dX5_common_17 : decode cX5_common 17 = .ok (.iconst 1, 1) := by decide +kernel
theorem dX5_common_18 : decode cX5_common 18 = .ok (.goto 4, 3) := by decide +kernel
theorem dX5_common_21 : decode cX5_common 21 = .ok (.iconst 0, 1) := by decide +kernel
theorem dX5_common_22 : decode cX5_common 22 = .ok (.putfield 41, 3) := by decide +kernel
theorem dX5_common_25 : decode cX5_common 25 = .ok (.aload_n 0, 1) := by decide +kernel
theorem dX5_common_26 : decode cX5_common 26 = .ok (.getfield 41, 3) := by decide +kernel
theorem dX5_common_29 : decode cX5_common 29 = .ok (.ifCond .eq 5, 3) := by decide +kernel
theorem dX5_common_32 : decode cX5_common 32 = .ok (.iconst 0, 1) := by decide +kernel
theorem dX5_common_33 : decode cX5_common 33 = .ok (.ireturn, 1) := by decide +kernel
theorem dX5_common_34 : decode cX5_common 34 = .ok (.iload_n 1, 1) := by decide +kernel
theorem dX5_common_35 : decode cX5_common 35 = .ok (.istore_n 3, 1) := by decide +kernel
theorem dX5_common_36 : decode cX5_common 36 = .ok (.iload_n 2, 1) := by decide +kernel
theorem dX5_common_37 : decode cX5_common 37 = .ok (.istore 4, 2) := by decide +kernel
theorem dX5_common_39 : decode cX5_common 39 = .ok (.iload_n 3, 1) := by decide +kernel
theorem dX5_common_40 : decode cX5_common 40 = .ok (.iload 4, 2) := by decide +kernel
theorem dX5_common_42 : decode cX5_common 42 = .ok (.if_icmp .eq 75, 3) := by decide +kernel
theorem dX5_common_45 : decode cX5_common 45 = .ok (.aload_n 0, 1) := by decide +kernel
theorem dX5_common_46 : decode cX5_common 46 = .ok (.iload_n 3, 1) := by decide +kernel
theorem dX5_common_47 : decode cX5_common 47 = .ok (.bipush 8, 2) := by decide +kernel
theorem dX5_common_49 : decode cX5_common 49 = .ok (.invokevirtual 56, 3) := by decide +kernel
theorem dX5_common_52 : decode cX5_common 52 = .ok (.aload_n 0, 1) := by decide +kernel
theorem dX5_common_53 : decode cX5_common 53 = .ok (.iload 4, 2) := by decide +kernel
theorem dX5_common_55 : decode cX5_common 55 = .ok (.bipush 8, 2) := by decide +kernel
theorem dX5_common_57 : decode cX5_common 57 = .ok (.invokevirtual 56, 3) := by decide +kernel
theorem dX5_common_60 : decode cX5_common 60 = .ok (.if_icmp .le 7, 3) := by decide +kernel
theorem dX5_common_63 : decode cX5_common 63 = .ok (.iconst 1, 1) := by decide +kernel
theorem dX5_common_64 : decode cX5_common 64 = .ok (.goto 4, 3) := by decide +kernel
theorem dX5_common_67 : decode cX5_common 67 = .ok (.iconst 0, 1) := by decide +kernel
theorem dX5_common_68 : decode cX5_common 68 = .ok (.istore 5, 2) := by decide +kernel
theorem dX5_common_70 : decode cX5_common 70 = .ok (.aload_n 0, 1) := by decide +kernel
theorem dX5_common_71 : decode cX5_common 71 = .ok (.iload 5, 2) := by decide +kernel
theorem dX5_common_73 : decode cX5_common 73 = .ok (.ifCond .eq 7, 3) := by decide +kernel
theorem dX5_common_76 : decode cX5_common 76 = .ok (.iload_n 3, 1) := by decide +kernel
theorem dX5_common_77 : decode cX5_common 77 = .ok (.goto 5, 3) := by decide +kernel
theorem dX5_common_80 : decode cX5_common 80 = .ok (.iload 4, 2) := by decide +kernel
theorem dX5_common_82 : decode cX5_common 82 = .ok (.iconst 0, 1) := by decide +kernel
theorem dX5_common_83 : decode cX5_common 83 = .ok (.invokevirtual 56, 3) := by decide +kernel
theorem dX5_common_86 : decode cX5_common 86 = .ok (.istore 6, 2) := by decide +kernel
theorem dX5_common_88 : decode cX5_common 88 = .ok (.iload 5, 2) := by decide +kernel
theorem dX5_common_90 : decode cX5_common 90 = .ok (.ifCond .eq 8, 3) := by decide +kernel
theorem dX5_common_93 : decode cX5_common 93 = .ok (.iload 6, 2) := by decide +kernel
theorem dX5_common_95 : decode cX5_common 95 = .ok (.goto 4, 3) := by decide +kernel
theorem dX5_common_98 : decode cX5_common 98 = .ok (.iload_n 3, 1) := by decide +kernel
theorem dX5_common_99 : decode cX5_common 99 = .ok (.istore_n 3, 1) := by decide +kernel
theorem dX5_common_100 : decode cX5_common 100 = .ok (.iload 5, 2) := by decide +kernel
theorem dX5_common_102 : decode cX5_common 102 = .ok (.ifCond .eq 8, 3) := by decide +kernel
theorem dX5_common_105 : decode cX5_common 105 = .ok (.iload 4, 2) := by decide +kernel
theorem dX5_common_107 : decode cX5_common 107 = .ok (.goto 5, 3) := by decide +kernel
theorem dX5_common_110 : decode cX5_common 110 = .ok (.iload 6, 2) := by decide +kernel
theorem dX5_common_112 : decode cX5_common 112 = .ok (.istore 4, 2) := by decide +kernel
theorem dX5_common_114 : decode cX5_common 114 = .ok (.goto (-75), 3) := by decide +kernel
theorem dX5_common_117 : decode cX5_common 117 = .ok (.iload_n 3, 1) := by decide +kernel
theorem dX5_common_118 : decode cX5_common 118 = .ok (.ireturn, 1) := by decide +kernel
set_option maxRecDepth 20000 in
theorem ggX5_areSame_X5_of : GoodIn wsX5_areSame wsX5_of := goodIn_r _ [8, 9, 20, 21, 22, 23, 24, 25, 26, 27, 28, 29, 30, 31, 32, 33, 34, 35] (by decide +kernel) (by decide +kernel)
set_option maxRecDepth 20000 in
theorem gX5_areSame_X5_of : GoodIn wsX5_areSame (wsV RX5 56 RX5 yX5_of wsX5_of) := goodIn_app (goodIn_of _ (by decide +kernel)) ggX5_areSame_X5_of
set_option maxRecDepth 20000 in
theorem ggX5_areSame_X5_laysRow : GoodIn wsX5_areSame wsX5_laysRow := goodIn_r _ [13, 3, 14, 15, 2, 16, 17, 18, 7, 19, 4, 5, 6, 8, 9, 20, 21, 22, 23, 24, 25, 26, 27, 28, 29, 30, 31, 32, 33, 34, 35] (by decide +kernel) (by decide +kernel)
set_option maxRecDepth 20000 in
theorem gX5_areSame_X5_laysRow : GoodIn wsX5_areSame (wsV RX5 70 RX5 yX5_laysRow wsX5_laysRow) := goodIn_app (goodIn_of _ (by decide +kernel)) ggX5_areSame_X5_laysRow
theorem dX5_areSame_0 : decode cX5_areSame 0 = .ok (.aload_n 0, 1) := by decide +kernel
theorem dX5_areSame_1 : decode cX5_areSame 1 = .ok (.iload_n 1, 1) := by decide +kernel
theorem dX5_areSame_2 : decode cX5_areSame 2 = .ok (.iconst 1, 1) := by decide +kernel
theorem dX5_areSame_3 : decode cX5_areSame 3 = .ok (.invokevirtual 56, 3) := by decide +kernel
theorem dX5_areSame_6 : decode cX5_areSame 6 = .ok (.istore_n 3, 1) := by decide +kernel
theorem dX5_areSame_7 : decode cX5_areSame 7 = .ok (.aload_n 0, 1) := by decide +kernel
theorem dX5_areSame_8 : decode cX5_areSame 8 = .ok (.iload_n 2, 1) := by decide +kernel
theorem dX5_areSame_9 : decode cX5_areSame 9 = .ok (.iconst 1, 1) := by decide +kernel
theorem dX5_areSame_10 : decode cX5_areSame 10 = .ok (.invokevirtual 56, 3) := by decide +kernel
theorem dX5_areSame_13 : decode cX5_areSame 13 = .ok (.iload_n 3, 1) := by decide +kernel
theorem dX5_areSame_14 : decode cX5_areSame 14 = .ok (.if_icmp .eq 5, 3) := by decide +kernel
theorem dX5_areSame_17 : decode cX5_areSame 17 = .ok (.iconst 0, 1) := by decide +kernel
theorem dX5_areSame_18 : decode cX5_areSame 18 = .ok (.ireturn, 1) := by decide +kernel
theorem dX5_areSame_19 : decode cX5_areSame 19 = .ok (.aload_n 0, 1) := by decide +kernel
theorem dX5_areSame_20 : decode cX5_areSame 20 = .ok (.iload_n 1, 1) := by decide +kernel
theorem dX5_areSame_21 : decode cX5_areSame 21 = .ok (.invokevirtual 70, 3) := by decide +kernel
theorem dX5_areSame_24 : decode cX5_areSame 24 = .ok (.iconst 0, 1) := by decide +kernel
theorem dX5_areSame_25 : decode cX5_areSame 25 = .ok (.istore 4, 2) := by decide +kernel
theorem dX5_areSame_27 : decode cX5_areSame 27 = .ok (.iload 4, 2) := by decide +kernel
theorem dX5_areSame_29 : decode cX5_areSame 29 = .ok (.iload_n 3, 1) := by decide +kernel
theorem dX5_areSame_30 : decode cX5_areSame 30 = .ok (.if_icmp .ge 28, 3) := by decide +kernel
theorem dX5_areSame_33 : decode cX5_areSame 33 = .ok (.aload_n 0, 1) := by decide +kernel
theorem dX5_areSame_34 : decode cX5_areSame 34 = .ok (.getfield 28, 3) := by decide +kernel
theorem dX5_areSame_37 : decode cX5_areSame 37 = .ok (.iload 4, 2) := by decide +kernel
theorem dX5_areSame_39 : decode cX5_areSame 39 = .ok (.aload_n 0, 1) := by decide +kernel
theorem dX5_areSame_40 : decode cX5_areSame 40 = .ok (.getfield 22, 3) := by decide +kernel
theorem dX5_areSame_43 : decode cX5_areSame 43 = .ok (.aload_n 0, 1) := by decide +kernel
theorem dX5_areSame_44 : decode cX5_areSame 44 = .ok (.getfield 64, 3) := by decide +kernel
theorem dX5_areSame_47 : decode cX5_areSame 47 = .ok (.iload 4, 2) := by decide +kernel
theorem dX5_areSame_49 : decode cX5_areSame 49 = .ok (.iadd, 1) := by decide +kernel
theorem dX5_areSame_50 : decode cX5_areSame 50 = .ok (.iaload, 1) := by decide +kernel
theorem dX5_areSame_51 : decode cX5_areSame 51 = .ok (.iastore, 1) := by decide +kernel
theorem dX5_areSame_52 : decode cX5_areSame 52 = .ok (.iinc 4 1, 3) := by decide +kernel
theorem dX5_areSame_55 : decode cX5_areSame 55 = .ok (.goto (-28), 3) := by decide +kernel
theorem dX5_areSame_58 : decode cX5_areSame 58 = .ok (.aload_n 0, 1) := by decide +kernel
theorem dX5_areSame_59 : decode cX5_areSame 59 = .ok (.iload_n 2, 1) := by decide +kernel
theorem dX5_areSame_60 : decode cX5_areSame 60 = .ok (.invokevirtual 70, 3) := by decide +kernel
theorem dX5_areSame_63 : decode cX5_areSame 63 = .ok (.iconst 1, 1) := by decide +kernel
theorem dX5_areSame_64 : decode cX5_areSame 64 = .ok (.istore 4, 2) := by decide +kernel
theorem dX5_areSame_66 : decode cX5_areSame 66 = .ok (.iconst 0, 1) := by decide +kernel
theorem dX5_areSame_67 : decode cX5_areSame 67 = .ok (.istore 5, 2) := by decide +kernel
theorem dX5_areSame_69 : decode cX5_areSame 69 = .ok (.iload 5, 2) := by decide +kernel
theorem dX5_areSame_71 : decode cX5_areSame 71 = .ok (.iload_n 3, 1) := by decide +kernel
theorem dX5_areSame_72 : decode cX5_areSame 72 = .ok (.if_icmp .ge 43, 3) := by decide +kernel
theorem dX5_areSame_75 : decode cX5_areSame 75 = .ok (.iload 4, 2) := by decide +kernel
theorem dX5_areSame_77 : decode cX5_areSame 77 = .ok (.ifCond .eq 29, 3) := by decide +kernel
theorem dX5_areSame_80 : decode cX5_areSame 80 = .ok (.aload_n 0, 1) := by decide +kernel
theorem dX5_areSame_81 : decode cX5_areSame 81 = .ok (.getfield 28, 3) := by decide +kernel
theorem dX5_areSame_84 : decode cX5_areSame 84 = .ok (.iload 5, 2) := by decide +kernel
theorem dX5_areSame_86 : decode cX5_areSame 86 = .ok (.iaload, 1) := by decide +kernel
theorem dX5_areSame_87 : decode cX5_areSame 87 = .ok (.aload_n 0, 1) := by decide +kernel
theorem dX5_areSame_88 : decode cX5_areSame 88 = .ok (.getfield 22, 3) := by decide +kernel
theorem dX5_areSame_91 : decode cX5_areSame 91 = .ok (.aload_n 0, 1) := by decide +kernel
theorem dX5_areSame_92 : decode cX5_areSame 92 = .ok (.getfield 64, 3) := by decide +kernel
theorem dX5_areSame_95 : decode cX5_areSame 95 = .ok (.iload 5, 2) := by decide +kernel
theorem dX5_areSame_97 : decode cX5_areSame 97 = .ok (.iadd, 1) := by decide +kernel
theorem dX5_areSame_98 : decode cX5_areSame 98 = .ok (.iaload, 1) := by decide +kernel
theorem dX5_areSame_99 : decode cX5_areSame 99 = .ok (.if_icmp .ne 7, 3) := by decide +kernel
theorem dX5_areSame_102 : decode cX5_areSame 102 = .ok (.iconst 1, 1) := by decide +kernel
theorem dX5_areSame_103 : decode cX5_areSame 103 = .ok (.goto 4, 3) := by decide +kernel
theorem dX5_areSame_106 : decode cX5_areSame 106 = .ok (.iconst 0, 1) := by decide +kernel
theorem dX5_areSame_107 : decode cX5_areSame 107 = .ok (.istore 4, 2) := by decide +kernel
theorem dX5_areSame_109 : decode cX5_areSame 109 = .ok (.iinc 5 1, 3) := by decide +kernel
theorem dX5_areSame_112 : decode cX5_areSame 112 = .ok (.goto (-43), 3) := by decide +kernel
theorem dX5_areSame_115 : decode cX5_areSame 115 = .ok (.iload 4, 2) := by decide +kernel
theorem dX5_areSame_117 : decode cX5_areSame 117 = .ok (.ireturn, 1) := by decide +kernel
set_option maxRecDepth 20000 in
theorem ggX5_same_X5_isVersion : GoodIn wsX5_same wsX5_isVersion := goodIn_r _ [6, 7, 8, 9, 5, 10, 32, 33, 34, 35, 36, 37, 38, 39, 40, 41, 42, 43, 44, 45, 46, 47] (by decide +kernel) (by decide +kernel)
set_option maxRecDepth 20000 in
theorem gX5_same_X5_isVersion : GoodIn wsX5_same (wsV RX5 107 RX5 yX5_isVersion wsX5_isVersion) := goodIn_app (goodIn_of _ (by decide +kernel)) ggX5_same_X5_isVersion
set_option maxRecDepth 20000 in
theorem ggX5_same_X5_areSame : GoodIn wsX5_same wsX5_areSame := goodIn_r _ [14, 15, 16, 17, 18, 19, 20, 5, 21, 7, 22, 23, 24, 25, 26, 27, 28, 29, 30, 31, 32, 33, 34, 35, 36, 37, 38, 39, 40, 41, 42, 43, 44, 45, 46, 47] (by decide +kernel) (by decide +kernel)
set_option maxRecDepth 20000 in
theorem gX5_same_X5_areSame : GoodIn wsX5_same (wsV RX5 130 RX5 yX5_areSame wsX5_areSame) := goodIn_app (goodIn_of _ (by decide +kernel)) ggX5_same_X5_areSame
theorem dX5_same_0 : decode cX5_same 0 = .ok (.aload_n 0, 1) := by decide +kernel
theorem dX5_same_1 : decode cX5_same 1 = .ok (.aload_n 0, 1) := by decide +kernel
theorem dX5_same_2 : decode cX5_same 2 = .ok (.iload_n 1, 1) := by decide +kernel
theorem dX5_same_3 : decode cX5_same 3 = .ok (.invokevirtual 107, 3) := by decide +kernel
theorem dX5_same_6 : decode cX5_same 6 = .ok (.ifCond .eq 11, 3) := by decide +kernel
theorem dX5_same_9 : decode cX5_same 9 = .ok (.aload_n 0, 1) := by decide +kernel
theorem dX5_same_10 : decode cX5_same 10 = .ok (.iload_n 2, 1) := by decide +kernel
theorem dX5_same_11 : decode cX5_same 11 = .ok (.invokevirtual 107, 3) := by decide +kernel
theorem dX5_same_14 : decode cX5_same 14 = .ok (.ifCond .ne 7, 3) := by decide +kernel
theorem dX5_same_17 : decode cX5_same 17 = .ok (.iconst 1, 1) := by decide +kernel
theorem dX5_same_18 : decode cX5_same 18 = .ok (.goto 4, 3) := by decide +kernel
theorem dX5_same_21 : decode cX5_same 21 = .ok (.iconst 0, 1) := by decide +kernel
theorem dX5_same_22 : decode cX5_same 22 = .ok (.putfield 41, 3) := by decide +kernel
theorem dX5_same_25 : decode cX5_same 25 = .ok (.aload_n 0, 1) := by decide +kernel
theorem dX5_same_26 : decode cX5_same 26 = .ok (.getfield 41, 3) := by decide +kernel
theorem dX5_same_29 : decode cX5_same 29 = .ok (.ifCond .ne 16, 3) := by decide +kernel
theorem dX5_same_32 : decode cX5_same 32 = .ok (.aload_n 0, 1) := by decide +kernel
theorem dX5_same_33 : decode cX5_same 33 = .ok (.iload_n 1, 1) := by decide +kernel
theorem dX5_same_34 : decode cX5_same 34 = .ok (.iload_n 2, 1) := by decide +kernel
theorem dX5_same_35 : decode cX5_same 35 = .ok (.invokevirtual 130, 3) := by decide +kernel
theorem dX5_same_38 : decode cX5_same 38 = .ok (.ifCond .eq 7, 3) := by decide +kernel
theorem dX5_same_41 : decode cX5_same 41 = .ok (.iconst 1, 1) := by decide +kernel
theorem dX5_same_42 : decode cX5_same 42 = .ok (.goto 4, 3) := by decide +kernel
theorem dX5_same_45 : decode cX5_same 45 = .ok (.iconst 0, 1) := by decide +kernel
theorem dX5_same_46 : decode cX5_same 46 = .ok (.ireturn, 1) := by decide +kernel
set_option maxRecDepth 20000 in
theorem ggX5_firstLike_X5_isVersion : GoodIn wsX5_firstLike wsX5_isVersion := goodIn_r _ [6, 7, 8, 9, 5, 10, 32, 33, 34, 35, 36, 37, 38, 39, 40, 41, 42, 43, 44, 45, 46, 47] (by decide +kernel) (by decide +kernel)
set_option maxRecDepth 20000 in
theorem gX5_firstLike_X5_isVersion : GoodIn wsX5_firstLike (wsV RX5 107 RX5 yX5_isVersion wsX5_isVersion) := goodIn_app (goodIn_of _ (by decide +kernel)) ggX5_firstLike_X5_isVersion
set_option maxRecDepth 20000 in
theorem ggX5_firstLike_X5_areSame : GoodIn wsX5_firstLike wsX5_areSame := goodIn_r _ [14, 15, 16, 17, 18, 19, 20, 5, 21, 7, 22, 23, 24, 25, 26, 27, 28, 29, 30, 31, 32, 33, 34, 35, 36, 37, 38, 39, 40, 41, 42, 43, 44, 45, 46, 47] (by decide +kernel) (by decide +kernel)
set_option maxRecDepth 20000 in
theorem gX5_firstLike_X5_areSame : GoodIn wsX5_firstLike (wsV RX5 130 RX5 yX5_areSame wsX5_areSame) := goodIn_app (goodIn_of _ (by decide +kernel)) ggX5_firstLike_X5_areSame
theorem dX5_firstLike_0 : decode cX5_firstLike 0 = .ok (.aload_n 0, 1) := by decide +kernel
theorem dX5_firstLike_1 : decode cX5_firstLike 1 = .ok (.aload_n 0, 1) := by decide +kernel
theorem dX5_firstLike_2 : decode cX5_firstLike 2 = .ok (.iload_n 1, 1) := by decide +kernel
theorem dX5_firstLike_3 : decode cX5_firstLike 3 = .ok (.invokevirtual 107, 3) := by decide +kernel
theorem dX5_firstLike_6 : decode cX5_firstLike 6 = .ok (.ifCond .ne 7, 3) := by decide +kernel
theorem dX5_firstLike_9 : decode cX5_firstLike 9 = .ok (.iconst 1, 1) := by decide +kernel
theorem dX5_firstLike_10 : decode cX5_firstLike 10 = .ok (.goto 4, 3) := by decide +kernel
theorem dX5_firstLike_13 : decode cX5_firstLike 13 = .ok (.iconst 0, 1) := by decide +kernel
theorem dX5_firstLike_14 : decode cX5_firstLike 14 = .ok (.putfield 41, 3) := by decide +kernel
theorem dX5_firstLike_17 : decode cX5_firstLike 17 = .ok (.iconst 0, 1) := by decide +kernel
theorem dX5_firstLike_18 : decode cX5_firstLike 18 = .ok (.istore_n 2, 1) := by decide +kernel
theorem dX5_firstLike_19 : decode cX5_firstLike 19 = .ok (.aload_n 0, 1) := by decide +kernel
theorem dX5_firstLike_20 : decode cX5_firstLike 20 = .ok (.getfield 41, 3) := by decide +kernel
theorem dX5_firstLike_23 : decode cX5_firstLike 23 = .ok (.ifCond .ne 18, 3) := by decide +kernel
theorem dX5_firstLike_26 : decode cX5_firstLike 26 = .ok (.aload_n 0, 1) := by decide +kernel
theorem dX5_firstLike_27 : decode cX5_firstLike 27 = .ok (.iload_n 2, 1) := by decide +kernel
theorem dX5_firstLike_28 : decode cX5_firstLike 28 = .ok (.iload_n 1, 1) := by decide +kernel
theorem dX5_firstLike_29 : decode cX5_firstLike 29 = .ok (.invokevirtual 130, 3) := by decide +kernel
theorem dX5_firstLike_32 : decode cX5_firstLike 32 = .ok (.ifCond .ne 9, 3) := by decide +kernel
theorem dX5_firstLike_35 : decode cX5_firstLike 35 = .ok (.iinc 2 1, 3) := by decide +kernel
theorem dX5_firstLike_38 : decode cX5_firstLike 38 = .ok (.goto (-19), 3) := by decide +kernel
theorem dX5_firstLike_41 : decode cX5_firstLike 41 = .ok (.iload_n 2, 1) := by decide +kernel
theorem dX5_firstLike_42 : decode cX5_firstLike 42 = .ok (.ireturn, 1) := by decide +kernel
set_option maxRecDepth 20000 in
theorem ggX5_worst_X5_isVersion : GoodIn wsX5_worst wsX5_isVersion := goodIn_r _ [7, 8, 9, 10, 6, 11, 20, 21, 22, 23, 24, 25, 26, 27, 28, 29, 30, 31, 32, 33, 34, 35] (by decide +kernel) (by decide +kernel)
set_option maxRecDepth 20000 in
theorem gX5_worst_X5_isVersion : GoodIn wsX5_worst (wsV RX5 107 RX5 yX5_isVersion wsX5_isVersion) := goodIn_app (goodIn_of _ (by decide +kernel)) ggX5_worst_X5_isVersion
set_option maxRecDepth 20000 in
theorem ggX5_worst_X5_laysWay : GoodIn wsX5_worst wsX5_laysWay := goodIn_r _ [15, 2, 16, 17, 18, 6, 19, 8, 20, 21, 22, 23, 24, 25, 26, 27, 28, 29, 30, 31, 32, 33, 34, 35] (by decide +kernel) (by decide +kernel)
set_option maxRecDepth 20000 in
theorem gX5_worst_X5_laysWay : GoodIn wsX5_worst (wsV RX5 60 RX5 yX5_laysWay wsX5_laysWay) := goodIn_app (goodIn_of _ (by decide +kernel)) ggX5_worst_X5_laysWay
set_option maxRecDepth 20000 in
theorem ggX5_worst_X5_of : GoodIn wsX5_worst wsX5_of := goodIn_r _ [19, 8, 20, 21, 22, 23, 24, 25, 26, 27, 28, 29, 30, 31, 32, 33, 34, 35] (by decide +kernel) (by decide +kernel)
set_option maxRecDepth 20000 in
theorem gX5_worst_X5_of : GoodIn wsX5_worst (wsV RX5 56 RX5 yX5_of wsX5_of) := goodIn_app (goodIn_of _ (by decide +kernel)) ggX5_worst_X5_of
theorem dX5_worst_0 : decode cX5_worst 0 = .ok (.aload_n 0, 1) := by decide +kernel
theorem dX5_worst_1 : decode cX5_worst 1 = .ok (.aload_n 0, 1) := by decide +kernel
theorem dX5_worst_2 : decode cX5_worst 2 = .ok (.iload_n 1, 1) := by decide +kernel
theorem dX5_worst_3 : decode cX5_worst 3 = .ok (.invokevirtual 107, 3) := by decide +kernel
theorem dX5_worst_6 : decode cX5_worst 6 = .ok (.ifCond .ne 7, 3) := by decide +kernel
theorem dX5_worst_9 : decode cX5_worst 9 = .ok (.iconst 1, 1) := by decide +kernel
theorem dX5_worst_10 : decode cX5_worst 10 = .ok (.goto 4, 3) := by decide +kernel
theorem dX5_worst_13 : decode cX5_worst 13 = .ok (.iconst 0, 1) := by decide +kernel
theorem dX5_worst_14 : decode cX5_worst 14 = .ok (.putfield 41, 3) := by decide +kernel
theorem dX5_worst_17 : decode cX5_worst 17 = .ok (.iconst 0, 1) := by decide +kernel
theorem dX5_worst_18 : decode cX5_worst 18 = .ok (.istore_n 2, 1) := by decide +kernel
theorem dX5_worst_19 : decode cX5_worst 19 = .ok (.aload_n 0, 1) := by decide +kernel
theorem dX5_worst_20 : decode cX5_worst 20 = .ok (.getfield 41, 3) := by decide +kernel
theorem dX5_worst_23 : decode cX5_worst 23 = .ok (.ifCond .eq 7, 3) := by decide +kernel
theorem dX5_worst_26 : decode cX5_worst 26 = .ok (.iconst 0, 1) := by decide +kernel
theorem dX5_worst_27 : decode cX5_worst 27 = .ok (.goto 8, 3) := by decide +kernel
theorem dX5_worst_30 : decode cX5_worst 30 = .ok (.aload_n 0, 1) := by decide +kernel
theorem dX5_worst_31 : decode cX5_worst 31 = .ok (.iload_n 1, 1) := by decide +kernel
theorem dX5_worst_32 : decode cX5_worst 32 = .ok (.invokevirtual 60, 3) := by decide +kernel
theorem dX5_worst_35 : decode cX5_worst 35 = .ok (.istore_n 3, 1) := by decide +kernel
theorem dX5_worst_36 : decode cX5_worst 36 = .ok (.iconst 0, 1) := by decide +kernel
theorem dX5_worst_37 : decode cX5_worst 37 = .ok (.istore 4, 2) := by decide +kernel
theorem dX5_worst_39 : decode cX5_worst 39 = .ok (.iload 4, 2) := by decide +kernel
theorem dX5_worst_41 : decode cX5_worst 41 = .ok (.iload_n 3, 1) := by decide +kernel
theorem dX5_worst_42 : decode cX5_worst 42 = .ok (.if_icmp .ge 42, 3) := by decide +kernel
theorem dX5_worst_45 : decode cX5_worst 45 = .ok (.aload_n 0, 1) := by decide +kernel
theorem dX5_worst_46 : decode cX5_worst 46 = .ok (.aload_n 0, 1) := by decide +kernel
theorem dX5_worst_47 : decode cX5_worst 47 = .ok (.getfield 25, 3) := by decide +kernel
theorem dX5_worst_50 : decode cX5_worst 50 = .ok (.iload 4, 2) := by decide +kernel
theorem dX5_worst_52 : decode cX5_worst 52 = .ok (.iaload, 1) := by decide +kernel
theorem dX5_worst_53 : decode cX5_worst 53 = .ok (.iconst 5, 1) := by decide +kernel
theorem dX5_worst_54 : decode cX5_worst 54 = .ok (.invokevirtual 56, 3) := by decide +kernel
theorem dX5_worst_57 : decode cX5_worst 57 = .ok (.iload_n 2, 1) := by decide +kernel
theorem dX5_worst_58 : decode cX5_worst 58 = .ok (.if_icmp .le 18, 3) := by decide +kernel
theorem dX5_worst_61 : decode cX5_worst 61 = .ok (.aload_n 0, 1) := by decide +kernel
theorem dX5_worst_62 : decode cX5_worst 62 = .ok (.aload_n 0, 1) := by decide +kernel
theorem dX5_worst_63 : decode cX5_worst 63 = .ok (.getfield 25, 3) := by decide +kernel
theorem dX5_worst_66 : decode cX5_worst 66 = .ok (.iload 4, 2) := by decide +kernel
theorem dX5_worst_68 : decode cX5_worst 68 = .ok (.iaload, 1) := by decide +kernel
theorem dX5_worst_69 : decode cX5_worst 69 = .ok (.iconst 5, 1) := by decide +kernel
theorem dX5_worst_70 : decode cX5_worst 70 = .ok (.invokevirtual 56, 3) := by decide +kernel
theorem dX5_worst_73 : decode cX5_worst 73 = .ok (.goto 4, 3) := by decide +kernel
theorem dX5_worst_76 : decode cX5_worst 76 = .ok (.iload_n 2, 1) := by decide +kernel
theorem dX5_worst_77 : decode cX5_worst 77 = .ok (.istore_n 2, 1) := by decide +kernel
theorem dX5_worst_78 : decode cX5_worst 78 = .ok (.iinc 4 1, 3) := by decide +kernel
theorem dX5_worst_81 : decode cX5_worst 81 = .ok (.goto (-42), 3) := by decide +kernel
theorem dX5_worst_84 : decode cX5_worst 84 = .ok (.iload_n 2, 1) := by decide +kernel
theorem dX5_worst_85 : decode cX5_worst 85 = .ok (.ireturn, 1) := by decide +kernel
set_option maxRecDepth 20000 in
theorem ggX5_mean_X5_isVersion : GoodIn wsX5_mean wsX5_isVersion := goodIn_r _ [7, 8, 9, 10, 6, 11, 20, 21, 22, 23, 24, 25, 26, 27, 28, 29, 30, 31, 32, 33, 34, 35] (by decide +kernel) (by decide +kernel)
set_option maxRecDepth 20000 in
theorem gX5_mean_X5_isVersion : GoodIn wsX5_mean (wsV RX5 107 RX5 yX5_isVersion wsX5_isVersion) := goodIn_app (goodIn_of _ (by decide +kernel)) ggX5_mean_X5_isVersion
set_option maxRecDepth 20000 in
theorem ggX5_mean_X5_laysWay : GoodIn wsX5_mean wsX5_laysWay := goodIn_r _ [15, 2, 16, 17, 18, 6, 19, 8, 20, 21, 22, 23, 24, 25, 26, 27, 28, 29, 30, 31, 32, 33, 34, 35] (by decide +kernel) (by decide +kernel)
set_option maxRecDepth 20000 in
theorem gX5_mean_X5_laysWay : GoodIn wsX5_mean (wsV RX5 60 RX5 yX5_laysWay wsX5_laysWay) := goodIn_app (goodIn_of _ (by decide +kernel)) ggX5_mean_X5_laysWay
set_option maxRecDepth 20000 in
theorem ggX5_mean_X5_of : GoodIn wsX5_mean wsX5_of := goodIn_r _ [19, 8, 20, 21, 22, 23, 24, 25, 26, 27, 28, 29, 30, 31, 32, 33, 34, 35] (by decide +kernel) (by decide +kernel)
set_option maxRecDepth 20000 in
theorem gX5_mean_X5_of : GoodIn wsX5_mean (wsV RX5 56 RX5 yX5_of wsX5_of) := goodIn_app (goodIn_of _ (by decide +kernel)) ggX5_mean_X5_of
theorem dX5_mean_0 : decode cX5_mean 0 = .ok (.aload_n 0, 1) := by decide +kernel
theorem dX5_mean_1 : decode cX5_mean 1 = .ok (.aload_n 0, 1) := by decide +kernel
theorem dX5_mean_2 : decode cX5_mean 2 = .ok (.iload_n 1, 1) := by decide +kernel
theorem dX5_mean_3 : decode cX5_mean 3 = .ok (.invokevirtual 107, 3) := by decide +kernel
theorem dX5_mean_6 : decode cX5_mean 6 = .ok (.ifCond .ne 7, 3) := by decide +kernel
theorem dX5_mean_9 : decode cX5_mean 9 = .ok (.iconst 1, 1) := by decide +kernel
theorem dX5_mean_10 : decode cX5_mean 10 = .ok (.goto 4, 3) := by decide +kernel
theorem dX5_mean_13 : decode cX5_mean 13 = .ok (.iconst 0, 1) := by decide +kernel
theorem dX5_mean_14 : decode cX5_mean 14 = .ok (.putfield 41, 3) := by decide +kernel
theorem dX5_mean_17 : decode cX5_mean 17 = .ok (.iconst 0, 1) := by decide +kernel
theorem dX5_mean_18 : decode cX5_mean 18 = .ok (.istore_n 2, 1) := by decide +kernel
theorem dX5_mean_19 : decode cX5_mean 19 = .ok (.aload_n 0, 1) := by decide +kernel
theorem dX5_mean_20 : decode cX5_mean 20 = .ok (.getfield 41, 3) := by decide +kernel
theorem dX5_mean_23 : decode cX5_mean 23 = .ok (.ifCond .eq 7, 3) := by decide +kernel
theorem dX5_mean_26 : decode cX5_mean 26 = .ok (.iconst 0, 1) := by decide +kernel
theorem dX5_mean_27 : decode cX5_mean 27 = .ok (.goto 8, 3) := by decide +kernel
theorem dX5_mean_30 : decode cX5_mean 30 = .ok (.aload_n 0, 1) := by decide +kernel
theorem dX5_mean_31 : decode cX5_mean 31 = .ok (.iload_n 1, 1) := by decide +kernel
theorem dX5_mean_32 : decode cX5_mean 32 = .ok (.invokevirtual 60, 3) := by decide +kernel
theorem dX5_mean_35 : decode cX5_mean 35 = .ok (.istore_n 3, 1) := by decide +kernel
theorem dX5_mean_36 : decode cX5_mean 36 = .ok (.iconst 0, 1) := by decide +kernel
theorem dX5_mean_37 : decode cX5_mean 37 = .ok (.istore 4, 2) := by decide +kernel
theorem dX5_mean_39 : decode cX5_mean 39 = .ok (.iload 4, 2) := by decide +kernel
theorem dX5_mean_41 : decode cX5_mean 41 = .ok (.iload_n 3, 1) := by decide +kernel
theorem dX5_mean_42 : decode cX5_mean 42 = .ok (.if_icmp .ge 24, 3) := by decide +kernel
theorem dX5_mean_45 : decode cX5_mean 45 = .ok (.iload_n 2, 1) := by decide +kernel
theorem dX5_mean_46 : decode cX5_mean 46 = .ok (.aload_n 0, 1) := by decide +kernel
theorem dX5_mean_47 : decode cX5_mean 47 = .ok (.aload_n 0, 1) := by decide +kernel
theorem dX5_mean_48 : decode cX5_mean 48 = .ok (.getfield 25, 3) := by decide +kernel
theorem dX5_mean_51 : decode cX5_mean 51 = .ok (.iload 4, 2) := by decide +kernel
theorem dX5_mean_53 : decode cX5_mean 53 = .ok (.iaload, 1) := by decide +kernel
theorem dX5_mean_54 : decode cX5_mean 54 = .ok (.iconst 5, 1) := by decide +kernel
theorem dX5_mean_55 : decode cX5_mean 55 = .ok (.invokevirtual 56, 3) := by decide +kernel
theorem dX5_mean_58 : decode cX5_mean 58 = .ok (.iadd, 1) := by decide +kernel
theorem dX5_mean_59 : decode cX5_mean 59 = .ok (.istore_n 2, 1) := by decide +kernel
theorem dX5_mean_60 : decode cX5_mean 60 = .ok (.iinc 4 1, 3) := by decide +kernel
theorem dX5_mean_63 : decode cX5_mean 63 = .ok (.goto (-24), 3) := by decide +kernel
theorem dX5_mean_66 : decode cX5_mean 66 = .ok (.iload_n 3, 1) := by decide +kernel
theorem dX5_mean_67 : decode cX5_mean 67 = .ok (.ifCond .ne 7, 3) := by decide +kernel
theorem dX5_mean_70 : decode cX5_mean 70 = .ok (.dconst 0, 1) := by decide +kernel
theorem dX5_mean_71 : decode cX5_mean 71 = .ok (.goto 8, 3) := by decide +kernel
theorem dX5_mean_74 : decode cX5_mean 74 = .ok (.iload_n 2, 1) := by decide +kernel
theorem dX5_mean_75 : decode cX5_mean 75 = .ok (.i2d, 1) := by decide +kernel
theorem dX5_mean_76 : decode cX5_mean 76 = .ok (.iload_n 3, 1) := by decide +kernel
theorem dX5_mean_77 : decode cX5_mean 77 = .ok (.i2d, 1) := by decide +kernel
theorem dX5_mean_78 : decode cX5_mean 78 = .ok (.ddiv, 1) := by decide +kernel
theorem dX5_mean_79 : decode cX5_mean 79 = .ok (.dreturn, 1) := by decide +kernel
set_option maxRecDepth 20000 in
theorem ggX5_append_X5_in : GoodIn wsX5_append wsX5_in := goodIn_r _ [7] (by decide +kernel) (by decide +kernel)
set_option maxRecDepth 20000 in
theorem gX5_append_X5_in : GoodIn wsX5_append (va_wsS RX5 52 yX5_in wsX5_in) := goodIn_app (goodIn_of _ (by decide +kernel)) ggX5_append_X5_in
theorem dX5_append_0 : decode cX5_append 0 = .ok (.aload_n 0, 1) := by decide +kernel
theorem dX5_append_1 : decode cX5_append 1 = .ok (.iload_n 1, 1) := by decide +kernel
theorem dX5_append_2 : decode cX5_append 2 = .ok (.iconst 0, 1) := by decide +kernel
theorem dX5_append_3 : decode cX5_append 3 = .ok (.bipush 127, 2) := by decide +kernel
theorem dX5_append_5 : decode cX5_append 5 = .ok (.invokestatic 52, 3) := by decide +kernel
theorem dX5_append_8 : decode cX5_append 8 = .ok (.ifCond .ne 7, 3) := by decide +kernel
theorem dX5_append_11 : decode cX5_append 11 = .ok (.iconst 1, 1) := by decide +kernel
theorem dX5_append_12 : decode cX5_append 12 = .ok (.goto 17, 3) := by decide +kernel
theorem dX5_append_15 : decode cX5_append 15 = .ok (.aload_n 0, 1) := by decide +kernel
theorem dX5_append_16 : decode cX5_append 16 = .ok (.getfield 133, 3) := by decide +kernel
theorem dX5_append_19 : decode cX5_append 19 = .ok (.bipush 100, 2) := by decide +kernel
theorem dX5_append_21 : decode cX5_append 21 = .ok (.if_icmp .ne 7, 3) := by decide +kernel
theorem dX5_append_24 : decode cX5_append 24 = .ok (.iconst 2, 1) := by decide +kernel
theorem dX5_append_25 : decode cX5_append 25 = .ok (.goto 4, 3) := by decide +kernel
theorem dX5_append_28 : decode cX5_append 28 = .ok (.iconst 0, 1) := by decide +kernel
theorem dX5_append_29 : decode cX5_append 29 = .ok (.putfield 41, 3) := by decide +kernel
theorem dX5_append_32 : decode cX5_append 32 = .ok (.aload_n 0, 1) := by decide +kernel
theorem dX5_append_33 : decode cX5_append 33 = .ok (.getfield 41, 3) := by decide +kernel
theorem dX5_append_36 : decode cX5_append 36 = .ok (.ifCond .eq 5, 3) := by decide +kernel
theorem dX5_append_39 : decode cX5_append 39 = .ok (.iconst 0, 1) := by decide +kernel
theorem dX5_append_40 : decode cX5_append 40 = .ok (.ireturn, 1) := by decide +kernel
theorem dX5_append_41 : decode cX5_append 41 = .ok (.aload_n 0, 1) := by decide +kernel
theorem dX5_append_42 : decode cX5_append 42 = .ok (.getfield 19, 3) := by decide +kernel
theorem dX5_append_45 : decode cX5_append 45 = .ok (.aload_n 0, 1) := by decide +kernel
theorem dX5_append_46 : decode cX5_append 46 = .ok (.getfield 133, 3) := by decide +kernel
theorem dX5_append_49 : decode cX5_append 49 = .ok (.iload_n 1, 1) := by decide +kernel
theorem dX5_append_50 : decode cX5_append 50 = .ok (.iastore, 1) := by decide +kernel
theorem dX5_append_51 : decode cX5_append 51 = .ok (.aload_n 0, 1) := by decide +kernel
theorem dX5_append_52 : decode cX5_append 52 = .ok (.dup, 1) := by decide +kernel
theorem dX5_append_53 : decode cX5_append 53 = .ok (.getfield 133, 3) := by decide +kernel
theorem dX5_append_56 : decode cX5_append 56 = .ok (.iconst 1, 1) := by decide +kernel
theorem dX5_append_57 : decode cX5_append 57 = .ok (.iadd, 1) := by decide +kernel
theorem dX5_append_58 : decode cX5_append 58 = .ok (.putfield 133, 3) := by decide +kernel
theorem dX5_append_61 : decode cX5_append 61 = .ok (.aload_n 0, 1) := by decide +kernel
theorem dX5_append_62 : decode cX5_append 62 = .ok (.getfield 133, 3) := by decide +kernel
theorem dX5_append_65 : decode cX5_append 65 = .ok (.ireturn, 1) := by decide +kernel
theorem dX5_clearText_0 : decode cX5_clearText 0 = .ok (.aload_n 0, 1) := by decide +kernel
theorem dX5_clearText_1 : decode cX5_clearText 1 = .ok (.iconst 0, 1) := by decide +kernel
theorem dX5_clearText_2 : decode cX5_clearText 2 = .ok (.putfield 41, 3) := by decide +kernel
theorem dX5_clearText_5 : decode cX5_clearText 5 = .ok (.aload_n 0, 1) := by decide +kernel
theorem dX5_clearText_6 : decode cX5_clearText 6 = .ok (.getfield 133, 3) := by decide +kernel
theorem dX5_clearText_9 : decode cX5_clearText 9 = .ok (.istore_n 1, 1) := by decide +kernel
theorem dX5_clearText_10 : decode cX5_clearText 10 = .ok (.aload_n 0, 1) := by decide +kernel
theorem dX5_clearText_11 : decode cX5_clearText 11 = .ok (.iconst 0, 1) := by decide +kernel
theorem dX5_clearText_12 : decode cX5_clearText 12 = .ok (.putfield 133, 3) := by decide +kernel
theorem dX5_clearText_15 : decode cX5_clearText 15 = .ok (.iload_n 1, 1) := by decide +kernel
theorem dX5_clearText_16 : decode cX5_clearText 16 = .ok (.ireturn, 1) := by decide +kernel
theorem dX5_byteAt_0 : decode cX5_byteAt 0 = .ok (.iload_n 1, 1) := by decide +kernel
theorem dX5_byteAt_1 : decode cX5_byteAt 1 = .ok (.aload_n 0, 1) := by decide +kernel
theorem dX5_byteAt_2 : decode cX5_byteAt 2 = .ok (.getfield 133, 3) := by decide +kernel
theorem dX5_byteAt_5 : decode cX5_byteAt 5 = .ok (.if_icmp .ge 12, 3) := by decide +kernel
theorem dX5_byteAt_8 : decode cX5_byteAt 8 = .ok (.aload_n 0, 1) := by decide +kernel
theorem dX5_byteAt_9 : decode cX5_byteAt 9 = .ok (.getfield 19, 3) := by decide +kernel
theorem dX5_byteAt_12 : decode cX5_byteAt 12 = .ok (.iload_n 1, 1) := by decide +kernel
theorem dX5_byteAt_13 : decode cX5_byteAt 13 = .ok (.iaload, 1) := by decide +kernel
theorem dX5_byteAt_14 : decode cX5_byteAt 14 = .ok (.goto 4, 3) := by decide +kernel
theorem dX5_byteAt_17 : decode cX5_byteAt 17 = .ok (.iconst (-1), 1) := by decide +kernel
theorem dX5_byteAt_18 : decode cX5_byteAt 18 = .ok (.ireturn, 1) := by decide +kernel
set_option maxRecDepth 20000 in
theorem ggX5_readsValue_X5_byteAt : GoodIn wsX5_readsValue wsX5_byteAt := goodIn_r _ [8, 9, 10, 14, 15, 16, 17, 18, 19, 20, 21, 22, 23, 24, 25, 26, 27, 28, 29] (by decide +kernel) (by decide +kernel)
set_option maxRecDepth 20000 in
theorem gX5_readsValue_X5_byteAt : GoodIn wsX5_readsValue (wsV RX5 139 RX5 yX5_byteAt wsX5_byteAt) := goodIn_app (goodIn_of _ (by decide +kernel)) ggX5_readsValue_X5_byteAt
set_option maxRecDepth 20000 in
theorem ggX5_readsValue_X5_in : GoodIn wsX5_readsValue wsX5_in := goodIn_r _ [13] (by decide +kernel) (by decide +kernel)
set_option maxRecDepth 20000 in
theorem gX5_readsValue_X5_in : GoodIn wsX5_readsValue (va_wsS RX5 52 yX5_in wsX5_in) := goodIn_app (goodIn_of _ (by decide +kernel)) ggX5_readsValue_X5_in
theorem dX5_readsValue_0 : decode cX5_readsValue 0 = .ok (.aload_n 0, 1) := by decide +kernel
theorem dX5_readsValue_1 : decode cX5_readsValue 1 = .ok (.aload_n 0, 1) := by decide +kernel
theorem dX5_readsValue_2 : decode cX5_readsValue 2 = .ok (.getfield 136, 3) := by decide +kernel
theorem dX5_readsValue_5 : decode cX5_readsValue 5 = .ok (.invokevirtual 139, 3) := by decide +kernel
theorem dX5_readsValue_8 : decode cX5_readsValue 8 = .ok (.bipush 45, 2) := by decide +kernel
theorem dX5_readsValue_10 : decode cX5_readsValue 10 = .ok (.if_icmp .ne 7, 3) := by decide +kernel
theorem dX5_readsValue_13 : decode cX5_readsValue 13 = .ok (.iconst 1, 1) := by decide +kernel
theorem dX5_readsValue_14 : decode cX5_readsValue 14 = .ok (.goto 4, 3) := by decide +kernel
theorem dX5_readsValue_17 : decode cX5_readsValue 17 = .ok (.iconst 0, 1) := by decide +kernel
theorem dX5_readsValue_18 : decode cX5_readsValue 18 = .ok (.istore_n 1, 1) := by decide +kernel
theorem dX5_readsValue_19 : decode cX5_readsValue 19 = .ok (.aload_n 0, 1) := by decide +kernel
theorem dX5_readsValue_20 : decode cX5_readsValue 20 = .ok (.dup, 1) := by decide +kernel
theorem dX5_readsValue_21 : decode cX5_readsValue 21 = .ok (.getfield 136, 3) := by decide +kernel
theorem dX5_readsValue_24 : decode cX5_readsValue 24 = .ok (.iload_n 1, 1) := by decide +kernel
theorem dX5_readsValue_25 : decode cX5_readsValue 25 = .ok (.ifCond .eq 7, 3) := by decide +kernel
theorem dX5_readsValue_28 : decode cX5_readsValue 28 = .ok (.iconst 1, 1) := by decide +kernel
theorem dX5_readsValue_29 : decode cX5_readsValue 29 = .ok (.goto 4, 3) := by decide +kernel
theorem dX5_readsValue_32 : decode cX5_readsValue 32 = .ok (.iconst 0, 1) := by decide +kernel
theorem dX5_readsValue_33 : decode cX5_readsValue 33 = .ok (.iadd, 1) := by decide +kernel
theorem dX5_readsValue_34 : decode cX5_readsValue 34 = .ok (.putfield 136, 3) := by decide +kernel
theorem dX5_readsValue_37 : decode cX5_readsValue 37 = .ok (.iconst 0, 1) := by decide +kernel
theorem dX5_readsValue_38 : decode cX5_readsValue 38 = .ok (.istore_n 2, 1) := by decide +kernel
theorem dX5_readsValue_39 : decode cX5_readsValue 39 = .ok (.iconst 0, 1) := by decide +kernel
theorem dX5_readsValue_40 : decode cX5_readsValue 40 = .ok (.istore_n 3, 1) := by decide +kernel
theorem dX5_readsValue_41 : decode cX5_readsValue 41 = .ok (.iload_n 2, 1) := by decide +kernel
theorem dX5_readsValue_42 : decode cX5_readsValue 42 = .ok (.iconst 3, 1) := by decide +kernel
theorem dX5_readsValue_43 : decode cX5_readsValue 43 = .ok (.if_icmp .ge 54, 3) := by decide +kernel
theorem dX5_readsValue_46 : decode cX5_readsValue 46 = .ok (.aload_n 0, 1) := by decide +kernel
theorem dX5_readsValue_47 : decode cX5_readsValue 47 = .ok (.aload_n 0, 1) := by decide +kernel
theorem dX5_readsValue_48 : decode cX5_readsValue 48 = .ok (.getfield 136, 3) := by decide +kernel
theorem dX5_readsValue_51 : decode cX5_readsValue 51 = .ok (.invokevirtual 139, 3) := by decide +kernel
theorem dX5_readsValue_54 : decode cX5_readsValue 54 = .ok (.bipush 48, 2) := by decide +kernel
theorem dX5_readsValue_56 : decode cX5_readsValue 56 = .ok (.bipush 57, 2) := by decide +kernel
theorem dX5_readsValue_58 : decode cX5_readsValue 58 = .ok (.invokestatic 52, 3) := by decide +kernel
theorem dX5_readsValue_61 : decode cX5_readsValue 61 = .ok (.ifCond .eq 36, 3) := by decide +kernel
theorem dX5_readsValue_64 : decode cX5_readsValue 64 = .ok (.bipush 10, 2) := by decide +kernel
theorem dX5_readsValue_66 : decode cX5_readsValue 66 = .ok (.iload_n 3, 1) := by decide +kernel
theorem dX5_readsValue_67 : decode cX5_readsValue 67 = .ok (.imul, 1) := by decide +kernel
theorem dX5_readsValue_68 : decode cX5_readsValue 68 = .ok (.aload_n 0, 1) := by decide +kernel
theorem dX5_readsValue_69 : decode cX5_readsValue 69 = .ok (.aload_n 0, 1) := by decide +kernel
theorem dX5_readsValue_70 : decode cX5_readsValue 70 = .ok (.getfield 136, 3) := by decide +kernel
theorem dX5_readsValue_73 : decode cX5_readsValue 73 = .ok (.invokevirtual 139, 3) := by decide +kernel
theorem dX5_readsValue_76 : decode cX5_readsValue 76 = .ok (.iadd, 1) := by decide +kernel
theorem dX5_readsValue_77 : decode cX5_readsValue 77 = .ok (.bipush 48, 2) := by decide +kernel
theorem dX5_readsValue_79 : decode cX5_readsValue 79 = .ok (.isub, 1) := by decide +kernel
theorem dX5_readsValue_80 : decode cX5_readsValue 80 = .ok (.istore_n 3, 1) := by decide +kernel
theorem dX5_readsValue_81 : decode cX5_readsValue 81 = .ok (.aload_n 0, 1) := by decide +kernel
theorem dX5_readsValue_82 : decode cX5_readsValue 82 = .ok (.dup, 1) := by decide +kernel
theorem dX5_readsValue_83 : decode cX5_readsValue 83 = .ok (.getfield 136, 3) := by decide +kernel
theorem dX5_readsValue_86 : decode cX5_readsValue 86 = .ok (.iconst 1, 1) := by decide +kernel
theorem dX5_readsValue_87 : decode cX5_readsValue 87 = .ok (.iadd, 1) := by decide +kernel
theorem dX5_readsValue_88 : decode cX5_readsValue 88 = .ok (.putfield 136, 3) := by decide +kernel
theorem dX5_readsValue_91 : decode cX5_readsValue 91 = .ok (.iinc 2 1, 3) := by decide +kernel
theorem dX5_readsValue_94 : decode cX5_readsValue 94 = .ok (.goto (-53), 3) := by decide +kernel
theorem dX5_readsValue_97 : decode cX5_readsValue 97 = .ok (.aload_n 0, 1) := by decide +kernel
theorem dX5_readsValue_98 : decode cX5_readsValue 98 = .ok (.getfield 34, 3) := by decide +kernel
theorem dX5_readsValue_101 : decode cX5_readsValue 101 = .ok (.aload_n 0, 1) := by decide +kernel
theorem dX5_readsValue_102 : decode cX5_readsValue 102 = .ok (.getfield 142, 3) := by decide +kernel
theorem dX5_readsValue_105 : decode cX5_readsValue 105 = .ok (.iload_n 1, 1) := by decide +kernel
theorem dX5_readsValue_106 : decode cX5_readsValue 106 = .ok (.ifCond .eq 8, 3) := by decide +kernel
theorem dX5_readsValue_109 : decode cX5_readsValue 109 = .ok (.iload_n 3, 1) := by decide +kernel
theorem dX5_readsValue_110 : decode cX5_readsValue 110 = .ok (.ineg, 1) := by decide +kernel
theorem dX5_readsValue_111 : decode cX5_readsValue 111 = .ok (.goto 4, 3) := by decide +kernel
theorem dX5_readsValue_114 : decode cX5_readsValue 114 = .ok (.iload_n 3, 1) := by decide +kernel
theorem dX5_readsValue_115 : decode cX5_readsValue 115 = .ok (.iastore, 1) := by decide +kernel
theorem dX5_readsValue_116 : decode cX5_readsValue 116 = .ok (.iload_n 2, 1) := by decide +kernel
theorem dX5_readsValue_117 : decode cX5_readsValue 117 = .ok (.ifCond .le 7, 3) := by decide +kernel
theorem dX5_readsValue_120 : decode cX5_readsValue 120 = .ok (.iconst 1, 1) := by decide +kernel
theorem dX5_readsValue_121 : decode cX5_readsValue 121 = .ok (.goto 4, 3) := by decide +kernel
theorem dX5_readsValue_124 : decode cX5_readsValue 124 = .ok (.iconst 0, 1) := by decide +kernel
theorem dX5_readsValue_125 : decode cX5_readsValue 125 = .ok (.ireturn, 1) := by decide +kernel
set_option maxRecDepth 20000 in
theorem ggX5_faultOf_X5_readsValue : GoodIn wsX5_faultOf wsX5_readsValue := goodIn_r _ [10, 1, 11, 2, 12, 13, 14, 9, 15, 3, 4, 16, 17, 18, 19, 20, 21, 22, 23, 24, 25, 26, 27, 28, 29, 30, 31, 32, 33, 34] (by decide +kernel) (by decide +kernel)
set_option maxRecDepth 20000 in
theorem gX5_faultOf_X5_readsValue : GoodIn wsX5_faultOf (wsV RX5 145 RX5 yX5_readsValue wsX5_readsValue) := goodIn_app (goodIn_of _ (by decide +kernel)) ggX5_faultOf_X5_readsValue
set_option maxRecDepth 20000 in
theorem ggX5_faultOf_X5_byteAt : GoodIn wsX5_faultOf wsX5_byteAt := goodIn_r _ [15, 3, 4, 19, 20, 21, 22, 23, 24, 25, 26, 27, 28, 29, 30, 31, 32, 33, 34] (by decide +kernel) (by decide +kernel)
set_option maxRecDepth 20000 in
theorem gX5_faultOf_X5_byteAt : GoodIn wsX5_faultOf (wsV RX5 139 RX5 yX5_byteAt wsX5_byteAt) := goodIn_app (goodIn_of _ (by decide +kernel)) ggX5_faultOf_X5_byteAt
theorem dX5_faultOf_0 : decode cX5_faultOf 0 = .ok (.aload_n 0, 1) := by decide +kernel
theorem dX5_faultOf_1 : decode cX5_faultOf 1 = .ok (.iconst 0, 1) := by decide +kernel
theorem dX5_faultOf_2 : decode cX5_faultOf 2 = .ok (.putfield 136, 3) := by decide +kernel
theorem dX5_faultOf_5 : decode cX5_faultOf 5 = .ok (.aload_n 0, 1) := by decide +kernel
theorem dX5_faultOf_6 : decode cX5_faultOf 6 = .ok (.iconst 0, 1) := by decide +kernel
theorem dX5_faultOf_7 : decode cX5_faultOf 7 = .ok (.putfield 142, 3) := by decide +kernel
theorem dX5_faultOf_10 : decode cX5_faultOf 10 = .ok (.aload_n 0, 1) := by decide +kernel
theorem dX5_faultOf_11 : decode cX5_faultOf 11 = .ok (.getfield 136, 3) := by decide +kernel
theorem dX5_faultOf_14 : decode cX5_faultOf 14 = .ok (.aload_n 0, 1) := by decide +kernel
theorem dX5_faultOf_15 : decode cX5_faultOf 15 = .ok (.getfield 133, 3) := by decide +kernel
theorem dX5_faultOf_18 : decode cX5_faultOf 18 = .ok (.if_icmp .ge 143, 3) := by decide +kernel
theorem dX5_faultOf_21 : decode cX5_faultOf 21 = .ok (.aload_n 0, 1) := by decide +kernel
theorem dX5_faultOf_22 : decode cX5_faultOf 22 = .ok (.getfield 19, 3) := by decide +kernel
theorem dX5_faultOf_25 : decode cX5_faultOf 25 = .ok (.aload_n 0, 1) := by decide +kernel
theorem dX5_faultOf_26 : decode cX5_faultOf 26 = .ok (.getfield 136, 3) := by decide +kernel
theorem dX5_faultOf_29 : decode cX5_faultOf 29 = .ok (.iaload, 1) := by decide +kernel
theorem dX5_faultOf_30 : decode cX5_faultOf 30 = .ok (.istore_n 1, 1) := by decide +kernel
theorem dX5_faultOf_31 : decode cX5_faultOf 31 = .ok (.iload_n 1, 1) := by decide +kernel
theorem dX5_faultOf_32 : decode cX5_faultOf 32 = .ok (.bipush 102, 2) := by decide +kernel
theorem dX5_faultOf_34 : decode cX5_faultOf 34 = .ok (.if_icmp .ne 7, 3) := by decide +kernel
theorem dX5_faultOf_37 : decode cX5_faultOf 37 = .ok (.iconst 0, 1) := by decide +kernel
theorem dX5_faultOf_38 : decode cX5_faultOf 38 = .ok (.goto 34, 3) := by decide +kernel
theorem dX5_faultOf_41 : decode cX5_faultOf 41 = .ok (.iload_n 1, 1) := by decide +kernel
theorem dX5_faultOf_42 : decode cX5_faultOf 42 = .ok (.bipush 98, 2) := by decide +kernel
theorem dX5_faultOf_44 : decode cX5_faultOf 44 = .ok (.if_icmp .ne 7, 3) := by decide +kernel
theorem dX5_faultOf_47 : decode cX5_faultOf 47 = .ok (.iconst 1, 1) := by decide +kernel
theorem dX5_faultOf_48 : decode cX5_faultOf 48 = .ok (.goto 24, 3) := by decide +kernel
theorem dX5_faultOf_51 : decode cX5_faultOf 51 = .ok (.iload_n 1, 1) := by decide +kernel
theorem dX5_faultOf_52 : decode cX5_faultOf 52 = .ok (.bipush 120, 2) := by decide +kernel
theorem dX5_faultOf_54 : decode cX5_faultOf 54 = .ok (.if_icmp .ne 7, 3) := by decide +kernel
theorem dX5_faultOf_57 : decode cX5_faultOf 57 = .ok (.iconst 2, 1) := by decide +kernel
theorem dX5_faultOf_58 : decode cX5_faultOf 58 = .ok (.goto 14, 3) := by decide +kernel
theorem dX5_faultOf_61 : decode cX5_faultOf 61 = .ok (.iload_n 1, 1) := by decide +kernel
theorem dX5_faultOf_62 : decode cX5_faultOf 62 = .ok (.bipush 121, 2) := by decide +kernel
theorem dX5_faultOf_64 : decode cX5_faultOf 64 = .ok (.if_icmp .ne 7, 3) := by decide +kernel
theorem dX5_faultOf_67 : decode cX5_faultOf 67 = .ok (.iconst 3, 1) := by decide +kernel
theorem dX5_faultOf_68 : decode cX5_faultOf 68 = .ok (.goto 4, 3) := by decide +kernel
theorem dX5_faultOf_71 : decode cX5_faultOf 71 = .ok (.iconst (-1), 1) := by decide +kernel
theorem dX5_faultOf_72 : decode cX5_faultOf 72 = .ok (.istore_n 2, 1) := by decide +kernel
theorem dX5_faultOf_73 : decode cX5_faultOf 73 = .ok (.iload_n 2, 1) := by decide +kernel
theorem dX5_faultOf_74 : decode cX5_faultOf 74 = .ok (.iconst (-1), 1) := by decide +kernel
theorem dX5_faultOf_75 : decode cX5_faultOf 75 = .ok (.if_icmp .ne 8, 3) := by decide +kernel
theorem dX5_faultOf_78 : decode cX5_faultOf 78 = .ok (.aload_n 0, 1) := by decide +kernel
theorem dX5_faultOf_79 : decode cX5_faultOf 79 = .ok (.getfield 136, 3) := by decide +kernel
theorem dX5_faultOf_82 : decode cX5_faultOf 82 = .ok (.ireturn, 1) := by decide +kernel
theorem dX5_faultOf_83 : decode cX5_faultOf 83 = .ok (.aload_n 0, 1) := by decide +kernel
theorem dX5_faultOf_84 : decode cX5_faultOf 84 = .ok (.getfield 31, 3) := by decide +kernel
theorem dX5_faultOf_87 : decode cX5_faultOf 87 = .ok (.aload_n 0, 1) := by decide +kernel
theorem dX5_faultOf_88 : decode cX5_faultOf 88 = .ok (.getfield 142, 3) := by decide +kernel
theorem dX5_faultOf_91 : decode cX5_faultOf 91 = .ok (.iload_n 2, 1) := by decide +kernel
theorem dX5_faultOf_92 : decode cX5_faultOf 92 = .ok (.iastore, 1) := by decide +kernel
theorem dX5_faultOf_93 : decode cX5_faultOf 93 = .ok (.aload_n 0, 1) := by decide +kernel
theorem dX5_faultOf_94 : decode cX5_faultOf 94 = .ok (.dup, 1) := by decide +kernel
theorem dX5_faultOf_95 : decode cX5_faultOf 95 = .ok (.getfield 136, 3) := by decide +kernel
theorem dX5_faultOf_98 : decode cX5_faultOf 98 = .ok (.iconst 1, 1) := by decide +kernel
theorem dX5_faultOf_99 : decode cX5_faultOf 99 = .ok (.iadd, 1) := by decide +kernel
theorem dX5_faultOf_100 : decode cX5_faultOf 100 = .ok (.putfield 136, 3) := by decide +kernel
theorem dX5_faultOf_103 : decode cX5_faultOf 103 = .ok (.iload_n 2, 1) := by decide +kernel
theorem dX5_faultOf_104 : decode cX5_faultOf 104 = .ok (.iconst 2, 1) := by decide +kernel
theorem dX5_faultOf_105 : decode cX5_faultOf 105 = .ok (.if_icmp .ge 15, 3) := by decide +kernel
theorem dX5_faultOf_108 : decode cX5_faultOf 108 = .ok (.aload_n 0, 1) := by decide +kernel
theorem dX5_faultOf_109 : decode cX5_faultOf 109 = .ok (.invokevirtual 145, 3) := by decide +kernel
theorem dX5_faultOf_112 : decode cX5_faultOf 112 = .ok (.ifCond .ne 8, 3) := by decide +kernel
theorem dX5_faultOf_115 : decode cX5_faultOf 115 = .ok (.aload_n 0, 1) := by decide +kernel
theorem dX5_faultOf_116 : decode cX5_faultOf 116 = .ok (.getfield 136, 3) := by decide +kernel
theorem dX5_faultOf_119 : decode cX5_faultOf 119 = .ok (.ireturn, 1) := by decide +kernel
theorem dX5_faultOf_120 : decode cX5_faultOf 120 = .ok (.aload_n 0, 1) := by decide +kernel
theorem dX5_faultOf_121 : decode cX5_faultOf 121 = .ok (.aload_n 0, 1) := by decide +kernel
theorem dX5_faultOf_122 : decode cX5_faultOf 122 = .ok (.getfield 136, 3) := by decide +kernel
theorem dX5_faultOf_125 : decode cX5_faultOf 125 = .ok (.invokevirtual 139, 3) := by decide +kernel
theorem dX5_faultOf_128 : decode cX5_faultOf 128 = .ok (.bipush 59, 2) := by decide +kernel
theorem dX5_faultOf_130 : decode cX5_faultOf 130 = .ok (.if_icmp .eq 8, 3) := by decide +kernel
theorem dX5_faultOf_133 : decode cX5_faultOf 133 = .ok (.aload_n 0, 1) := by decide +kernel
theorem dX5_faultOf_134 : decode cX5_faultOf 134 = .ok (.getfield 136, 3) := by decide +kernel
theorem dX5_faultOf_137 : decode cX5_faultOf 137 = .ok (.ireturn, 1) := by decide +kernel
theorem dX5_faultOf_138 : decode cX5_faultOf 138 = .ok (.aload_n 0, 1) := by decide +kernel
theorem dX5_faultOf_139 : decode cX5_faultOf 139 = .ok (.dup, 1) := by decide +kernel
theorem dX5_faultOf_140 : decode cX5_faultOf 140 = .ok (.getfield 136, 3) := by decide +kernel
theorem dX5_faultOf_143 : decode cX5_faultOf 143 = .ok (.iconst 1, 1) := by decide +kernel
theorem dX5_faultOf_144 : decode cX5_faultOf 144 = .ok (.iadd, 1) := by decide +kernel
theorem dX5_faultOf_145 : decode cX5_faultOf 145 = .ok (.putfield 136, 3) := by decide +kernel
theorem dX5_faultOf_148 : decode cX5_faultOf 148 = .ok (.aload_n 0, 1) := by decide +kernel
theorem dX5_faultOf_149 : decode cX5_faultOf 149 = .ok (.dup, 1) := by decide +kernel
theorem dX5_faultOf_150 : decode cX5_faultOf 150 = .ok (.getfield 142, 3) := by decide +kernel
theorem dX5_faultOf_153 : decode cX5_faultOf 153 = .ok (.iconst 1, 1) := by decide +kernel
theorem dX5_faultOf_154 : decode cX5_faultOf 154 = .ok (.iadd, 1) := by decide +kernel
theorem dX5_faultOf_155 : decode cX5_faultOf 155 = .ok (.putfield 142, 3) := by decide +kernel
theorem dX5_faultOf_158 : decode cX5_faultOf 158 = .ok (.goto (-148), 3) := by decide +kernel
theorem dX5_faultOf_161 : decode cX5_faultOf 161 = .ok (.iconst (-1), 1) := by decide +kernel
theorem dX5_faultOf_162 : decode cX5_faultOf 162 = .ok (.ireturn, 1) := by decide +kernel
set_option maxRecDepth 20000 in
theorem ggX5_doesAll_X5_of : GoodIn wsX5_doesAll wsX5_of := goodIn_r _ [9, 2, 69, 70, 71, 72, 73, 74, 75, 76, 77, 78, 79, 80, 81, 82, 83, 84] (by decide +kernel) (by decide +kernel)
set_option maxRecDepth 20000 in
theorem gX5_doesAll_X5_of : GoodIn wsX5_doesAll (wsV RX5 56 RX5 yX5_of wsX5_of) := goodIn_app (goodIn_of _ (by decide +kernel)) ggX5_doesAll_X5_of
set_option maxRecDepth 20000 in
theorem ggX5_doesAll_X5_pushes : GoodIn wsX5_doesAll wsX5_pushes := goodIn_r _ [13, 14, 15, 16, 8, 17, 2, 5, 6, 7, 9, 18, 19, 20, 21, 22, 23, 24, 25, 26, 27, 28, 29, 30, 31, 32, 33, 34, 35, 36, 37, 38, 39, 40, 41, 42, 43, 44, 69, 70, 71, 72, 73, 74, 75, 76, 77, 78, 79, 80, 81, 82, 83, 84] (by decide +kernel) (by decide +kernel)
set_option maxRecDepth 20000 in
theorem gX5_doesAll_X5_pushes : GoodIn wsX5_doesAll (wsV RX5 111 RX5 yX5_pushes wsX5_pushes) := goodIn_app (goodIn_of _ (by decide +kernel)) ggX5_doesAll_X5_pushes
set_option maxRecDepth 20000 in
theorem ggX5_doesAll_X5_pops : GoodIn wsX5_doesAll wsX5_pops := goodIn_r _ [48, 5, 6, 7, 8, 9, 2, 49, 50, 51, 52, 53, 54, 55, 56, 57, 58, 59, 60, 61, 62, 63, 64, 14, 15, 16, 17, 18, 19, 20, 21, 26, 27, 28, 29, 65, 66, 67, 68, 38, 39, 40, 41, 22, 23, 24, 25, 30, 31, 32, 33, 34, 35, 36, 37, 42, 43, 44, 69, 70, 71, 72, 73, 74, 75, 76, 77, 78, 79, 80, 81, 82, 83, 84] (by decide +kernel) (by decide +kernel)
set_option maxRecDepth 20000 in
theorem gX5_doesAll_X5_pops : GoodIn wsX5_doesAll (wsV RX5 115 RX5 yX5_pops wsX5_pops) := goodIn_app (goodIn_of _ (by decide +kernel)) ggX5_doesAll_X5_pops
theorem dX5_doesAll_0 : decode cX5_doesAll 0 = .ok (.iload_n 1, 1) := by decide +kernel
theorem dX5_doesAll_1 : decode cX5_doesAll 1 = .ok (.istore_n 2, 1) := by decide +kernel
theorem dX5_doesAll_2 : decode cX5_doesAll 2 = .ok (.iconst 0, 1) := by decide +kernel
theorem dX5_doesAll_3 : decode cX5_doesAll 3 = .ok (.istore_n 3, 1) := by decide +kernel
theorem dX5_doesAll_4 : decode cX5_doesAll 4 = .ok (.iconst 1, 1) := by decide +kernel
theorem dX5_doesAll_5 : decode cX5_doesAll 5 = .ok (.istore 4, 2) := by decide +kernel
theorem dX5_doesAll_7 : decode cX5_doesAll 7 = .ok (.iload 4, 2) := by decide +kernel
theorem dX5_doesAll_9 : decode cX5_doesAll 9 = .ok (.ifCond .eq 132, 3) := by decide +kernel
theorem dX5_doesAll_12 : decode cX5_doesAll 12 = .ok (.iload_n 3, 1) := by decide +kernel
theorem dX5_doesAll_13 : decode cX5_doesAll 13 = .ok (.aload_n 0, 1) := by decide +kernel
theorem dX5_doesAll_14 : decode cX5_doesAll 14 = .ok (.getfield 142, 3) := by decide +kernel
theorem dX5_doesAll_17 : decode cX5_doesAll 17 = .ok (.if_icmp .ge 124, 3) := by decide +kernel
theorem dX5_doesAll_20 : decode cX5_doesAll 20 = .ok (.aload_n 0, 1) := by decide +kernel
theorem dX5_doesAll_21 : decode cX5_doesAll 21 = .ok (.getfield 7, 3) := by decide +kernel
theorem dX5_doesAll_24 : decode cX5_doesAll 24 = .ok (.iconst 2, 1) := by decide +kernel
theorem dX5_doesAll_25 : decode cX5_doesAll 25 = .ok (.iaload, 1) := by decide +kernel
theorem dX5_doesAll_26 : decode cX5_doesAll 26 = .ok (.bipush 100, 2) := by decide +kernel
theorem dX5_doesAll_28 : decode cX5_doesAll 28 = .ok (.if_icmp .ge 40, 3) := by decide +kernel
theorem dX5_doesAll_31 : decode cX5_doesAll 31 = .ok (.aload_n 0, 1) := by decide +kernel
theorem dX5_doesAll_32 : decode cX5_doesAll 32 = .ok (.getfield 31, 3) := by decide +kernel
theorem dX5_doesAll_35 : decode cX5_doesAll 35 = .ok (.iload_n 3, 1) := by decide +kernel
theorem dX5_doesAll_36 : decode cX5_doesAll 36 = .ok (.iaload, 1) := by decide +kernel
theorem dX5_doesAll_37 : decode cX5_doesAll 37 = .ok (.iconst 2, 1) := by decide +kernel
theorem dX5_doesAll_38 : decode cX5_doesAll 38 = .ok (.if_icmp .ge 17, 3) := by decide +kernel
theorem dX5_doesAll_41 : decode cX5_doesAll 41 = .ok (.aload_n 0, 1) := by decide +kernel
theorem dX5_doesAll_42 : decode cX5_doesAll 42 = .ok (.iload_n 2, 1) := by decide +kernel
theorem dX5_doesAll_43 : decode cX5_doesAll 43 = .ok (.iconst 1, 1) := by decide +kernel
theorem dX5_doesAll_44 : decode cX5_doesAll 44 = .ok (.invokevirtual 56, 3) := by decide +kernel
theorem dX5_doesAll_47 : decode cX5_doesAll 47 = .ok (.bipush 40, 2) := by decide +kernel
theorem dX5_doesAll_49 : decode cX5_doesAll 49 = .ok (.if_icmp .ge 19, 3) := by decide +kernel
theorem dX5_doesAll_52 : decode cX5_doesAll 52 = .ok (.goto 12, 3) := by decide +kernel
theorem dX5_doesAll_55 : decode cX5_doesAll 55 = .ok (.aload_n 0, 1) := by decide +kernel
theorem dX5_doesAll_56 : decode cX5_doesAll 56 = .ok (.iload_n 2, 1) := by decide +kernel
theorem dX5_doesAll_57 : decode cX5_doesAll 57 = .ok (.iconst 1, 1) := by decide +kernel
theorem dX5_doesAll_58 : decode cX5_doesAll 58 = .ok (.invokevirtual 56, 3) := by decide +kernel
theorem dX5_doesAll_61 : decode cX5_doesAll 61 = .ok (.ifCond .le 7, 3) := by decide +kernel
theorem dX5_doesAll_64 : decode cX5_doesAll 64 = .ok (.iconst 1, 1) := by decide +kernel
theorem dX5_doesAll_65 : decode cX5_doesAll 65 = .ok (.goto 4, 3) := by decide +kernel
theorem dX5_doesAll_68 : decode cX5_doesAll 68 = .ok (.iconst 0, 1) := by decide +kernel
theorem dX5_doesAll_69 : decode cX5_doesAll 69 = .ok (.istore 4, 2) := by decide +kernel
theorem dX5_doesAll_71 : decode cX5_doesAll 71 = .ok (.iload 4, 2) := by decide +kernel
theorem dX5_doesAll_73 : decode cX5_doesAll 73 = .ok (.ifCond .eq (-66), 3) := by decide +kernel
theorem dX5_doesAll_76 : decode cX5_doesAll 76 = .ok (.aload_n 0, 1) := by decide +kernel
theorem dX5_doesAll_77 : decode cX5_doesAll 77 = .ok (.getfield 31, 3) := by decide +kernel
theorem dX5_doesAll_80 : decode cX5_doesAll 80 = .ok (.iload_n 3, 1) := by decide +kernel
theorem dX5_doesAll_81 : decode cX5_doesAll 81 = .ok (.iaload, 1) := by decide +kernel
theorem dX5_doesAll_82 : decode cX5_doesAll 82 = .ok (.iconst 2, 1) := by decide +kernel
theorem dX5_doesAll_83 : decode cX5_doesAll 83 = .ok (.if_icmp .ge 31, 3) := by decide +kernel
theorem dX5_doesAll_86 : decode cX5_doesAll 86 = .ok (.aload_n 0, 1) := by decide +kernel
theorem dX5_doesAll_87 : decode cX5_doesAll 87 = .ok (.iload_n 2, 1) := by decide +kernel
theorem dX5_doesAll_88 : decode cX5_doesAll 88 = .ok (.aload_n 0, 1) := by decide +kernel
theorem dX5_doesAll_89 : decode cX5_doesAll 89 = .ok (.getfield 34, 3) := by decide +kernel
theorem dX5_doesAll_92 : decode cX5_doesAll 92 = .ok (.iload_n 3, 1) := by decide +kernel
theorem dX5_doesAll_93 : decode cX5_doesAll 93 = .ok (.iaload, 1) := by decide +kernel
theorem dX5_doesAll_94 : decode cX5_doesAll 94 = .ok (.aload_n 0, 1) := by decide +kernel
theorem dX5_doesAll_95 : decode cX5_doesAll 95 = .ok (.getfield 31, 3) := by decide +kernel
theorem dX5_doesAll_98 : decode cX5_doesAll 98 = .ok (.iload_n 3, 1) := by decide +kernel
theorem dX5_doesAll_99 : decode cX5_doesAll 99 = .ok (.iaload, 1) := by decide +kernel
theorem dX5_doesAll_100 : decode cX5_doesAll 100 = .ok (.ifCond .ne 7, 3) := by decide +kernel
theorem dX5_doesAll_103 : decode cX5_doesAll 103 = .ok (.iconst 1, 1) := by decide +kernel
theorem dX5_doesAll_104 : decode cX5_doesAll 104 = .ok (.goto 4, 3) := by decide +kernel
theorem dX5_doesAll_107 : decode cX5_doesAll 107 = .ok (.iconst 0, 1) := by decide +kernel
theorem dX5_doesAll_108 : decode cX5_doesAll 108 = .ok (.invokevirtual 111, 3) := by decide +kernel
theorem dX5_doesAll_111 : decode cX5_doesAll 111 = .ok (.goto 23, 3) := by decide +kernel
theorem dX5_doesAll_114 : decode cX5_doesAll 114 = .ok (.aload_n 0, 1) := by decide +kernel
theorem dX5_doesAll_115 : decode cX5_doesAll 115 = .ok (.iload_n 2, 1) := by decide +kernel
theorem dX5_doesAll_116 : decode cX5_doesAll 116 = .ok (.aload_n 0, 1) := by decide +kernel
theorem dX5_doesAll_117 : decode cX5_doesAll 117 = .ok (.getfield 31, 3) := by decide +kernel
theorem dX5_doesAll_120 : decode cX5_doesAll 120 = .ok (.iload_n 3, 1) := by decide +kernel
theorem dX5_doesAll_121 : decode cX5_doesAll 121 = .ok (.iaload, 1) := by decide +kernel
theorem dX5_doesAll_122 : decode cX5_doesAll 122 = .ok (.iconst 2, 1) := by decide +kernel
theorem dX5_doesAll_123 : decode cX5_doesAll 123 = .ok (.if_icmp .ne 7, 3) := by decide +kernel
theorem dX5_doesAll_126 : decode cX5_doesAll 126 = .ok (.iconst 1, 1) := by decide +kernel
theorem dX5_doesAll_127 : decode cX5_doesAll 127 = .ok (.goto 4, 3) := by decide +kernel
theorem dX5_doesAll_130 : decode cX5_doesAll 130 = .ok (.iconst 0, 1) := by decide +kernel
theorem dX5_doesAll_131 : decode cX5_doesAll 131 = .ok (.invokevirtual 115, 3) := by decide +kernel
theorem dX5_doesAll_134 : decode cX5_doesAll 134 = .ok (.istore_n 2, 1) := by decide +kernel
theorem dX5_doesAll_135 : decode cX5_doesAll 135 = .ok (.iinc 3 1, 3) := by decide +kernel
theorem dX5_doesAll_138 : decode cX5_doesAll 138 = .ok (.goto (-131), 3) := by decide +kernel
theorem dX5_doesAll_141 : decode cX5_doesAll 141 = .ok (.iload_n 3, 1) := by decide +kernel
theorem dX5_doesAll_142 : decode cX5_doesAll 142 = .ok (.ireturn, 1) := by decide +kernel
set_option maxRecDepth 20000 in
theorem ggX5_run_X5_isVersion : GoodIn wsX5_run wsX5_isVersion := goodIn_r _ [6, 7, 8, 9, 5, 10, 105, 106, 107, 108, 109, 110, 111, 112, 113, 114, 115, 116, 117, 118, 119, 120] (by decide +kernel) (by decide +kernel)
set_option maxRecDepth 20000 in
theorem gX5_run_X5_isVersion : GoodIn wsX5_run (wsV RX5 107 RX5 yX5_isVersion wsX5_isVersion) := goodIn_app (goodIn_of _ (by decide +kernel)) ggX5_run_X5_isVersion
set_option maxRecDepth 20000 in
theorem ggX5_run_X5_faultOf : GoodIn wsX5_run wsX5_faultOf := goodIn_r _ [14, 15, 16, 17, 18, 19, 20, 21, 22, 5, 23, 24, 25, 26, 27, 28, 8, 9, 10, 105, 106, 107, 108, 109, 110, 111, 112, 113, 114, 115, 116, 117, 118, 119, 120] (by decide +kernel) (by decide +kernel)
set_option maxRecDepth 20000 in
theorem gX5_run_X5_faultOf : GoodIn wsX5_run (wsV RX5 149 RX5 yX5_faultOf wsX5_faultOf) := goodIn_app (goodIn_of _ (by decide +kernel)) ggX5_run_X5_faultOf
set_option maxRecDepth 20000 in
theorem ggX5_run_X5_saves : GoodIn wsX5_run wsX5_saves := goodIn_r _ [32, 33, 34, 7, 35, 36, 5, 37, 105, 106, 107, 108, 109, 110, 111, 112, 113, 114, 115, 116, 117, 118, 119, 120] (by decide +kernel) (by decide +kernel)
set_option maxRecDepth 20000 in
theorem gX5_run_X5_saves : GoodIn wsX5_run (wsV RX5 104 RX5 yX5_saves wsX5_saves) := goodIn_app (goodIn_of _ (by decide +kernel)) ggX5_run_X5_saves
set_option maxRecDepth 20000 in
theorem ggX5_run_X5_doesAll : GoodIn wsX5_run wsX5_doesAll := goodIn_r _ [41, 16, 7, 19, 24, 42, 43, 44, 5, 45, 46, 47, 48, 49, 50, 51, 52, 53, 54, 55, 56, 57, 58, 59, 60, 61, 62, 63, 64, 65, 66, 67, 68, 69, 70, 71, 72, 73, 74, 75, 76, 77, 78, 79, 80, 81, 82, 83, 84, 85, 86, 87, 88, 89, 90, 91, 92, 93, 94, 95, 96, 97, 98, 99, 100, 101, 102, 103, 104, 105, 106, 107, 108, 109, 110, 111, 112, 113, 114, 115, 116, 117, 118, 119, 120] (by decide +kernel) (by decide +kernel)
set_option maxRecDepth 20000 in
theorem gX5_run_X5_doesAll : GoodIn wsX5_run (wsV RX5 153 RX5 yX5_doesAll wsX5_doesAll) := goodIn_app (goodIn_of _ (by decide +kernel)) ggX5_run_X5_doesAll
theorem dX5_run_0 : decode cX5_run 0 = .ok (.aload_n 0, 1) := by decide +kernel
theorem dX5_run_1 : decode cX5_run 1 = .ok (.aload_n 0, 1) := by decide +kernel
theorem dX5_run_2 : decode cX5_run 2 = .ok (.iload_n 1, 1) := by decide +kernel
theorem dX5_run_3 : decode cX5_run 3 = .ok (.invokevirtual 107, 3) := by decide +kernel
theorem dX5_run_6 : decode cX5_run 6 = .ok (.ifCond .ne 7, 3) := by decide +kernel
theorem dX5_run_9 : decode cX5_run 9 = .ok (.iconst 1, 1) := by decide +kernel
theorem dX5_run_10 : decode cX5_run 10 = .ok (.goto 4, 3) := by decide +kernel
theorem dX5_run_13 : decode cX5_run 13 = .ok (.iconst 0, 1) := by decide +kernel
theorem dX5_run_14 : decode cX5_run 14 = .ok (.putfield 41, 3) := by decide +kernel
theorem dX5_run_17 : decode cX5_run 17 = .ok (.aload_n 0, 1) := by decide +kernel
theorem dX5_run_18 : decode cX5_run 18 = .ok (.getfield 41, 3) := by decide +kernel
theorem dX5_run_21 : decode cX5_run 21 = .ok (.ifCond .eq 5, 3) := by decide +kernel
theorem dX5_run_24 : decode cX5_run 24 = .ok (.iconst 0, 1) := by decide +kernel
theorem dX5_run_25 : decode cX5_run 25 = .ok (.ireturn, 1) := by decide +kernel
theorem dX5_run_26 : decode cX5_run 26 = .ok (.aload_n 0, 1) := by decide +kernel
theorem dX5_run_27 : decode cX5_run 27 = .ok (.invokevirtual 149, 3) := by decide +kernel
theorem dX5_run_30 : decode cX5_run 30 = .ok (.istore_n 2, 1) := by decide +kernel
theorem dX5_run_31 : decode cX5_run 31 = .ok (.iload_n 2, 1) := by decide +kernel
theorem dX5_run_32 : decode cX5_run 32 = .ok (.iconst (-1), 1) := by decide +kernel
theorem dX5_run_33 : decode cX5_run 33 = .ok (.if_icmp .eq 8, 3) := by decide +kernel
theorem dX5_run_36 : decode cX5_run 36 = .ok (.bipush (-10), 2) := by decide +kernel
theorem dX5_run_38 : decode cX5_run 38 = .ok (.iload_n 2, 1) := by decide +kernel
theorem dX5_run_39 : decode cX5_run 39 = .ok (.isub, 1) := by decide +kernel
theorem dX5_run_40 : decode cX5_run 40 = .ok (.ireturn, 1) := by decide +kernel
theorem dX5_run_41 : decode cX5_run 41 = .ok (.aload_n 0, 1) := by decide +kernel
theorem dX5_run_42 : decode cX5_run 42 = .ok (.invokevirtual 104, 3) := by decide +kernel
theorem dX5_run_45 : decode cX5_run 45 = .ok (.aload_n 0, 1) := by decide +kernel
theorem dX5_run_46 : decode cX5_run 46 = .ok (.iload_n 1, 1) := by decide +kernel
theorem dX5_run_47 : decode cX5_run 47 = .ok (.invokevirtual 153, 3) := by decide +kernel
theorem dX5_run_50 : decode cX5_run 50 = .ok (.ireturn, 1) := by decide +kernel
set_option maxRecDepth 20000 in
theorem ggX5_wouldBe_X5_copies : GoodIn wsX5_wouldBe wsX5_copies := goodIn_r _ [6] (by decide +kernel) (by decide +kernel)
set_option maxRecDepth 20000 in
theorem gX5_wouldBe_X5_copies : GoodIn wsX5_wouldBe (va_wsS RX5 48 yX5_copies wsX5_copies) := goodIn_app (goodIn_of _ (by decide +kernel)) ggX5_wouldBe_X5_copies
set_option maxRecDepth 20000 in
theorem ggX5_wouldBe_X5_doesAll : GoodIn wsX5_wouldBe wsX5_doesAll := goodIn_r _ [10, 11, 1, 12, 13, 14, 15, 16, 5, 17, 18, 19, 20, 21, 22, 23, 24, 25, 26, 27, 28, 29, 30, 31, 32, 33, 34, 35, 36, 37, 38, 39, 40, 41, 42, 43, 44, 45, 46, 47, 48, 49, 50, 51, 52, 53, 54, 55, 56, 57, 58, 59, 60, 61, 62, 63, 64, 65, 66, 67, 68, 69, 70, 71, 72, 73, 74, 75, 76, 77, 78, 79, 80, 81, 82, 83, 84, 85, 86, 87, 88, 89, 90, 91, 92] (by decide +kernel) (by decide +kernel)
set_option maxRecDepth 20000 in
theorem gX5_wouldBe_X5_doesAll : GoodIn wsX5_wouldBe (wsV RX5 153 RX5 yX5_doesAll wsX5_doesAll) := goodIn_app (goodIn_of _ (by decide +kernel)) ggX5_wouldBe_X5_doesAll
set_option maxRecDepth 20000 in
theorem ggX5_wouldBe_X5_of : GoodIn wsX5_wouldBe wsX5_of := goodIn_r _ [17, 1, 77, 78, 79, 80, 81, 82, 83, 84, 85, 86, 87, 88, 89, 90, 91, 92] (by decide +kernel) (by decide +kernel)
set_option maxRecDepth 20000 in
theorem gX5_wouldBe_X5_of : GoodIn wsX5_wouldBe (wsV RX5 56 RX5 yX5_of wsX5_of) := goodIn_app (goodIn_of _ (by decide +kernel)) ggX5_wouldBe_X5_of
theorem dX5_wouldBe_0 : decode cX5_wouldBe 0 = .ok (.aload_n 0, 1) := by decide +kernel
theorem dX5_wouldBe_1 : decode cX5_wouldBe 1 = .ok (.getfield 7, 3) := by decide +kernel
theorem dX5_wouldBe_4 : decode cX5_wouldBe 4 = .ok (.iconst 0, 1) := by decide +kernel
theorem dX5_wouldBe_5 : decode cX5_wouldBe 5 = .ok (.aload_n 0, 1) := by decide +kernel
theorem dX5_wouldBe_6 : decode cX5_wouldBe 6 = .ok (.getfield 16, 3) := by decide +kernel
theorem dX5_wouldBe_9 : decode cX5_wouldBe 9 = .ok (.iconst 0, 1) := by decide +kernel
theorem dX5_wouldBe_10 : decode cX5_wouldBe 10 = .ok (.invokestatic 48, 3) := by decide +kernel
theorem dX5_wouldBe_13 : decode cX5_wouldBe 13 = .ok (.aload_n 0, 1) := by decide +kernel
theorem dX5_wouldBe_14 : decode cX5_wouldBe 14 = .ok (.getfield 7, 3) := by decide +kernel
theorem dX5_wouldBe_17 : decode cX5_wouldBe 17 = .ok (.iconst 0, 1) := by decide +kernel
theorem dX5_wouldBe_18 : decode cX5_wouldBe 18 = .ok (.iload_n 2, 1) := by decide +kernel
theorem dX5_wouldBe_19 : decode cX5_wouldBe 19 = .ok (.iastore, 1) := by decide +kernel
theorem dX5_wouldBe_20 : decode cX5_wouldBe 20 = .ok (.aload_n 0, 1) := by decide +kernel
theorem dX5_wouldBe_21 : decode cX5_wouldBe 21 = .ok (.getfield 7, 3) := by decide +kernel
theorem dX5_wouldBe_24 : decode cX5_wouldBe 24 = .ok (.iconst 2, 1) := by decide +kernel
theorem dX5_wouldBe_25 : decode cX5_wouldBe 25 = .ok (.iaload, 1) := by decide +kernel
theorem dX5_wouldBe_26 : decode cX5_wouldBe 26 = .ok (.istore 4, 2) := by decide +kernel
theorem dX5_wouldBe_28 : decode cX5_wouldBe 28 = .ok (.aload_n 0, 1) := by decide +kernel
theorem dX5_wouldBe_29 : decode cX5_wouldBe 29 = .ok (.iload_n 1, 1) := by decide +kernel
theorem dX5_wouldBe_30 : decode cX5_wouldBe 30 = .ok (.invokevirtual 153, 3) := by decide +kernel
theorem dX5_wouldBe_33 : decode cX5_wouldBe 33 = .ok (.istore 5, 2) := by decide +kernel
theorem dX5_wouldBe_35 : decode cX5_wouldBe 35 = .ok (.iconst 0, 1) := by decide +kernel
theorem dX5_wouldBe_36 : decode cX5_wouldBe 36 = .ok (.istore 6, 2) := by decide +kernel
theorem dX5_wouldBe_38 : decode cX5_wouldBe 38 = .ok (.iload 4, 2) := by decide +kernel
theorem dX5_wouldBe_40 : decode cX5_wouldBe 40 = .ok (.istore 7, 2) := by decide +kernel
theorem dX5_wouldBe_42 : decode cX5_wouldBe 42 = .ok (.iload 7, 2) := by decide +kernel
theorem dX5_wouldBe_44 : decode cX5_wouldBe 44 = .ok (.iload 4, 2) := by decide +kernel
theorem dX5_wouldBe_46 : decode cX5_wouldBe 46 = .ok (.iload 5, 2) := by decide +kernel
theorem dX5_wouldBe_48 : decode cX5_wouldBe 48 = .ok (.iadd, 1) := by decide +kernel
theorem dX5_wouldBe_49 : decode cX5_wouldBe 49 = .ok (.if_icmp .ge 60, 3) := by decide +kernel
theorem dX5_wouldBe_52 : decode cX5_wouldBe 52 = .ok (.aload_n 0, 1) := by decide +kernel
theorem dX5_wouldBe_53 : decode cX5_wouldBe 53 = .ok (.iload 7, 2) := by decide +kernel
theorem dX5_wouldBe_55 : decode cX5_wouldBe 55 = .ok (.iconst 5, 1) := by decide +kernel
theorem dX5_wouldBe_56 : decode cX5_wouldBe 56 = .ok (.invokevirtual 56, 3) := by decide +kernel
theorem dX5_wouldBe_59 : decode cX5_wouldBe 59 = .ok (.istore 8, 2) := by decide +kernel
theorem dX5_wouldBe_61 : decode cX5_wouldBe 61 = .ok (.iload_n 3, 1) := by decide +kernel
theorem dX5_wouldBe_62 : decode cX5_wouldBe 62 = .ok (.ifCond .ne 15, 3) := by decide +kernel
theorem dX5_wouldBe_65 : decode cX5_wouldBe 65 = .ok (.iload 8, 2) := by decide +kernel
theorem dX5_wouldBe_67 : decode cX5_wouldBe 67 = .ok (.iload 6, 2) := by decide +kernel
theorem dX5_wouldBe_69 : decode cX5_wouldBe 69 = .ok (.if_icmp .le 8, 3) := by decide +kernel
theorem dX5_wouldBe_72 : decode cX5_wouldBe 72 = .ok (.iload 8, 2) := by decide +kernel
theorem dX5_wouldBe_74 : decode cX5_wouldBe 74 = .ok (.goto 27, 3) := by decide +kernel
theorem dX5_wouldBe_77 : decode cX5_wouldBe 77 = .ok (.iload_n 3, 1) := by decide +kernel
theorem dX5_wouldBe_78 : decode cX5_wouldBe 78 = .ok (.ifCond .eq 21, 3) := by decide +kernel
theorem dX5_wouldBe_81 : decode cX5_wouldBe 81 = .ok (.aload_n 0, 1) := by decide +kernel
theorem dX5_wouldBe_82 : decode cX5_wouldBe 82 = .ok (.iload 7, 2) := by decide +kernel
theorem dX5_wouldBe_84 : decode cX5_wouldBe 84 = .ok (.bipush 6, 2) := by decide +kernel
theorem dX5_wouldBe_86 : decode cX5_wouldBe 86 = .ok (.invokevirtual 56, 3) := by decide +kernel
theorem dX5_wouldBe_89 : decode cX5_wouldBe 89 = .ok (.ifCond .le 10, 3) := by decide +kernel
theorem dX5_wouldBe_92 : decode cX5_wouldBe 92 = .ok (.iload 6, 2) := by decide +kernel
theorem dX5_wouldBe_94 : decode cX5_wouldBe 94 = .ok (.iconst 1, 1) := by decide +kernel
theorem dX5_wouldBe_95 : decode cX5_wouldBe 95 = .ok (.iadd, 1) := by decide +kernel
theorem dX5_wouldBe_96 : decode cX5_wouldBe 96 = .ok (.goto 5, 3) := by decide +kernel
theorem dX5_wouldBe_99 : decode cX5_wouldBe 99 = .ok (.iload 6, 2) := by decide +kernel
theorem dX5_wouldBe_101 : decode cX5_wouldBe 101 = .ok (.istore 6, 2) := by decide +kernel
theorem dX5_wouldBe_103 : decode cX5_wouldBe 103 = .ok (.iinc 7 1, 3) := by decide +kernel
theorem dX5_wouldBe_106 : decode cX5_wouldBe 106 = .ok (.goto (-64), 3) := by decide +kernel
theorem dX5_wouldBe_109 : decode cX5_wouldBe 109 = .ok (.aload_n 0, 1) := by decide +kernel
theorem dX5_wouldBe_110 : decode cX5_wouldBe 110 = .ok (.getfield 16, 3) := by decide +kernel
theorem dX5_wouldBe_113 : decode cX5_wouldBe 113 = .ok (.iconst 0, 1) := by decide +kernel
theorem dX5_wouldBe_114 : decode cX5_wouldBe 114 = .ok (.aload_n 0, 1) := by decide +kernel
theorem dX5_wouldBe_115 : decode cX5_wouldBe 115 = .ok (.getfield 7, 3) := by decide +kernel
theorem dX5_wouldBe_118 : decode cX5_wouldBe 118 = .ok (.iconst 0, 1) := by decide +kernel
theorem dX5_wouldBe_119 : decode cX5_wouldBe 119 = .ok (.invokestatic 48, 3) := by decide +kernel
theorem dX5_wouldBe_122 : decode cX5_wouldBe 122 = .ok (.iload 6, 2) := by decide +kernel
theorem dX5_wouldBe_124 : decode cX5_wouldBe 124 = .ok (.ireturn, 1) := by decide +kernel
set_option maxRecDepth 20000 in
theorem ggX5_stalls_X5_isVersion : GoodIn wsX5_stalls wsX5_isVersion := goodIn_r _ [6, 7, 8, 9, 5, 10, 104, 105, 106, 107, 108, 109, 110, 111, 112, 113, 114, 115, 116, 117, 118, 119] (by decide +kernel) (by decide +kernel)
set_option maxRecDepth 20000 in
theorem gX5_stalls_X5_isVersion : GoodIn wsX5_stalls (wsV RX5 107 RX5 yX5_isVersion wsX5_isVersion) := goodIn_app (goodIn_of _ (by decide +kernel)) ggX5_stalls_X5_isVersion
set_option maxRecDepth 20000 in
theorem ggX5_stalls_X5_in : GoodIn wsX5_stalls wsX5_in := goodIn_r _ [10] (by decide +kernel) (by decide +kernel)
set_option maxRecDepth 20000 in
theorem gX5_stalls_X5_in : GoodIn wsX5_stalls (va_wsS RX5 52 yX5_in wsX5_in) := goodIn_app (goodIn_of _ (by decide +kernel)) ggX5_stalls_X5_in
set_option maxRecDepth 20000 in
theorem ggX5_stalls_X5_faultOf : GoodIn wsX5_stalls wsX5_faultOf := goodIn_r _ [14, 15, 16, 17, 18, 19, 20, 21, 22, 5, 23, 24, 25, 26, 27, 28, 8, 9, 10, 104, 105, 106, 107, 108, 109, 110, 111, 112, 113, 114, 115, 116, 117, 118, 119] (by decide +kernel) (by decide +kernel)
set_option maxRecDepth 20000 in
theorem gX5_stalls_X5_faultOf : GoodIn wsX5_stalls (wsV RX5 149 RX5 yX5_faultOf wsX5_faultOf) := goodIn_app (goodIn_of _ (by decide +kernel)) ggX5_stalls_X5_faultOf
set_option maxRecDepth 20000 in
theorem ggX5_stalls_X5_wouldBe : GoodIn wsX5_stalls wsX5_wouldBe := goodIn_r _ [32, 7, 33, 34, 35, 5, 36, 37, 38, 39, 40, 16, 19, 24, 41, 42, 43, 44, 45, 46, 47, 48, 49, 50, 51, 52, 53, 54, 55, 56, 57, 58, 59, 60, 61, 62, 63, 64, 65, 66, 67, 68, 69, 70, 71, 72, 73, 74, 75, 76, 77, 78, 79, 80, 81, 82, 83, 84, 85, 86, 87, 88, 89, 90, 91, 92, 93, 94, 95, 96, 97, 98, 99, 100, 101, 102, 103, 104, 105, 106, 107, 108, 109, 110, 111, 112, 113, 114, 115, 116, 117, 118, 119] (by decide +kernel) (by decide +kernel)
set_option maxRecDepth 20000 in
theorem gX5_stalls_X5_wouldBe : GoodIn wsX5_stalls (wsV RX5 156 RX5 yX5_wouldBe wsX5_wouldBe) := goodIn_app (goodIn_of _ (by decide +kernel)) ggX5_stalls_X5_wouldBe
theorem dX5_stalls_0 : decode cX5_stalls 0 = .ok (.aload_n 0, 1) := by decide +kernel
theorem dX5_stalls_1 : decode cX5_stalls 1 = .ok (.aload_n 0, 1) := by decide +kernel
theorem dX5_stalls_2 : decode cX5_stalls 2 = .ok (.iload_n 1, 1) := by decide +kernel
theorem dX5_stalls_3 : decode cX5_stalls 3 = .ok (.invokevirtual 107, 3) := by decide +kernel
theorem dX5_stalls_6 : decode cX5_stalls 6 = .ok (.ifCond .ne 7, 3) := by decide +kernel
theorem dX5_stalls_9 : decode cX5_stalls 9 = .ok (.iconst 1, 1) := by decide +kernel
theorem dX5_stalls_10 : decode cX5_stalls 10 = .ok (.goto 30, 3) := by decide +kernel
theorem dX5_stalls_13 : decode cX5_stalls 13 = .ok (.iload_n 2, 1) := by decide +kernel
theorem dX5_stalls_14 : decode cX5_stalls 14 = .ok (.iconst 1, 1) := by decide +kernel
theorem dX5_stalls_15 : decode cX5_stalls 15 = .ok (.bipush 9, 2) := by decide +kernel
theorem dX5_stalls_17 : decode cX5_stalls 17 = .ok (.invokestatic 52, 3) := by decide +kernel
theorem dX5_stalls_20 : decode cX5_stalls 20 = .ok (.ifCond .ne 7, 3) := by decide +kernel
theorem dX5_stalls_23 : decode cX5_stalls 23 = .ok (.iconst 2, 1) := by decide +kernel
theorem dX5_stalls_24 : decode cX5_stalls 24 = .ok (.goto 16, 3) := by decide +kernel
theorem dX5_stalls_27 : decode cX5_stalls 27 = .ok (.aload_n 0, 1) := by decide +kernel
theorem dX5_stalls_28 : decode cX5_stalls 28 = .ok (.invokevirtual 149, 3) := by decide +kernel
theorem dX5_stalls_31 : decode cX5_stalls 31 = .ok (.iconst (-1), 1) := by decide +kernel
theorem dX5_stalls_32 : decode cX5_stalls 32 = .ok (.if_icmp .eq 7, 3) := by decide +kernel
theorem dX5_stalls_35 : decode cX5_stalls 35 = .ok (.iconst 3, 1) := by decide +kernel
theorem dX5_stalls_36 : decode cX5_stalls 36 = .ok (.goto 4, 3) := by decide +kernel
theorem dX5_stalls_39 : decode cX5_stalls 39 = .ok (.iconst 0, 1) := by decide +kernel
theorem dX5_stalls_40 : decode cX5_stalls 40 = .ok (.putfield 41, 3) := by decide +kernel
theorem dX5_stalls_43 : decode cX5_stalls 43 = .ok (.aload_n 0, 1) := by decide +kernel
theorem dX5_stalls_44 : decode cX5_stalls 44 = .ok (.getfield 41, 3) := by decide +kernel
theorem dX5_stalls_47 : decode cX5_stalls 47 = .ok (.ifCond .eq 7, 3) := by decide +kernel
theorem dX5_stalls_50 : decode cX5_stalls 50 = .ok (.iconst 0, 1) := by decide +kernel
theorem dX5_stalls_51 : decode cX5_stalls 51 = .ok (.goto 10, 3) := by decide +kernel
theorem dX5_stalls_54 : decode cX5_stalls 54 = .ok (.aload_n 0, 1) := by decide +kernel
theorem dX5_stalls_55 : decode cX5_stalls 55 = .ok (.iload_n 1, 1) := by decide +kernel
theorem dX5_stalls_56 : decode cX5_stalls 56 = .ok (.iload_n 2, 1) := by decide +kernel
theorem dX5_stalls_57 : decode cX5_stalls 57 = .ok (.iconst 1, 1) := by decide +kernel
theorem dX5_stalls_58 : decode cX5_stalls 58 = .ok (.invokevirtual 156, 3) := by decide +kernel
theorem dX5_stalls_61 : decode cX5_stalls 61 = .ok (.ireturn, 1) := by decide +kernel
set_option maxRecDepth 20000 in
theorem ggX5_worstWith_X5_isVersion : GoodIn wsX5_worstWith wsX5_isVersion := goodIn_r _ [6, 7, 8, 9, 5, 10, 104, 105, 106, 107, 108, 109, 110, 111, 112, 113, 114, 115, 116, 117, 118, 119] (by decide +kernel) (by decide +kernel)
set_option maxRecDepth 20000 in
theorem gX5_worstWith_X5_isVersion : GoodIn wsX5_worstWith (wsV RX5 107 RX5 yX5_isVersion wsX5_isVersion) := goodIn_app (goodIn_of _ (by decide +kernel)) ggX5_worstWith_X5_isVersion
set_option maxRecDepth 20000 in
theorem ggX5_worstWith_X5_in : GoodIn wsX5_worstWith wsX5_in := goodIn_r _ [10] (by decide +kernel) (by decide +kernel)
set_option maxRecDepth 20000 in
theorem gX5_worstWith_X5_in : GoodIn wsX5_worstWith (va_wsS RX5 52 yX5_in wsX5_in) := goodIn_app (goodIn_of _ (by decide +kernel)) ggX5_worstWith_X5_in
set_option maxRecDepth 20000 in
theorem ggX5_worstWith_X5_faultOf : GoodIn wsX5_worstWith wsX5_faultOf := goodIn_r _ [14, 15, 16, 17, 18, 19, 20, 21, 22, 5, 23, 24, 25, 26, 27, 28, 8, 9, 10, 104, 105, 106, 107, 108, 109, 110, 111, 112, 113, 114, 115, 116, 117, 118, 119] (by decide +kernel) (by decide +kernel)
set_option maxRecDepth 20000 in
theorem gX5_worstWith_X5_faultOf : GoodIn wsX5_worstWith (wsV RX5 149 RX5 yX5_faultOf wsX5_faultOf) := goodIn_app (goodIn_of _ (by decide +kernel)) ggX5_worstWith_X5_faultOf
set_option maxRecDepth 20000 in
theorem ggX5_worstWith_X5_wouldBe : GoodIn wsX5_worstWith wsX5_wouldBe := goodIn_r _ [32, 7, 33, 34, 35, 5, 36, 37, 38, 39, 40, 16, 19, 24, 41, 42, 43, 44, 45, 46, 47, 48, 49, 50, 51, 52, 53, 54, 55, 56, 57, 58, 59, 60, 61, 62, 63, 64, 65, 66, 67, 68, 69, 70, 71, 72, 73, 74, 75, 76, 77, 78, 79, 80, 81, 82, 83, 84, 85, 86, 87, 88, 89, 90, 91, 92, 93, 94, 95, 96, 97, 98, 99, 100, 101, 102, 103, 104, 105, 106, 107, 108, 109, 110, 111, 112, 113, 114, 115, 116, 117, 118, 119] (by decide +kernel) (by decide +kernel)
set_option maxRecDepth 20000 in
theorem gX5_worstWith_X5_wouldBe : GoodIn wsX5_worstWith (wsV RX5 156 RX5 yX5_wouldBe wsX5_wouldBe) := goodIn_app (goodIn_of _ (by decide +kernel)) ggX5_worstWith_X5_wouldBe
theorem dX5_worstWith_0 : decode cX5_worstWith 0 = .ok (.aload_n 0, 1) := by decide +kernel
theorem dX5_worstWith_1 : decode cX5_worstWith 1 = .ok (.aload_n 0, 1) := by decide +kernel
theorem dX5_worstWith_2 : decode cX5_worstWith 2 = .ok (.iload_n 1, 1) := by decide +kernel
theorem dX5_worstWith_3 : decode cX5_worstWith 3 = .ok (.invokevirtual 107, 3) := by decide +kernel
theorem dX5_worstWith_6 : decode cX5_worstWith 6 = .ok (.ifCond .ne 7, 3) := by decide +kernel
theorem dX5_worstWith_9 : decode cX5_worstWith 9 = .ok (.iconst 1, 1) := by decide +kernel
theorem dX5_worstWith_10 : decode cX5_worstWith 10 = .ok (.goto 30, 3) := by decide +kernel
theorem dX5_worstWith_13 : decode cX5_worstWith 13 = .ok (.iload_n 2, 1) := by decide +kernel
theorem dX5_worstWith_14 : decode cX5_worstWith 14 = .ok (.iconst 1, 1) := by decide +kernel
theorem dX5_worstWith_15 : decode cX5_worstWith 15 = .ok (.bipush 9, 2) := by decide +kernel
theorem dX5_worstWith_17 : decode cX5_worstWith 17 = .ok (.invokestatic 52, 3) := by decide +kernel
theorem dX5_worstWith_20 : decode cX5_worstWith 20 = .ok (.ifCond .ne 7, 3) := by decide +kernel
theorem dX5_worstWith_23 : decode cX5_worstWith 23 = .ok (.iconst 2, 1) := by decide +kernel
theorem dX5_worstWith_24 : decode cX5_worstWith 24 = .ok (.goto 16, 3) := by decide +kernel
theorem dX5_worstWith_27 : decode cX5_worstWith 27 = .ok (.aload_n 0, 1) := by decide +kernel
theorem dX5_worstWith_28 : decode cX5_worstWith 28 = .ok (.invokevirtual 149, 3) := by decide +kernel
theorem dX5_worstWith_31 : decode cX5_worstWith 31 = .ok (.iconst (-1), 1) := by decide +kernel
theorem dX5_worstWith_32 : decode cX5_worstWith 32 = .ok (.if_icmp .eq 7, 3) := by decide +kernel
theorem dX5_worstWith_35 : decode cX5_worstWith 35 = .ok (.iconst 3, 1) := by decide +kernel
theorem dX5_worstWith_36 : decode cX5_worstWith 36 = .ok (.goto 4, 3) := by decide +kernel
theorem dX5_worstWith_39 : decode cX5_worstWith 39 = .ok (.iconst 0, 1) := by decide +kernel
theorem dX5_worstWith_40 : decode cX5_worstWith 40 = .ok (.putfield 41, 3) := by decide +kernel
theorem dX5_worstWith_43 : decode cX5_worstWith 43 = .ok (.aload_n 0, 1) := by decide +kernel
theorem dX5_worstWith_44 : decode cX5_worstWith 44 = .ok (.getfield 41, 3) := by decide +kernel
theorem dX5_worstWith_47 : decode cX5_worstWith 47 = .ok (.ifCond .eq 7, 3) := by decide +kernel
theorem dX5_worstWith_50 : decode cX5_worstWith 50 = .ok (.iconst 0, 1) := by decide +kernel
theorem dX5_worstWith_51 : decode cX5_worstWith 51 = .ok (.goto 10, 3) := by decide +kernel
theorem dX5_worstWith_54 : decode cX5_worstWith 54 = .ok (.aload_n 0, 1) := by decide +kernel
theorem dX5_worstWith_55 : decode cX5_worstWith 55 = .ok (.iload_n 1, 1) := by decide +kernel
theorem dX5_worstWith_56 : decode cX5_worstWith 56 = .ok (.iload_n 2, 1) := by decide +kernel
theorem dX5_worstWith_57 : decode cX5_worstWith 57 = .ok (.iconst 0, 1) := by decide +kernel
theorem dX5_worstWith_58 : decode cX5_worstWith 58 = .ok (.invokevirtual 156, 3) := by decide +kernel
theorem dX5_worstWith_61 : decode cX5_worstWith 61 = .ok (.ireturn, 1) := by decide +kernel
set_option maxRecDepth 20000 in
theorem ggX5_leastRate_X5_isVersion : GoodIn wsX5_leastRate wsX5_isVersion := goodIn_r _ [6, 7, 8, 9, 5, 10, 104, 105, 106, 107, 108, 109, 110, 111, 112, 113, 114, 115, 116, 117, 118, 119] (by decide +kernel) (by decide +kernel)
set_option maxRecDepth 20000 in
theorem gX5_leastRate_X5_isVersion : GoodIn wsX5_leastRate (wsV RX5 107 RX5 yX5_isVersion wsX5_isVersion) := goodIn_app (goodIn_of _ (by decide +kernel)) ggX5_leastRate_X5_isVersion
set_option maxRecDepth 20000 in
theorem ggX5_leastRate_X5_faultOf : GoodIn wsX5_leastRate wsX5_faultOf := goodIn_r _ [14, 15, 16, 17, 18, 19, 20, 21, 22, 5, 23, 24, 25, 26, 27, 28, 8, 9, 10, 104, 105, 106, 107, 108, 109, 110, 111, 112, 113, 114, 115, 116, 117, 118, 119] (by decide +kernel) (by decide +kernel)
set_option maxRecDepth 20000 in
theorem gX5_leastRate_X5_faultOf : GoodIn wsX5_leastRate (wsV RX5 149 RX5 yX5_faultOf wsX5_faultOf) := goodIn_app (goodIn_of _ (by decide +kernel)) ggX5_leastRate_X5_faultOf
set_option maxRecDepth 20000 in
theorem ggX5_leastRate_X5_wouldBe : GoodIn wsX5_leastRate wsX5_wouldBe := goodIn_r _ [32, 7, 33, 34, 35, 5, 36, 37, 38, 39, 40, 16, 19, 24, 41, 42, 43, 44, 45, 46, 47, 48, 49, 50, 51, 52, 53, 54, 55, 56, 57, 58, 59, 60, 61, 62, 63, 64, 65, 66, 67, 68, 69, 70, 71, 72, 73, 74, 75, 76, 77, 78, 79, 80, 81, 82, 83, 84, 85, 86, 87, 88, 89, 90, 91, 92, 93, 94, 95, 96, 97, 98, 99, 100, 101, 102, 103, 104, 105, 106, 107, 108, 109, 110, 111, 112, 113, 114, 115, 116, 117, 118, 119] (by decide +kernel) (by decide +kernel)
set_option maxRecDepth 20000 in
theorem gX5_leastRate_X5_wouldBe : GoodIn wsX5_leastRate (wsV RX5 156 RX5 yX5_wouldBe wsX5_wouldBe) := goodIn_app (goodIn_of _ (by decide +kernel)) ggX5_leastRate_X5_wouldBe
theorem dX5_leastRate_0 : decode cX5_leastRate 0 = .ok (.aload_n 0, 1) := by decide +kernel
theorem dX5_leastRate_1 : decode cX5_leastRate 1 = .ok (.aload_n 0, 1) := by decide +kernel
theorem dX5_leastRate_2 : decode cX5_leastRate 2 = .ok (.iload_n 1, 1) := by decide +kernel
theorem dX5_leastRate_3 : decode cX5_leastRate 3 = .ok (.invokevirtual 107, 3) := by decide +kernel
theorem dX5_leastRate_6 : decode cX5_leastRate 6 = .ok (.ifCond .ne 7, 3) := by decide +kernel
theorem dX5_leastRate_9 : decode cX5_leastRate 9 = .ok (.iconst 1, 1) := by decide +kernel
theorem dX5_leastRate_10 : decode cX5_leastRate 10 = .ok (.goto 16, 3) := by decide +kernel
theorem dX5_leastRate_13 : decode cX5_leastRate 13 = .ok (.aload_n 0, 1) := by decide +kernel
theorem dX5_leastRate_14 : decode cX5_leastRate 14 = .ok (.invokevirtual 149, 3) := by decide +kernel
theorem dX5_leastRate_17 : decode cX5_leastRate 17 = .ok (.iconst (-1), 1) := by decide +kernel
theorem dX5_leastRate_18 : decode cX5_leastRate 18 = .ok (.if_icmp .eq 7, 3) := by decide +kernel
theorem dX5_leastRate_21 : decode cX5_leastRate 21 = .ok (.iconst 2, 1) := by decide +kernel
theorem dX5_leastRate_22 : decode cX5_leastRate 22 = .ok (.goto 4, 3) := by decide +kernel
theorem dX5_leastRate_25 : decode cX5_leastRate 25 = .ok (.iconst 0, 1) := by decide +kernel
theorem dX5_leastRate_26 : decode cX5_leastRate 26 = .ok (.putfield 41, 3) := by decide +kernel
theorem dX5_leastRate_29 : decode cX5_leastRate 29 = .ok (.aload_n 0, 1) := by decide +kernel
theorem dX5_leastRate_30 : decode cX5_leastRate 30 = .ok (.getfield 41, 3) := by decide +kernel
theorem dX5_leastRate_33 : decode cX5_leastRate 33 = .ok (.ifCond .eq 5, 3) := by decide +kernel
theorem dX5_leastRate_36 : decode cX5_leastRate 36 = .ok (.iconst 0, 1) := by decide +kernel
theorem dX5_leastRate_37 : decode cX5_leastRate 37 = .ok (.ireturn, 1) := by decide +kernel
theorem dX5_leastRate_38 : decode cX5_leastRate 38 = .ok (.iconst 1, 1) := by decide +kernel
theorem dX5_leastRate_39 : decode cX5_leastRate 39 = .ok (.istore_n 2, 1) := by decide +kernel
theorem dX5_leastRate_40 : decode cX5_leastRate 40 = .ok (.iload_n 2, 1) := by decide +kernel
theorem dX5_leastRate_41 : decode cX5_leastRate 41 = .ok (.bipush 10, 2) := by decide +kernel
theorem dX5_leastRate_43 : decode cX5_leastRate 43 = .ok (.if_icmp .ge 21, 3) := by decide +kernel
theorem dX5_leastRate_46 : decode cX5_leastRate 46 = .ok (.aload_n 0, 1) := by decide +kernel
theorem dX5_leastRate_47 : decode cX5_leastRate 47 = .ok (.iload_n 1, 1) := by decide +kernel
theorem dX5_leastRate_48 : decode cX5_leastRate 48 = .ok (.iload_n 2, 1) := by decide +kernel
theorem dX5_leastRate_49 : decode cX5_leastRate 49 = .ok (.iconst 1, 1) := by decide +kernel
theorem dX5_leastRate_50 : decode cX5_leastRate 50 = .ok (.invokevirtual 156, 3) := by decide +kernel
theorem dX5_leastRate_53 : decode cX5_leastRate 53 = .ok (.ifCond .ne 5, 3) := by decide +kernel
theorem dX5_leastRate_56 : decode cX5_leastRate 56 = .ok (.iload_n 2, 1) := by decide +kernel
theorem dX5_leastRate_57 : decode cX5_leastRate 57 = .ok (.ireturn, 1) := by decide +kernel
theorem dX5_leastRate_58 : decode cX5_leastRate 58 = .ok (.iinc 2 1, 3) := by decide +kernel
theorem dX5_leastRate_61 : decode cX5_leastRate 61 = .ok (.goto (-21), 3) := by decide +kernel
theorem dX5_leastRate_64 : decode cX5_leastRate 64 = .ok (.iconst (-1), 1) := by decide +kernel
theorem dX5_leastRate_65 : decode cX5_leastRate 65 = .ok (.ireturn, 1) := by decide +kernel
set_option maxRecDepth 20000 in
theorem ggX5_undo_X5_copies : GoodIn wsX5_undo wsX5_copies := goodIn_r _ [8] (by decide +kernel) (by decide +kernel)
set_option maxRecDepth 20000 in
theorem gX5_undo_X5_copies : GoodIn wsX5_undo (va_wsS RX5 48 yX5_copies wsX5_copies) := goodIn_app (goodIn_of _ (by decide +kernel)) ggX5_undo_X5_copies
theorem dX5_undo_0 : decode cX5_undo 0 = .ok (.aload_n 0, 1) := by decide +kernel
theorem dX5_undo_1 : decode cX5_undo 1 = .ok (.aload_n 0, 1) := by decide +kernel
theorem dX5_undo_2 : decode cX5_undo 2 = .ok (.getfield 45, 3) := by decide +kernel
theorem dX5_undo_5 : decode cX5_undo 5 = .ok (.ifCond .ne 7, 3) := by decide +kernel
theorem dX5_undo_8 : decode cX5_undo 8 = .ok (.iconst 1, 1) := by decide +kernel
theorem dX5_undo_9 : decode cX5_undo 9 = .ok (.goto 4, 3) := by decide +kernel
theorem dX5_undo_12 : decode cX5_undo 12 = .ok (.iconst 0, 1) := by decide +kernel
theorem dX5_undo_13 : decode cX5_undo 13 = .ok (.putfield 41, 3) := by decide +kernel
theorem dX5_undo_16 : decode cX5_undo 16 = .ok (.aload_n 0, 1) := by decide +kernel
theorem dX5_undo_17 : decode cX5_undo 17 = .ok (.getfield 41, 3) := by decide +kernel
theorem dX5_undo_20 : decode cX5_undo 20 = .ok (.ifCond .eq 5, 3) := by decide +kernel
theorem dX5_undo_23 : decode cX5_undo 23 = .ok (.iconst 0, 1) := by decide +kernel
theorem dX5_undo_24 : decode cX5_undo 24 = .ok (.ireturn, 1) := by decide +kernel
theorem dX5_undo_25 : decode cX5_undo 25 = .ok (.aload_n 0, 1) := by decide +kernel
theorem dX5_undo_26 : decode cX5_undo 26 = .ok (.dup, 1) := by decide +kernel
theorem dX5_undo_27 : decode cX5_undo 27 = .ok (.getfield 45, 3) := by decide +kernel
theorem dX5_undo_30 : decode cX5_undo 30 = .ok (.iconst 1, 1) := by decide +kernel
theorem dX5_undo_31 : decode cX5_undo 31 = .ok (.isub, 1) := by decide +kernel
theorem dX5_undo_32 : decode cX5_undo 32 = .ok (.putfield 45, 3) := by decide +kernel
theorem dX5_undo_35 : decode cX5_undo 35 = .ok (.aload_n 0, 1) := by decide +kernel
theorem dX5_undo_36 : decode cX5_undo 36 = .ok (.getfield 13, 3) := by decide +kernel
theorem dX5_undo_39 : decode cX5_undo 39 = .ok (.aload_n 0, 1) := by decide +kernel
theorem dX5_undo_40 : decode cX5_undo 40 = .ok (.getfield 45, 3) := by decide +kernel
theorem dX5_undo_43 : decode cX5_undo 43 = .ok (.sipush 1003, 3) := by decide +kernel
theorem dX5_undo_46 : decode cX5_undo 46 = .ok (.imul, 1) := by decide +kernel
theorem dX5_undo_47 : decode cX5_undo 47 = .ok (.aload_n 0, 1) := by decide +kernel
theorem dX5_undo_48 : decode cX5_undo 48 = .ok (.getfield 7, 3) := by decide +kernel
theorem dX5_undo_51 : decode cX5_undo 51 = .ok (.iconst 0, 1) := by decide +kernel
theorem dX5_undo_52 : decode cX5_undo 52 = .ok (.invokestatic 48, 3) := by decide +kernel
theorem dX5_undo_55 : decode cX5_undo 55 = .ok (.aload_n 0, 1) := by decide +kernel
theorem dX5_undo_56 : decode cX5_undo 56 = .ok (.getfield 45, 3) := by decide +kernel
theorem dX5_undo_59 : decode cX5_undo 59 = .ok (.ireturn, 1) := by decide +kernel
set_option maxRecDepth 20000 in
theorem ggX5_digest_X5_counted : GoodIn wsX5_digest wsX5_counted := goodIn_r _ [14, 5, 15, 16, 17, 13, 18, 19, 20, 21, 22, 40, 41, 42, 43, 44, 45, 46, 47, 48, 49, 50, 51, 52, 53, 54, 55] (by decide +kernel) (by decide +kernel)
set_option maxRecDepth 20000 in
theorem gX5_digest_X5_counted : GoodIn wsX5_digest (wsV RX5 127 RX5 yX5_counted wsX5_counted) := goodIn_app (goodIn_of _ (by decide +kernel)) ggX5_digest_X5_counted
set_option maxRecDepth 20000 in
theorem ggX5_digest_X5_told : GoodIn wsX5_digest wsX5_told := goodIn_r _ [26, 19, 20, 21, 13, 22, 5, 27, 28, 29, 30, 40, 41, 42, 43, 44, 45, 46, 47, 48, 49, 50, 51, 52, 53, 54, 55] (by decide +kernel) (by decide +kernel)
set_option maxRecDepth 20000 in
theorem gX5_digest_X5_told : GoodIn wsX5_digest (wsV RX5 118 RX5 yX5_told wsX5_told) := goodIn_app (goodIn_of _ (by decide +kernel)) ggX5_digest_X5_told
set_option maxRecDepth 20000 in
theorem ggX5_digest_X5_laysRow : GoodIn wsX5_digest wsX5_laysRow := goodIn_r _ [34, 6, 7, 35, 8, 36, 37, 38, 13, 39, 19, 20, 21, 22, 5, 40, 41, 42, 43, 44, 45, 46, 47, 48, 49, 50, 51, 52, 53, 54, 55] (by decide +kernel) (by decide +kernel)
set_option maxRecDepth 20000 in
theorem gX5_digest_X5_laysRow : GoodIn wsX5_digest (wsV RX5 70 RX5 yX5_laysRow wsX5_laysRow) := goodIn_app (goodIn_of _ (by decide +kernel)) ggX5_digest_X5_laysRow
theorem dX5_digest_0 : decode cX5_digest 0 = .ok (.aload_n 0, 1) := by decide +kernel
theorem dX5_digest_1 : decode cX5_digest 1 = .ok (.iconst 0, 1) := by decide +kernel
theorem dX5_digest_2 : decode cX5_digest 2 = .ok (.putfield 41, 3) := by decide +kernel
theorem dX5_digest_5 : decode cX5_digest 5 = .ok (.ldc2_w 159, 3) := by decide +kernel
theorem dX5_digest_8 : decode cX5_digest 8 = .ok (.aload_n 0, 1) := by decide +kernel
theorem dX5_digest_9 : decode cX5_digest 9 = .ok (.getfield 133, 3) := by decide +kernel
theorem dX5_digest_12 : decode cX5_digest 12 = .ok (.i2l, 1) := by decide +kernel
theorem dX5_digest_13 : decode cX5_digest 13 = .ok (.ladd, 1) := by decide +kernel
theorem dX5_digest_14 : decode cX5_digest 14 = .ok (.lstore_n 1, 1) := by decide +kernel
theorem dX5_digest_15 : decode cX5_digest 15 = .ok (.iconst 0, 1) := by decide +kernel
theorem dX5_digest_16 : decode cX5_digest 16 = .ok (.istore_n 3, 1) := by decide +kernel
theorem dX5_digest_17 : decode cX5_digest 17 = .ok (.iload_n 3, 1) := by decide +kernel
theorem dX5_digest_18 : decode cX5_digest 18 = .ok (.bipush 8, 2) := by decide +kernel
theorem dX5_digest_20 : decode cX5_digest 20 = .ok (.if_icmp .ge 22, 3) := by decide +kernel
theorem dX5_digest_23 : decode cX5_digest 23 = .ok (.ldc2_w 161, 3) := by decide +kernel
theorem dX5_digest_26 : decode cX5_digest 26 = .ok (.lload_n 1, 1) := by decide +kernel
theorem dX5_digest_27 : decode cX5_digest 27 = .ok (.lmul, 1) := by decide +kernel
theorem dX5_digest_28 : decode cX5_digest 28 = .ok (.aload_n 0, 1) := by decide +kernel
theorem dX5_digest_29 : decode cX5_digest 29 = .ok (.iload_n 3, 1) := by decide +kernel
theorem dX5_digest_30 : decode cX5_digest 30 = .ok (.invokevirtual 127, 3) := by decide +kernel
theorem dX5_digest_33 : decode cX5_digest 33 = .ok (.i2l, 1) := by decide +kernel
theorem dX5_digest_34 : decode cX5_digest 34 = .ok (.ladd, 1) := by decide +kernel
theorem dX5_digest_35 : decode cX5_digest 35 = .ok (.lstore_n 1, 1) := by decide +kernel
theorem dX5_digest_36 : decode cX5_digest 36 = .ok (.iinc 3 1, 3) := by decide +kernel
theorem dX5_digest_39 : decode cX5_digest 39 = .ok (.goto (-22), 3) := by decide +kernel
theorem dX5_digest_42 : decode cX5_digest 42 = .ok (.ldc2_w 161, 3) := by decide +kernel
theorem dX5_digest_45 : decode cX5_digest 45 = .ok (.ldc2_w 161, 3) := by decide +kernel
theorem dX5_digest_48 : decode cX5_digest 48 = .ok (.lload_n 1, 1) := by decide +kernel
theorem dX5_digest_49 : decode cX5_digest 49 = .ok (.lmul, 1) := by decide +kernel
theorem dX5_digest_50 : decode cX5_digest 50 = .ok (.aload_n 0, 1) := by decide +kernel
theorem dX5_digest_51 : decode cX5_digest 51 = .ok (.getfield 7, 3) := by decide +kernel
theorem dX5_digest_54 : decode cX5_digest 54 = .ok (.iconst 0, 1) := by decide +kernel
theorem dX5_digest_55 : decode cX5_digest 55 = .ok (.iaload, 1) := by decide +kernel
theorem dX5_digest_56 : decode cX5_digest 56 = .ok (.i2l, 1) := by decide +kernel
theorem dX5_digest_57 : decode cX5_digest 57 = .ok (.ladd, 1) := by decide +kernel
theorem dX5_digest_58 : decode cX5_digest 58 = .ok (.lmul, 1) := by decide +kernel
theorem dX5_digest_59 : decode cX5_digest 59 = .ok (.aload_n 0, 1) := by decide +kernel
theorem dX5_digest_60 : decode cX5_digest 60 = .ok (.getfield 7, 3) := by decide +kernel
theorem dX5_digest_63 : decode cX5_digest 63 = .ok (.iconst 1, 1) := by decide +kernel
theorem dX5_digest_64 : decode cX5_digest 64 = .ok (.iaload, 1) := by decide +kernel
theorem dX5_digest_65 : decode cX5_digest 65 = .ok (.i2l, 1) := by decide +kernel
theorem dX5_digest_66 : decode cX5_digest 66 = .ok (.ladd, 1) := by decide +kernel
theorem dX5_digest_67 : decode cX5_digest 67 = .ok (.lstore_n 1, 1) := by decide +kernel
theorem dX5_digest_68 : decode cX5_digest 68 = .ok (.iconst 0, 1) := by decide +kernel
theorem dX5_digest_69 : decode cX5_digest 69 = .ok (.istore_n 3, 1) := by decide +kernel
theorem dX5_digest_70 : decode cX5_digest 70 = .ok (.iload_n 3, 1) := by decide +kernel
theorem dX5_digest_71 : decode cX5_digest 71 = .ok (.aload_n 0, 1) := by decide +kernel
theorem dX5_digest_72 : decode cX5_digest 72 = .ok (.getfield 7, 3) := by decide +kernel
theorem dX5_digest_75 : decode cX5_digest 75 = .ok (.iconst 2, 1) := by decide +kernel
theorem dX5_digest_76 : decode cX5_digest 76 = .ok (.iaload, 1) := by decide +kernel
theorem dX5_digest_77 : decode cX5_digest 77 = .ok (.if_icmp .ge 81, 3) := by decide +kernel
theorem dX5_digest_80 : decode cX5_digest 80 = .ok (.iconst 0, 1) := by decide +kernel
theorem dX5_digest_81 : decode cX5_digest 81 = .ok (.istore 4, 2) := by decide +kernel
theorem dX5_digest_83 : decode cX5_digest 83 = .ok (.iload 4, 2) := by decide +kernel
theorem dX5_digest_85 : decode cX5_digest 85 = .ok (.bipush 10, 2) := by decide +kernel
theorem dX5_digest_87 : decode cX5_digest 87 = .ok (.if_icmp .ge 24, 3) := by decide +kernel
theorem dX5_digest_90 : decode cX5_digest 90 = .ok (.ldc2_w 161, 3) := by decide +kernel
theorem dX5_digest_93 : decode cX5_digest 93 = .ok (.lload_n 1, 1) := by decide +kernel
theorem dX5_digest_94 : decode cX5_digest 94 = .ok (.lmul, 1) := by decide +kernel
theorem dX5_digest_95 : decode cX5_digest 95 = .ok (.aload_n 0, 1) := by decide +kernel
theorem dX5_digest_96 : decode cX5_digest 96 = .ok (.iload_n 3, 1) := by decide +kernel
theorem dX5_digest_97 : decode cX5_digest 97 = .ok (.iload 4, 2) := by decide +kernel
theorem dX5_digest_99 : decode cX5_digest 99 = .ok (.invokevirtual 118, 3) := by decide +kernel
theorem dX5_digest_102 : decode cX5_digest 102 = .ok (.i2l, 1) := by decide +kernel
theorem dX5_digest_103 : decode cX5_digest 103 = .ok (.ladd, 1) := by decide +kernel
theorem dX5_digest_104 : decode cX5_digest 104 = .ok (.lstore_n 1, 1) := by decide +kernel
theorem dX5_digest_105 : decode cX5_digest 105 = .ok (.iinc 4 1, 3) := by decide +kernel
theorem dX5_digest_108 : decode cX5_digest 108 = .ok (.goto (-25), 3) := by decide +kernel
theorem dX5_digest_111 : decode cX5_digest 111 = .ok (.aload_n 0, 1) := by decide +kernel
theorem dX5_digest_112 : decode cX5_digest 112 = .ok (.iload_n 3, 1) := by decide +kernel
theorem dX5_digest_113 : decode cX5_digest 113 = .ok (.invokevirtual 70, 3) := by decide +kernel
theorem dX5_digest_116 : decode cX5_digest 116 = .ok (.aload_n 0, 1) := by decide +kernel
theorem dX5_digest_117 : decode cX5_digest 117 = .ok (.getfield 64, 3) := by decide +kernel
theorem dX5_digest_120 : decode cX5_digest 120 = .ok (.istore 4, 2) := by decide +kernel
theorem dX5_digest_122 : decode cX5_digest 122 = .ok (.iload 4, 2) := by decide +kernel
theorem dX5_digest_124 : decode cX5_digest 124 = .ok (.aload_n 0, 1) := by decide +kernel
theorem dX5_digest_125 : decode cX5_digest 125 = .ok (.getfield 67, 3) := by decide +kernel
theorem dX5_digest_128 : decode cX5_digest 128 = .ok (.if_icmp .ge 24, 3) := by decide +kernel
theorem dX5_digest_131 : decode cX5_digest 131 = .ok (.ldc2_w 161, 3) := by decide +kernel
theorem dX5_digest_134 : decode cX5_digest 134 = .ok (.lload_n 1, 1) := by decide +kernel
theorem dX5_digest_135 : decode cX5_digest 135 = .ok (.lmul, 1) := by decide +kernel
theorem dX5_digest_136 : decode cX5_digest 136 = .ok (.aload_n 0, 1) := by decide +kernel
theorem dX5_digest_137 : decode cX5_digest 137 = .ok (.getfield 22, 3) := by decide +kernel
theorem dX5_digest_140 : decode cX5_digest 140 = .ok (.iload 4, 2) := by decide +kernel
theorem dX5_digest_142 : decode cX5_digest 142 = .ok (.iaload, 1) := by decide +kernel
theorem dX5_digest_143 : decode cX5_digest 143 = .ok (.i2l, 1) := by decide +kernel
theorem dX5_digest_144 : decode cX5_digest 144 = .ok (.ladd, 1) := by decide +kernel
theorem dX5_digest_145 : decode cX5_digest 145 = .ok (.lstore_n 1, 1) := by decide +kernel
theorem dX5_digest_146 : decode cX5_digest 146 = .ok (.iinc 4 1, 3) := by decide +kernel
theorem dX5_digest_149 : decode cX5_digest 149 = .ok (.goto (-27), 3) := by decide +kernel
theorem dX5_digest_152 : decode cX5_digest 152 = .ok (.iinc 3 1, 3) := by decide +kernel
theorem dX5_digest_155 : decode cX5_digest 155 = .ok (.goto (-85), 3) := by decide +kernel
theorem dX5_digest_158 : decode cX5_digest 158 = .ok (.ldc2_w 161, 3) := by decide +kernel
theorem dX5_digest_161 : decode cX5_digest 161 = .ok (.lload_n 1, 1) := by decide +kernel
theorem dX5_digest_162 : decode cX5_digest 162 = .ok (.lmul, 1) := by decide +kernel
theorem dX5_digest_163 : decode cX5_digest 163 = .ok (.aload_n 0, 1) := by decide +kernel
theorem dX5_digest_164 : decode cX5_digest 164 = .ok (.getfield 45, 3) := by decide +kernel
theorem dX5_digest_167 : decode cX5_digest 167 = .ok (.i2l, 1) := by decide +kernel
theorem dX5_digest_168 : decode cX5_digest 168 = .ok (.ladd, 1) := by decide +kernel
theorem dX5_digest_169 : decode cX5_digest 169 = .ok (.lreturn, 1) := by decide +kernel
theorem dJ9_max_7cf53_0 : decode cJ9_max_7cf53 0 = .ok (.iload_n 0, 1) := by decide +kernel
theorem dJ9_max_7cf53_1 : decode cJ9_max_7cf53 1 = .ok (.iload_n 1, 1) := by decide +kernel
theorem dJ9_max_7cf53_2 : decode cJ9_max_7cf53 2 = .ok (.if_icmp .lt 7, 3) := by decide +kernel
theorem dJ9_max_7cf53_5 : decode cJ9_max_7cf53 5 = .ok (.iload_n 0, 1) := by decide +kernel
theorem dJ9_max_7cf53_6 : decode cJ9_max_7cf53 6 = .ok (.goto 4, 3) := by decide +kernel
theorem dJ9_max_7cf53_9 : decode cJ9_max_7cf53 9 = .ok (.iload_n 1, 1) := by decide +kernel
theorem dJ9_max_7cf53_10 : decode cJ9_max_7cf53 10 = .ok (.ireturn, 1) := by decide +kernel
theorem dJ9_min_7cf53_0 : decode cJ9_min_7cf53 0 = .ok (.iload_n 0, 1) := by decide +kernel
theorem dJ9_min_7cf53_1 : decode cJ9_min_7cf53 1 = .ok (.iload_n 1, 1) := by decide +kernel
theorem dJ9_min_7cf53_2 : decode cJ9_min_7cf53 2 = .ok (.if_icmp .gt 7, 3) := by decide +kernel
theorem dJ9_min_7cf53_5 : decode cJ9_min_7cf53 5 = .ok (.iload_n 0, 1) := by decide +kernel
theorem dJ9_min_7cf53_6 : decode cJ9_min_7cf53 6 = .ok (.goto 4, 3) := by decide +kernel
theorem dJ9_min_7cf53_9 : decode cJ9_min_7cf53 9 = .ok (.iload_n 1, 1) := by decide +kernel
theorem dJ9_min_7cf53_10 : decode cJ9_min_7cf53 10 = .ok (.ireturn, 1) := by decide +kernel
