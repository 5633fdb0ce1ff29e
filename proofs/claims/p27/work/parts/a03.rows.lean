theorem dX0_init_0 : decode cX0_init 0 = .ok (.aload_n 0, 1) := by decide +kernel
theorem dX0_init_1 : decode cX0_init 1 = .ok (.invokespecial 3, 3) := by decide +kernel
theorem dX0_init_4 : decode cX0_init 4 = .ok (.aload_n 0, 1) := by decide +kernel
theorem dX0_init_5 : decode cX0_init 5 = .ok (.iconst 0, 1) := by decide +kernel
theorem dX0_init_6 : decode cX0_init 6 = .ok (.putfield 9, 3) := by decide +kernel
theorem dX0_init_9 : decode cX0_init 9 = .ok (.aload_n 0, 1) := by decide +kernel
theorem dX0_init_10 : decode cX0_init 10 = .ok (.iconst 0, 1) := by decide +kernel
theorem dX0_init_11 : decode cX0_init 11 = .ok (.putfield 15, 3) := by decide +kernel
theorem dX0_init_14 : decode cX0_init 14 = .ok (.aload_n 0, 1) := by decide +kernel
theorem dX0_init_15 : decode cX0_init 15 = .ok (.bipush 100, 2) := by decide +kernel
theorem dX0_init_17 : decode cX0_init 17 = .ok (.newarray .int, 2) := by decide +kernel
theorem dX0_init_19 : decode cX0_init 19 = .ok (.putfield 18, 3) := by decide +kernel
theorem dX0_init_22 : decode cX0_init 22 = .ok (.aload_n 0, 1) := by decide +kernel
theorem dX0_init_23 : decode cX0_init 23 = .ok (.bipush 50, 2) := by decide +kernel
theorem dX0_init_25 : decode cX0_init 25 = .ok (.newarray .int, 2) := by decide +kernel
theorem dX0_init_27 : decode cX0_init 27 = .ok (.putfield 22, 3) := by decide +kernel
theorem dX0_init_30 : decode cX0_init 30 = .ok (.aload_n 0, 1) := by decide +kernel
theorem dX0_init_31 : decode cX0_init 31 = .ok (.bipush 50, 2) := by decide +kernel
theorem dX0_init_33 : decode cX0_init 33 = .ok (.newarray .int, 2) := by decide +kernel
theorem dX0_init_35 : decode cX0_init 35 = .ok (.putfield 25, 3) := by decide +kernel
theorem dX0_init_38 : decode cX0_init 38 = .ok (.aload_n 0, 1) := by decide +kernel
theorem dX0_init_39 : decode cX0_init 39 = .ok (.iconst 0, 1) := by decide +kernel
theorem dX0_init_40 : decode cX0_init 40 = .ok (.putfield 28, 3) := by decide +kernel
theorem dX0_init_43 : decode cX0_init 43 = .ok (.aload_n 0, 1) := by decide +kernel
theorem dX0_init_44 : decode cX0_init 44 = .ok (.iconst 0, 1) := by decide +kernel
theorem dX0_init_45 : decode cX0_init 45 = .ok (.putfield 31, 3) := by decide +kernel
theorem dX0_init_48 : decode cX0_init 48 = .ok (.aload_n 0, 1) := by decide +kernel
theorem dX0_init_49 : decode cX0_init 49 = .ok (.iconst 0, 1) := by decide +kernel
theorem dX0_init_50 : decode cX0_init 50 = .ok (.putfield 35, 3) := by decide +kernel
theorem dX0_init_53 : decode cX0_init 53 = .ok (.return_, 1) := by decide +kernel
set_option maxRecDepth 20000 in
theorem ggX0_extend_X4_fill : GoodIn wsX0_extend wsX4_fill := goodIn_r _ [5] (by decide +kernel) (by decide +kernel)
set_option maxRecDepth 20000 in
theorem gX0_extend_X4_fill_n38 : GoodIn wsX0_extend (wsX4_fill) := ggX0_extend_X4_fill
theorem dX0_extend_0 : decode cX0_extend 0 = .ok (.aload_n 0, 1) := by decide +kernel
theorem dX0_extend_1 : decode cX0_extend 1 = .ok (.getfield 18, 3) := by decide +kernel
theorem dX0_extend_4 : decode cX0_extend 4 = .ok (.aload_n 0, 1) := by decide +kernel
theorem dX0_extend_5 : decode cX0_extend 5 = .ok (.getfield 9, 3) := by decide +kernel
theorem dX0_extend_8 : decode cX0_extend 8 = .ok (.iload_n 1, 1) := by decide +kernel
theorem dX0_extend_9 : decode cX0_extend 9 = .ok (.invokestatic 38, 3) := by decide +kernel
theorem dX0_extend_12 : decode cX0_extend 12 = .ok (.aload_n 0, 1) := by decide +kernel
theorem dX0_extend_13 : decode cX0_extend 13 = .ok (.dup, 1) := by decide +kernel
theorem dX0_extend_14 : decode cX0_extend 14 = .ok (.getfield 9, 3) := by decide +kernel
theorem dX0_extend_17 : decode cX0_extend 17 = .ok (.iconst 1, 1) := by decide +kernel
theorem dX0_extend_18 : decode cX0_extend 18 = .ok (.iadd, 1) := by decide +kernel
theorem dX0_extend_19 : decode cX0_extend 19 = .ok (.putfield 9, 3) := by decide +kernel
theorem dX0_extend_22 : decode cX0_extend 22 = .ok (.return_, 1) := by decide +kernel
set_option maxRecDepth 20000 in
theorem ggX0_actAt_X4_cell : GoodIn wsX0_actAt wsX4_cell := goodIn_r _ [4] (by decide +kernel) (by decide +kernel)
set_option maxRecDepth 20000 in
theorem gX0_actAt_X4_cell_n42 : GoodIn wsX0_actAt (wsX4_cell) := ggX0_actAt_X4_cell
theorem dX0_actAt_0 : decode cX0_actAt 0 = .ok (.aload_n 0, 1) := by decide +kernel
theorem dX0_actAt_1 : decode cX0_actAt 1 = .ok (.getfield 22, 3) := by decide +kernel
theorem dX0_actAt_4 : decode cX0_actAt 4 = .ok (.iload_n 1, 1) := by decide +kernel
theorem dX0_actAt_5 : decode cX0_actAt 5 = .ok (.invokestatic 42, 3) := by decide +kernel
theorem dX0_actAt_8 : decode cX0_actAt 8 = .ok (.ireturn, 1) := by decide +kernel
set_option maxRecDepth 20000 in
theorem ggX0_valueAt_X4_cell : GoodIn wsX0_valueAt wsX4_cell := goodIn_r _ [4] (by decide +kernel) (by decide +kernel)
set_option maxRecDepth 20000 in
theorem gX0_valueAt_X4_cell_n42 : GoodIn wsX0_valueAt (wsX4_cell) := ggX0_valueAt_X4_cell
theorem dX0_valueAt_0 : decode cX0_valueAt 0 = .ok (.aload_n 0, 1) := by decide +kernel
theorem dX0_valueAt_1 : decode cX0_valueAt 1 = .ok (.getfield 25, 3) := by decide +kernel
theorem dX0_valueAt_4 : decode cX0_valueAt 4 = .ok (.iload_n 1, 1) := by decide +kernel
theorem dX0_valueAt_5 : decode cX0_valueAt 5 = .ok (.invokestatic 42, 3) := by decide +kernel
theorem dX0_valueAt_8 : decode cX0_valueAt 8 = .ok (.ireturn, 1) := by decide +kernel
set_option maxRecDepth 20000 in
theorem ggX0_read_X4_cell : GoodIn wsX0_read wsX4_cell := goodIn_r _ [6] (by decide +kernel) (by decide +kernel)
set_option maxRecDepth 20000 in
theorem gX0_read_X4_cell_n42 : GoodIn wsX0_read (wsX4_cell) := ggX0_read_X4_cell
set_option maxRecDepth 20000 in
theorem ggX0_read_X0_next : GoodIn wsX0_read wsX0_next := goodIn_r _ [11, 12, 13, 14, 15, 16, 10, 17, 18, 19, 20, 21, 22, 23, 1, 24, 25, 5, 26, 27, 28, 29, 30, 31, 32, 33, 34] (by decide +kernel) (by decide +kernel)
set_option maxRecDepth 20000 in
theorem gX0_read_X0_next : GoodIn wsX0_read (wsV RX0 46 RX0 yX0_next wsX0_next) := goodIn_app (goodIn_of _ (by decide +kernel)) ggX0_read_X0_next
theorem dX0_read_0 : decode cX0_read 0 = .ok (.aload_n 0, 1) := by decide +kernel
theorem dX0_read_1 : decode cX0_read 1 = .ok (.iconst 0, 1) := by decide +kernel
theorem dX0_read_2 : decode cX0_read 2 = .ok (.putfield 15, 3) := by decide +kernel
theorem dX0_read_5 : decode cX0_read 5 = .ok (.iconst 0, 1) := by decide +kernel
theorem dX0_read_6 : decode cX0_read 6 = .ok (.istore_n 1, 1) := by decide +kernel
theorem dX0_read_7 : decode cX0_read 7 = .ok (.iconst 0, 1) := by decide +kernel
theorem dX0_read_8 : decode cX0_read 8 = .ok (.istore_n 2, 1) := by decide +kernel
theorem dX0_read_9 : decode cX0_read 9 = .ok (.iload_n 2, 1) := by decide +kernel
theorem dX0_read_10 : decode cX0_read 10 = .ok (.aload_n 0, 1) := by decide +kernel
theorem dX0_read_11 : decode cX0_read 11 = .ok (.getfield 9, 3) := by decide +kernel
theorem dX0_read_14 : decode cX0_read 14 = .ok (.if_icmp .ge 30, 3) := by decide +kernel
theorem dX0_read_17 : decode cX0_read 17 = .ok (.aload_n 0, 1) := by decide +kernel
theorem dX0_read_18 : decode cX0_read 18 = .ok (.iload_n 1, 1) := by decide +kernel
theorem dX0_read_19 : decode cX0_read 19 = .ok (.aload_n 0, 1) := by decide +kernel
theorem dX0_read_20 : decode cX0_read 20 = .ok (.getfield 18, 3) := by decide +kernel
theorem dX0_read_23 : decode cX0_read 23 = .ok (.iload_n 2, 1) := by decide +kernel
theorem dX0_read_24 : decode cX0_read 24 = .ok (.invokestatic 42, 3) := by decide +kernel
theorem dX0_read_27 : decode cX0_read 27 = .ok (.invokevirtual 46, 3) := by decide +kernel
theorem dX0_read_30 : decode cX0_read 30 = .ok (.istore_n 1, 1) := by decide +kernel
theorem dX0_read_31 : decode cX0_read 31 = .ok (.iload_n 1, 1) := by decide +kernel
theorem dX0_read_32 : decode cX0_read 32 = .ok (.iconst (-1), 1) := by decide +kernel
theorem dX0_read_33 : decode cX0_read 33 = .ok (.if_icmp .ne 5, 3) := by decide +kernel
theorem dX0_read_36 : decode cX0_read 36 = .ok (.iload_n 2, 1) := by decide +kernel
theorem dX0_read_37 : decode cX0_read 37 = .ok (.ireturn, 1) := by decide +kernel
theorem dX0_read_38 : decode cX0_read 38 = .ok (.iinc 2 1, 3) := by decide +kernel
theorem dX0_read_41 : decode cX0_read 41 = .ok (.goto (-32), 3) := by decide +kernel
theorem dX0_read_44 : decode cX0_read 44 = .ok (.iload_n 1, 1) := by decide +kernel
theorem dX0_read_45 : decode cX0_read 45 = .ok (.ifCond .ne 7, 3) := by decide +kernel
theorem dX0_read_48 : decode cX0_read 48 = .ok (.iconst (-1), 1) := by decide +kernel
theorem dX0_read_49 : decode cX0_read 49 = .ok (.goto 7, 3) := by decide +kernel
theorem dX0_read_52 : decode cX0_read 52 = .ok (.aload_n 0, 1) := by decide +kernel
theorem dX0_read_53 : decode cX0_read 53 = .ok (.getfield 9, 3) := by decide +kernel
theorem dX0_read_56 : decode cX0_read 56 = .ok (.ireturn, 1) := by decide +kernel
set_option maxRecDepth 20000 in
theorem ggX0_next_X0_begin : GoodIn wsX0_next wsX0_begin := goodIn_r _ [7, 1, 2, 8, 19, 20, 21, 22, 23, 24, 25, 26] (by decide +kernel) (by decide +kernel)
set_option maxRecDepth 20000 in
theorem gX0_next_X0_begin : GoodIn wsX0_next (wsV RX0 50 RX0 yX0_begin wsX0_begin) := goodIn_app (goodIn_of _ (by decide +kernel)) ggX0_next_X0_begin
set_option maxRecDepth 20000 in
theorem ggX0_next_X0_end : GoodIn wsX0_next wsX0_end := goodIn_r _ [12, 13, 14, 8, 15, 1, 2, 16, 17, 18, 19, 20, 21, 22, 23, 24, 25, 26] (by decide +kernel) (by decide +kernel)
set_option maxRecDepth 20000 in
theorem gX0_next_X0_end : GoodIn wsX0_next (wsV RX0 54 RX0 yX0_end wsX0_end) := goodIn_app (goodIn_of _ (by decide +kernel)) ggX0_next_X0_end
theorem dX0_next_0 : decode cX0_next 0 = .ok (.iload_n 1, 1) := by decide +kernel
theorem dX0_next_1 : decode cX0_next 1 = .ok (.ifCond .ne 9, 3) := by decide +kernel
theorem dX0_next_4 : decode cX0_next 4 = .ok (.aload_n 0, 1) := by decide +kernel
theorem dX0_next_5 : decode cX0_next 5 = .ok (.iload_n 2, 1) := by decide +kernel
theorem dX0_next_6 : decode cX0_next 6 = .ok (.invokevirtual 50, 3) := by decide +kernel
theorem dX0_next_9 : decode cX0_next 9 = .ok (.ireturn, 1) := by decide +kernel
theorem dX0_next_10 : decode cX0_next 10 = .ok (.iload_n 2, 1) := by decide +kernel
theorem dX0_next_11 : decode cX0_next 11 = .ok (.bipush 45, 2) := by decide +kernel
theorem dX0_next_13 : decode cX0_next 13 = .ok (.if_icmp .ne 15, 3) := by decide +kernel
theorem dX0_next_16 : decode cX0_next 16 = .ok (.iload_n 1, 1) := by decide +kernel
theorem dX0_next_17 : decode cX0_next 17 = .ok (.iconst 1, 1) := by decide +kernel
theorem dX0_next_18 : decode cX0_next 18 = .ok (.if_icmp .ne 10, 3) := by decide +kernel
theorem dX0_next_21 : decode cX0_next 21 = .ok (.aload_n 0, 1) := by decide +kernel
theorem dX0_next_22 : decode cX0_next 22 = .ok (.iconst 1, 1) := by decide +kernel
theorem dX0_next_23 : decode cX0_next 23 = .ok (.putfield 31, 3) := by decide +kernel
theorem dX0_next_26 : decode cX0_next 26 = .ok (.iconst 2, 1) := by decide +kernel
theorem dX0_next_27 : decode cX0_next 27 = .ok (.ireturn, 1) := by decide +kernel
theorem dX0_next_28 : decode cX0_next 28 = .ok (.iload_n 2, 1) := by decide +kernel
theorem dX0_next_29 : decode cX0_next 29 = .ok (.bipush 48, 2) := by decide +kernel
theorem dX0_next_31 : decode cX0_next 31 = .ok (.if_icmp .lt 43, 3) := by decide +kernel
theorem dX0_next_34 : decode cX0_next 34 = .ok (.iload_n 2, 1) := by decide +kernel
theorem dX0_next_35 : decode cX0_next 35 = .ok (.bipush 57, 2) := by decide +kernel
theorem dX0_next_37 : decode cX0_next 37 = .ok (.if_icmp .gt 37, 3) := by decide +kernel
theorem dX0_next_40 : decode cX0_next 40 = .ok (.iload_n 1, 1) := by decide +kernel
theorem dX0_next_41 : decode cX0_next 41 = .ok (.iconst 5, 1) := by decide +kernel
theorem dX0_next_42 : decode cX0_next 42 = .ok (.if_icmp .ge 32, 3) := by decide +kernel
theorem dX0_next_45 : decode cX0_next 45 = .ok (.aload_n 0, 1) := by decide +kernel
theorem dX0_next_46 : decode cX0_next 46 = .ok (.aload_n 0, 1) := by decide +kernel
theorem dX0_next_47 : decode cX0_next 47 = .ok (.getfield 35, 3) := by decide +kernel
theorem dX0_next_50 : decode cX0_next 50 = .ok (.bipush 10, 2) := by decide +kernel
theorem dX0_next_52 : decode cX0_next 52 = .ok (.imul, 1) := by decide +kernel
theorem dX0_next_53 : decode cX0_next 53 = .ok (.iload_n 2, 1) := by decide +kernel
theorem dX0_next_54 : decode cX0_next 54 = .ok (.bipush 48, 2) := by decide +kernel
theorem dX0_next_56 : decode cX0_next 56 = .ok (.isub, 1) := by decide +kernel
theorem dX0_next_57 : decode cX0_next 57 = .ok (.iadd, 1) := by decide +kernel
theorem dX0_next_58 : decode cX0_next 58 = .ok (.putfield 35, 3) := by decide +kernel
theorem dX0_next_61 : decode cX0_next 61 = .ok (.iload_n 1, 1) := by decide +kernel
theorem dX0_next_62 : decode cX0_next 62 = .ok (.iconst 3, 1) := by decide +kernel
theorem dX0_next_63 : decode cX0_next 63 = .ok (.if_icmp .ge 7, 3) := by decide +kernel
theorem dX0_next_66 : decode cX0_next 66 = .ok (.iconst 3, 1) := by decide +kernel
theorem dX0_next_67 : decode cX0_next 67 = .ok (.goto 6, 3) := by decide +kernel
theorem dX0_next_70 : decode cX0_next 70 = .ok (.iload_n 1, 1) := by decide +kernel
theorem dX0_next_71 : decode cX0_next 71 = .ok (.iconst 1, 1) := by decide +kernel
theorem dX0_next_72 : decode cX0_next 72 = .ok (.iadd, 1) := by decide +kernel
theorem dX0_next_73 : decode cX0_next 73 = .ok (.ireturn, 1) := by decide +kernel
theorem dX0_next_74 : decode cX0_next 74 = .ok (.iload_n 2, 1) := by decide +kernel
theorem dX0_next_75 : decode cX0_next 75 = .ok (.bipush 59, 2) := by decide +kernel
theorem dX0_next_77 : decode cX0_next 77 = .ok (.if_icmp .ne 14, 3) := by decide +kernel
theorem dX0_next_80 : decode cX0_next 80 = .ok (.iload_n 1, 1) := by decide +kernel
theorem dX0_next_81 : decode cX0_next 81 = .ok (.iconst 3, 1) := by decide +kernel
theorem dX0_next_82 : decode cX0_next 82 = .ok (.if_icmp .lt 9, 3) := by decide +kernel
theorem dX0_next_85 : decode cX0_next 85 = .ok (.aload_n 0, 1) := by decide +kernel
theorem dX0_next_86 : decode cX0_next 86 = .ok (.invokevirtual 54, 3) := by decide +kernel
theorem dX0_next_89 : decode cX0_next 89 = .ok (.iconst 0, 1) := by decide +kernel
theorem dX0_next_90 : decode cX0_next 90 = .ok (.ireturn, 1) := by decide +kernel
theorem dX0_next_91 : decode cX0_next 91 = .ok (.iconst (-1), 1) := by decide +kernel
theorem dX0_next_92 : decode cX0_next 92 = .ok (.ireturn, 1) := by decide +kernel
theorem dX0_begin_0 : decode cX0_begin 0 = .ok (.aload_n 0, 1) := by decide +kernel
theorem dX0_begin_1 : decode cX0_begin 1 = .ok (.iconst 0, 1) := by decide +kernel
theorem dX0_begin_2 : decode cX0_begin 2 = .ok (.putfield 31, 3) := by decide +kernel
theorem dX0_begin_5 : decode cX0_begin 5 = .ok (.aload_n 0, 1) := by decide +kernel
theorem dX0_begin_6 : decode cX0_begin 6 = .ok (.iconst 0, 1) := by decide +kernel
theorem dX0_begin_7 : decode cX0_begin 7 = .ok (.putfield 35, 3) := by decide +kernel
theorem dX0_begin_10 : decode cX0_begin 10 = .ok (.iload_n 1, 1) := by decide +kernel
theorem dX0_begin_11 : decode cX0_begin 11 = .ok (.lookupswitch 69 #[(98, 48), (102, 41), (120, 55), (121, 62)], 41) := by decide +kernel
theorem dX0_begin_52 : decode cX0_begin 52 = .ok (.aload_n 0, 1) := by decide +kernel
theorem dX0_begin_53 : decode cX0_begin 53 = .ok (.iconst 0, 1) := by decide +kernel
theorem dX0_begin_54 : decode cX0_begin 54 = .ok (.putfield 28, 3) := by decide +kernel
theorem dX0_begin_57 : decode cX0_begin 57 = .ok (.iconst 1, 1) := by decide +kernel
theorem dX0_begin_58 : decode cX0_begin 58 = .ok (.ireturn, 1) := by decide +kernel
theorem dX0_begin_59 : decode cX0_begin 59 = .ok (.aload_n 0, 1) := by decide +kernel
theorem dX0_begin_60 : decode cX0_begin 60 = .ok (.iconst 1, 1) := by decide +kernel
theorem dX0_begin_61 : decode cX0_begin 61 = .ok (.putfield 28, 3) := by decide +kernel
theorem dX0_begin_64 : decode cX0_begin 64 = .ok (.iconst 1, 1) := by decide +kernel
theorem dX0_begin_65 : decode cX0_begin 65 = .ok (.ireturn, 1) := by decide +kernel
theorem dX0_begin_66 : decode cX0_begin 66 = .ok (.aload_n 0, 1) := by decide +kernel
theorem dX0_begin_67 : decode cX0_begin 67 = .ok (.iconst 2, 1) := by decide +kernel
theorem dX0_begin_68 : decode cX0_begin 68 = .ok (.putfield 28, 3) := by decide +kernel
theorem dX0_begin_71 : decode cX0_begin 71 = .ok (.iconst 5, 1) := by decide +kernel
theorem dX0_begin_72 : decode cX0_begin 72 = .ok (.ireturn, 1) := by decide +kernel
theorem dX0_begin_73 : decode cX0_begin 73 = .ok (.aload_n 0, 1) := by decide +kernel
theorem dX0_begin_74 : decode cX0_begin 74 = .ok (.iconst 3, 1) := by decide +kernel
theorem dX0_begin_75 : decode cX0_begin 75 = .ok (.putfield 28, 3) := by decide +kernel
theorem dX0_begin_78 : decode cX0_begin 78 = .ok (.iconst 5, 1) := by decide +kernel
theorem dX0_begin_79 : decode cX0_begin 79 = .ok (.ireturn, 1) := by decide +kernel
theorem dX0_begin_80 : decode cX0_begin 80 = .ok (.iconst (-1), 1) := by decide +kernel
theorem dX0_begin_81 : decode cX0_begin 81 = .ok (.ireturn, 1) := by decide +kernel
set_option maxRecDepth 20000 in
theorem ggX0_end_X4_fill : GoodIn wsX0_end wsX4_fill := goodIn_r _ [9] (by decide +kernel) (by decide +kernel)
set_option maxRecDepth 20000 in
theorem gX0_end_X4_fill_n38 : GoodIn wsX0_end (wsX4_fill) := ggX0_end_X4_fill
theorem dX0_end_0 : decode cX0_end 0 = .ok (.aload_n 0, 1) := by decide +kernel
theorem dX0_end_1 : decode cX0_end 1 = .ok (.getfield 22, 3) := by decide +kernel
theorem dX0_end_4 : decode cX0_end 4 = .ok (.aload_n 0, 1) := by decide +kernel
theorem dX0_end_5 : decode cX0_end 5 = .ok (.getfield 15, 3) := by decide +kernel
theorem dX0_end_8 : decode cX0_end 8 = .ok (.aload_n 0, 1) := by decide +kernel
theorem dX0_end_9 : decode cX0_end 9 = .ok (.getfield 28, 3) := by decide +kernel
theorem dX0_end_12 : decode cX0_end 12 = .ok (.invokestatic 38, 3) := by decide +kernel
theorem dX0_end_15 : decode cX0_end 15 = .ok (.aload_n 0, 1) := by decide +kernel
theorem dX0_end_16 : decode cX0_end 16 = .ok (.getfield 25, 3) := by decide +kernel
theorem dX0_end_19 : decode cX0_end 19 = .ok (.aload_n 0, 1) := by decide +kernel
theorem dX0_end_20 : decode cX0_end 20 = .ok (.getfield 15, 3) := by decide +kernel
theorem dX0_end_23 : decode cX0_end 23 = .ok (.aload_n 0, 1) := by decide +kernel
theorem dX0_end_24 : decode cX0_end 24 = .ok (.getfield 31, 3) := by decide +kernel
theorem dX0_end_27 : decode cX0_end 27 = .ok (.ifCond .eq 11, 3) := by decide +kernel
theorem dX0_end_30 : decode cX0_end 30 = .ok (.aload_n 0, 1) := by decide +kernel
theorem dX0_end_31 : decode cX0_end 31 = .ok (.getfield 35, 3) := by decide +kernel
theorem dX0_end_34 : decode cX0_end 34 = .ok (.ineg, 1) := by decide +kernel
theorem dX0_end_35 : decode cX0_end 35 = .ok (.goto 7, 3) := by decide +kernel
theorem dX0_end_38 : decode cX0_end 38 = .ok (.aload_n 0, 1) := by decide +kernel
theorem dX0_end_39 : decode cX0_end 39 = .ok (.getfield 35, 3) := by decide +kernel
theorem dX0_end_42 : decode cX0_end 42 = .ok (.invokestatic 38, 3) := by decide +kernel
theorem dX0_end_45 : decode cX0_end 45 = .ok (.aload_n 0, 1) := by decide +kernel
theorem dX0_end_46 : decode cX0_end 46 = .ok (.dup, 1) := by decide +kernel
theorem dX0_end_47 : decode cX0_end 47 = .ok (.getfield 15, 3) := by decide +kernel
theorem dX0_end_50 : decode cX0_end 50 = .ok (.iconst 1, 1) := by decide +kernel
theorem dX0_end_51 : decode cX0_end 51 = .ok (.iadd, 1) := by decide +kernel
theorem dX0_end_52 : decode cX0_end 52 = .ok (.putfield 15, 3) := by decide +kernel
theorem dX0_end_55 : decode cX0_end 55 = .ok (.return_, 1) := by decide +kernel
theorem dX1_init_0 : decode cX1_init 0 = .ok (.aload_n 0, 1) := by decide +kernel
theorem dX1_init_1 : decode cX1_init 1 = .ok (.invokespecial 3, 3) := by decide +kernel
theorem dX1_init_4 : decode cX1_init 4 = .ok (.aload_n 0, 1) := by decide +kernel
theorem dX1_init_5 : decode cX1_init 5 = .ok (.iconst 1, 1) := by decide +kernel
theorem dX1_init_6 : decode cX1_init 6 = .ok (.putfield 9, 3) := by decide +kernel
theorem dX1_init_9 : decode cX1_init 9 = .ok (.aload_n 0, 1) := by decide +kernel
theorem dX1_init_10 : decode cX1_init 10 = .ok (.iconst 3, 1) := by decide +kernel
theorem dX1_init_11 : decode cX1_init 11 = .ok (.putfield 15, 3) := by decide +kernel
theorem dX1_init_14 : decode cX1_init 14 = .ok (.aload_n 0, 1) := by decide +kernel
theorem dX1_init_15 : decode cX1_init 15 = .ok (.iconst 3, 1) := by decide +kernel
theorem dX1_init_16 : decode cX1_init 16 = .ok (.putfield 18, 3) := by decide +kernel
theorem dX1_init_19 : decode cX1_init 19 = .ok (.aload_n 0, 1) := by decide +kernel
theorem dX1_init_20 : decode cX1_init 20 = .ok (.bipush 100, 2) := by decide +kernel
theorem dX1_init_22 : decode cX1_init 22 = .ok (.anewarray 21, 3) := by decide +kernel
theorem dX1_init_25 : decode cX1_init 25 = .ok (.putfield 23, 3) := by decide +kernel
theorem dX1_init_28 : decode cX1_init 28 = .ok (.aload_n 0, 1) := by decide +kernel
theorem dX1_init_29 : decode cX1_init 29 = .ok (.bipush 100, 2) := by decide +kernel
theorem dX1_init_31 : decode cX1_init 31 = .ok (.newarray .int, 2) := by decide +kernel
theorem dX1_init_33 : decode cX1_init 33 = .ok (.putfield 27, 3) := by decide +kernel
theorem dX1_init_36 : decode cX1_init 36 = .ok (.return_, 1) := by decide +kernel
set_option maxRecDepth 20000 in
theorem ggX1_copyFrom_X1_slot : GoodIn wsX1_copyFrom wsX1_slot := goodIn_r _ [8, 9, 10, 11, 12, 13, 14, 15, 16, 17, 18, 19, 20, 21, 22, 23, 24, 25, 26, 27, 28, 29, 30, 43, 44, 45, 46, 47, 48, 49, 50, 51, 52, 53, 54, 55, 56, 57, 58] (by decide +kernel) (by decide +kernel)
set_option maxRecDepth 20000 in
theorem gX1_copyFrom_X1_slot : GoodIn wsX1_copyFrom (wsV RX1 31 RX1 yX1_slot wsX1_slot) := goodIn_app (goodIn_of _ (by decide +kernel)) ggX1_copyFrom_X1_slot
set_option maxRecDepth 20000 in
theorem ggX1_copyFrom_X3_copyFrom : GoodIn wsX1_copyFrom wsX3_copyFrom := goodIn_r _ [34, 19, 20, 21, 22, 23, 24, 25, 26, 27, 28, 30, 35, 36, 37, 38, 39, 40, 41, 12, 42, 48, 49, 50, 51, 52, 53, 54, 55, 56, 57, 58] (by decide +kernel) (by decide +kernel)
set_option maxRecDepth 20000 in
theorem gX1_copyFrom_X3_copyFrom : GoodIn wsX1_copyFrom (wsV RX1 35 RX3 yX3_copyFrom wsX3_copyFrom) := goodIn_app (goodIn_of _ (by decide +kernel)) ggX1_copyFrom_X3_copyFrom
theorem dX1_copyFrom_0 : decode cX1_copyFrom 0 = .ok (.aload_n 0, 1) := by decide +kernel
theorem dX1_copyFrom_1 : decode cX1_copyFrom 1 = .ok (.aload_n 1, 1) := by decide +kernel
theorem dX1_copyFrom_2 : decode cX1_copyFrom 2 = .ok (.getfield 9, 3) := by decide +kernel
theorem dX1_copyFrom_5 : decode cX1_copyFrom 5 = .ok (.putfield 9, 3) := by decide +kernel
theorem dX1_copyFrom_8 : decode cX1_copyFrom 8 = .ok (.aload_n 0, 1) := by decide +kernel
theorem dX1_copyFrom_9 : decode cX1_copyFrom 9 = .ok (.aload_n 1, 1) := by decide +kernel
theorem dX1_copyFrom_10 : decode cX1_copyFrom 10 = .ok (.getfield 15, 3) := by decide +kernel
theorem dX1_copyFrom_13 : decode cX1_copyFrom 13 = .ok (.putfield 15, 3) := by decide +kernel
theorem dX1_copyFrom_16 : decode cX1_copyFrom 16 = .ok (.aload_n 0, 1) := by decide +kernel
theorem dX1_copyFrom_17 : decode cX1_copyFrom 17 = .ok (.aload_n 1, 1) := by decide +kernel
theorem dX1_copyFrom_18 : decode cX1_copyFrom 18 = .ok (.getfield 18, 3) := by decide +kernel
theorem dX1_copyFrom_21 : decode cX1_copyFrom 21 = .ok (.putfield 18, 3) := by decide +kernel
theorem dX1_copyFrom_24 : decode cX1_copyFrom 24 = .ok (.iconst 0, 1) := by decide +kernel
theorem dX1_copyFrom_25 : decode cX1_copyFrom 25 = .ok (.istore_n 2, 1) := by decide +kernel
theorem dX1_copyFrom_26 : decode cX1_copyFrom 26 = .ok (.iload_n 2, 1) := by decide +kernel
theorem dX1_copyFrom_27 : decode cX1_copyFrom 27 = .ok (.aload_n 0, 1) := by decide +kernel
theorem dX1_copyFrom_28 : decode cX1_copyFrom 28 = .ok (.getfield 9, 3) := by decide +kernel
theorem dX1_copyFrom_31 : decode cX1_copyFrom 31 = .ok (.if_icmp .ge 22, 3) := by decide +kernel
theorem dX1_copyFrom_34 : decode cX1_copyFrom 34 = .ok (.aload_n 0, 1) := by decide +kernel
theorem dX1_copyFrom_35 : decode cX1_copyFrom 35 = .ok (.iload_n 2, 1) := by decide +kernel
theorem dX1_copyFrom_36 : decode cX1_copyFrom 36 = .ok (.invokevirtual 31, 3) := by decide +kernel
theorem dX1_copyFrom_39 : decode cX1_copyFrom 39 = .ok (.aload_n 1, 1) := by decide +kernel
theorem dX1_copyFrom_40 : decode cX1_copyFrom 40 = .ok (.iload_n 2, 1) := by decide +kernel
theorem dX1_copyFrom_41 : decode cX1_copyFrom 41 = .ok (.invokevirtual 31, 3) := by decide +kernel
theorem dX1_copyFrom_44 : decode cX1_copyFrom 44 = .ok (.invokevirtual 35, 3) := by decide +kernel
theorem dX1_copyFrom_47 : decode cX1_copyFrom 47 = .ok (.iinc 2 1, 3) := by decide +kernel
theorem dX1_copyFrom_50 : decode cX1_copyFrom 50 = .ok (.goto (-24), 3) := by decide +kernel
theorem dX1_copyFrom_53 : decode cX1_copyFrom 53 = .ok (.return_, 1) := by decide +kernel
theorem dX1_has_0 : decode cX1_has 0 = .ok (.iload_n 1, 1) := by decide +kernel
theorem dX1_has_1 : decode cX1_has 1 = .ok (.ifCond .lt 15, 3) := by decide +kernel
theorem dX1_has_4 : decode cX1_has 4 = .ok (.iload_n 1, 1) := by decide +kernel
theorem dX1_has_5 : decode cX1_has 5 = .ok (.aload_n 0, 1) := by decide +kernel
theorem dX1_has_6 : decode cX1_has 6 = .ok (.getfield 9, 3) := by decide +kernel
theorem dX1_has_9 : decode cX1_has 9 = .ok (.if_icmp .ge 7, 3) := by decide +kernel
theorem dX1_has_12 : decode cX1_has 12 = .ok (.iconst 1, 1) := by decide +kernel
theorem dX1_has_13 : decode cX1_has 13 = .ok (.goto 4, 3) := by decide +kernel
theorem dX1_has_16 : decode cX1_has 16 = .ok (.iconst 0, 1) := by decide +kernel
theorem dX1_has_17 : decode cX1_has 17 = .ok (.ireturn, 1) := by decide +kernel
set_option maxRecDepth 20000 in
theorem ggX1_hasPlace_X1_has : GoodIn wsX1_hasPlace wsX1_has := goodIn_r _ [5, 6, 37, 38, 39, 40, 41] (by decide +kernel) (by decide +kernel)
set_option maxRecDepth 20000 in
theorem gX1_hasPlace_X1_has : GoodIn wsX1_hasPlace (wsV RX1 39 RX1 yX1_has wsX1_has) := goodIn_app (goodIn_of _ (by decide +kernel)) ggX1_hasPlace_X1_has
set_option maxRecDepth 20000 in
theorem ggX1_hasPlace_X1_slot : GoodIn wsX1_hasPlace wsX1_slot := goodIn_r _ [10, 11, 12, 13, 14, 15, 16, 17, 18, 19, 20, 21, 22, 23, 24, 25, 26, 27, 28, 29, 30, 31, 32, 37, 38, 39, 40, 41, 42, 43, 44, 45, 46, 47, 48, 49, 50, 51, 52] (by decide +kernel) (by decide +kernel)
set_option maxRecDepth 20000 in
theorem gX1_hasPlace_X1_slot : GoodIn wsX1_hasPlace (wsV RX1 31 RX1 yX1_slot wsX1_slot) := goodIn_app (goodIn_of _ (by decide +kernel)) ggX1_hasPlace_X1_slot
set_option maxRecDepth 20000 in
theorem ggX1_hasPlace_X3_size : GoodIn wsX1_hasPlace wsX3_size := goodIn_r _ [36, 25, 26, 42, 43, 44, 45, 46, 47, 48, 49, 50, 51, 52] (by decide +kernel) (by decide +kernel)
set_option maxRecDepth 20000 in
theorem gX1_hasPlace_X3_size : GoodIn wsX1_hasPlace (wsV RX1 43 RX3 yX3_size wsX3_size) := goodIn_app (goodIn_of _ (by decide +kernel)) ggX1_hasPlace_X3_size
theorem dX1_hasPlace_0 : decode cX1_hasPlace 0 = .ok (.aload_n 0, 1) := by decide +kernel
theorem dX1_hasPlace_1 : decode cX1_hasPlace 1 = .ok (.iload_n 1, 1) := by decide +kernel
theorem dX1_hasPlace_2 : decode cX1_hasPlace 2 = .ok (.invokevirtual 39, 3) := by decide +kernel
theorem dX1_hasPlace_5 : decode cX1_hasPlace 5 = .ok (.ifCond .eq 23, 3) := by decide +kernel
theorem dX1_hasPlace_8 : decode cX1_hasPlace 8 = .ok (.iload_n 2, 1) := by decide +kernel
theorem dX1_hasPlace_9 : decode cX1_hasPlace 9 = .ok (.ifCond .lt 19, 3) := by decide +kernel
theorem dX1_hasPlace_12 : decode cX1_hasPlace 12 = .ok (.iload_n 2, 1) := by decide +kernel
theorem dX1_hasPlace_13 : decode cX1_hasPlace 13 = .ok (.aload_n 0, 1) := by decide +kernel
theorem dX1_hasPlace_14 : decode cX1_hasPlace 14 = .ok (.iload_n 1, 1) := by decide +kernel
theorem dX1_hasPlace_15 : decode cX1_hasPlace 15 = .ok (.invokevirtual 31, 3) := by decide +kernel
theorem dX1_hasPlace_18 : decode cX1_hasPlace 18 = .ok (.invokevirtual 43, 3) := by decide +kernel
theorem dX1_hasPlace_21 : decode cX1_hasPlace 21 = .ok (.if_icmp .ge 7, 3) := by decide +kernel
theorem dX1_hasPlace_24 : decode cX1_hasPlace 24 = .ok (.iconst 1, 1) := by decide +kernel
theorem dX1_hasPlace_25 : decode cX1_hasPlace 25 = .ok (.goto 4, 3) := by decide +kernel
theorem dX1_hasPlace_28 : decode cX1_hasPlace 28 = .ok (.iconst 0, 1) := by decide +kernel
theorem dX1_hasPlace_29 : decode cX1_hasPlace 29 = .ok (.ireturn, 1) := by decide +kernel
set_option maxRecDepth 20000 in
theorem ggX1_slot_X3_init : GoodIn wsX1_slot wsX3_init := goodIn_r _ [7, 8, 9, 10, 11, 12, 13, 14, 15, 16, 17, 18, 19, 20, 21, 22, 28, 29, 30, 31, 32, 33, 34, 35, 36, 37, 38] (by decide +kernel) (by decide +kernel)
set_option maxRecDepth 20000 in
theorem gX1_slot_X3_init : GoodIn wsX1_slot (wsX3_init) := ggX1_slot_X3_init
theorem dX1_slot_0 : decode cX1_slot 0 = .ok (.iload_n 1, 1) := by decide +kernel
theorem dX1_slot_1 : decode cX1_slot 1 = .ok (.ifCond .lt 12, 3) := by decide +kernel
theorem dX1_slot_4 : decode cX1_slot 4 = .ok (.iload_n 1, 1) := by decide +kernel
theorem dX1_slot_5 : decode cX1_slot 5 = .ok (.aload_n 0, 1) := by decide +kernel
theorem dX1_slot_6 : decode cX1_slot 6 = .ok (.getfield 23, 3) := by decide +kernel
theorem dX1_slot_9 : decode cX1_slot 9 = .ok (.arraylength, 1) := by decide +kernel
theorem dX1_slot_10 : decode cX1_slot 10 = .ok (.if_icmp .lt 11, 3) := by decide +kernel
theorem dX1_slot_13 : decode cX1_slot 13 = .ok (.new 21, 3) := by decide +kernel
theorem dX1_slot_16 : decode cX1_slot 16 = .ok (.dup, 1) := by decide +kernel
theorem dX1_slot_17 : decode cX1_slot 17 = .ok (.invokespecial 47, 3) := by decide +kernel
theorem dX1_slot_20 : decode cX1_slot 20 = .ok (.areturn, 1) := by decide +kernel
theorem dX1_slot_21 : decode cX1_slot 21 = .ok (.aload_n 0, 1) := by decide +kernel
theorem dX1_slot_22 : decode cX1_slot 22 = .ok (.getfield 23, 3) := by decide +kernel
theorem dX1_slot_25 : decode cX1_slot 25 = .ok (.iload_n 1, 1) := by decide +kernel
theorem dX1_slot_26 : decode cX1_slot 26 = .ok (.aaload, 1) := by decide +kernel
theorem dX1_slot_27 : decode cX1_slot 27 = .ok (.astore_n 2, 1) := by decide +kernel
theorem dX1_slot_28 : decode cX1_slot 28 = .ok (.aload_n 2, 1) := by decide +kernel
theorem dX1_slot_29 : decode cX1_slot 29 = .ok (.ifnonnull 18, 3) := by decide +kernel
theorem dX1_slot_32 : decode cX1_slot 32 = .ok (.new 21, 3) := by decide +kernel
theorem dX1_slot_35 : decode cX1_slot 35 = .ok (.dup, 1) := by decide +kernel
theorem dX1_slot_36 : decode cX1_slot 36 = .ok (.invokespecial 47, 3) := by decide +kernel
theorem dX1_slot_39 : decode cX1_slot 39 = .ok (.astore_n 2, 1) := by decide +kernel
theorem dX1_slot_40 : decode cX1_slot 40 = .ok (.aload_n 0, 1) := by decide +kernel
theorem dX1_slot_41 : decode cX1_slot 41 = .ok (.getfield 23, 3) := by decide +kernel
theorem dX1_slot_44 : decode cX1_slot 44 = .ok (.iload_n 1, 1) := by decide +kernel
theorem dX1_slot_45 : decode cX1_slot 45 = .ok (.aload_n 2, 1) := by decide +kernel
theorem dX1_slot_46 : decode cX1_slot 46 = .ok (.aastore, 1) := by decide +kernel
theorem dX1_slot_47 : decode cX1_slot 47 = .ok (.aload_n 2, 1) := by decide +kernel
theorem dX1_slot_48 : decode cX1_slot 48 = .ok (.areturn, 1) := by decide +kernel
theorem dX1_settingOf_0 : decode cX1_settingOf 0 = .ok (.iload_n 1, 1) := by decide +kernel
theorem dX1_settingOf_1 : decode cX1_settingOf 1 = .ok (.ifCond .ne 10, 3) := by decide +kernel
theorem dX1_settingOf_4 : decode cX1_settingOf 4 = .ok (.aload_n 0, 1) := by decide +kernel
theorem dX1_settingOf_5 : decode cX1_settingOf 5 = .ok (.getfield 15, 3) := by decide +kernel
theorem dX1_settingOf_8 : decode cX1_settingOf 8 = .ok (.goto 7, 3) := by decide +kernel
theorem dX1_settingOf_11 : decode cX1_settingOf 11 = .ok (.aload_n 0, 1) := by decide +kernel
theorem dX1_settingOf_12 : decode cX1_settingOf 12 = .ok (.getfield 18, 3) := by decide +kernel
theorem dX1_settingOf_15 : decode cX1_settingOf 15 = .ok (.ireturn, 1) := by decide +kernel
theorem dX1_changeSetting_0 : decode cX1_changeSetting 0 = .ok (.iload_n 1, 1) := by decide +kernel
theorem dX1_changeSetting_1 : decode cX1_changeSetting 1 = .ok (.ifCond .ne 11, 3) := by decide +kernel
theorem dX1_changeSetting_4 : decode cX1_changeSetting 4 = .ok (.aload_n 0, 1) := by decide +kernel
theorem dX1_changeSetting_5 : decode cX1_changeSetting 5 = .ok (.iload_n 2, 1) := by decide +kernel
theorem dX1_changeSetting_6 : decode cX1_changeSetting 6 = .ok (.putfield 15, 3) := by decide +kernel
theorem dX1_changeSetting_9 : decode cX1_changeSetting 9 = .ok (.goto 8, 3) := by decide +kernel
theorem dX1_changeSetting_12 : decode cX1_changeSetting 12 = .ok (.aload_n 0, 1) := by decide +kernel
theorem dX1_changeSetting_13 : decode cX1_changeSetting 13 = .ok (.iload_n 2, 1) := by decide +kernel
theorem dX1_changeSetting_14 : decode cX1_changeSetting 14 = .ok (.putfield 18, 3) := by decide +kernel
theorem dX1_changeSetting_17 : decode cX1_changeSetting 17 = .ok (.return_, 1) := by decide +kernel
theorem dX1_left_0 : decode cX1_left 0 = .ok (.bipush 100, 2) := by decide +kernel
theorem dX1_left_2 : decode cX1_left 2 = .ok (.aload_n 0, 1) := by decide +kernel
theorem dX1_left_3 : decode cX1_left 3 = .ok (.getfield 9, 3) := by decide +kernel
theorem dX1_left_6 : decode cX1_left 6 = .ok (.isub, 1) := by decide +kernel
theorem dX1_left_7 : decode cX1_left 7 = .ok (.ireturn, 1) := by decide +kernel
set_option maxRecDepth 20000 in
theorem ggX1_allows_X1_left : GoodIn wsX1_allows wsX1_left := goodIn_r _ [5, 6, 44, 45, 46, 47, 48] (by decide +kernel) (by decide +kernel)
set_option maxRecDepth 20000 in
theorem gX1_allows_X1_left : GoodIn wsX1_allows (wsV RX1 48 RX1 yX1_left wsX1_left) := goodIn_app (goodIn_of _ (by decide +kernel)) ggX1_allows_X1_left
set_option maxRecDepth 20000 in
theorem ggX1_allows_X1_slot : GoodIn wsX1_allows wsX1_slot := goodIn_r _ [10, 11, 12, 13, 14, 15, 16, 17, 18, 19, 20, 21, 22, 23, 24, 25, 26, 27, 28, 29, 30, 31, 32, 44, 45, 46, 47, 48, 49, 50, 51, 52, 53, 54, 55, 56, 57, 58, 59] (by decide +kernel) (by decide +kernel)
set_option maxRecDepth 20000 in
theorem gX1_allows_X1_slot : GoodIn wsX1_allows (wsV RX1 31 RX1 yX1_slot wsX1_slot) := goodIn_app (goodIn_of _ (by decide +kernel)) ggX1_allows_X1_slot
set_option maxRecDepth 20000 in
theorem ggX1_allows_X3_permits : GoodIn wsX1_allows wsX3_permits := goodIn_r _ [36, 37, 38, 39, 40, 41, 42, 14, 43, 25, 26, 49, 50, 51, 52, 53, 54, 55, 56, 57, 58, 59] (by decide +kernel) (by decide +kernel)
set_option maxRecDepth 20000 in
theorem gX1_allows_X3_permits : GoodIn wsX1_allows (wsV RX1 51 RX3 yX3_permits wsX3_permits) := goodIn_app (goodIn_of _ (by decide +kernel)) ggX1_allows_X3_permits
theorem dX1_allows_0 : decode cX1_allows 0 = .ok (.aload_n 0, 1) := by decide +kernel
theorem dX1_allows_1 : decode cX1_allows 1 = .ok (.invokevirtual 48, 3) := by decide +kernel
theorem dX1_allows_4 : decode cX1_allows 4 = .ok (.ifCond .le 19, 3) := by decide +kernel
theorem dX1_allows_7 : decode cX1_allows 7 = .ok (.aload_n 0, 1) := by decide +kernel
theorem dX1_allows_8 : decode cX1_allows 8 = .ok (.iload_n 1, 1) := by decide +kernel
theorem dX1_allows_9 : decode cX1_allows 9 = .ok (.invokevirtual 31, 3) := by decide +kernel
theorem dX1_allows_12 : decode cX1_allows 12 = .ok (.iload_n 2, 1) := by decide +kernel
theorem dX1_allows_13 : decode cX1_allows 13 = .ok (.invokevirtual 51, 3) := by decide +kernel
theorem dX1_allows_16 : decode cX1_allows 16 = .ok (.ifCond .eq 7, 3) := by decide +kernel
theorem dX1_allows_19 : decode cX1_allows 19 = .ok (.iconst 1, 1) := by decide +kernel
theorem dX1_allows_20 : decode cX1_allows 20 = .ok (.goto 4, 3) := by decide +kernel
theorem dX1_allows_23 : decode cX1_allows 23 = .ok (.iconst 0, 1) := by decide +kernel
theorem dX1_allows_24 : decode cX1_allows 24 = .ok (.ireturn, 1) := by decide +kernel
set_option maxRecDepth 20000 in
theorem ggX1_grow_X1_slot : GoodIn wsX1_grow wsX1_slot := goodIn_r _ [9, 10, 11, 12, 13, 14, 15, 16, 17, 18, 19, 20, 21, 22, 23, 24, 25, 26, 27, 28, 29, 30, 31, 100, 101, 102, 103, 104, 105, 106, 107, 108, 109, 110, 111, 112, 113, 114, 115] (by decide +kernel) (by decide +kernel)
set_option maxRecDepth 20000 in
theorem gX1_grow_X1_slot : GoodIn wsX1_grow (wsV RX1 31 RX1 yX1_slot wsX1_slot) := goodIn_app (goodIn_of _ (by decide +kernel)) ggX1_grow_X1_slot
set_option maxRecDepth 20000 in
theorem ggX1_grow_X3_copyFrom : GoodIn wsX1_grow wsX3_copyFrom := goodIn_r _ [35, 20, 21, 22, 23, 24, 25, 26, 27, 28, 29, 31, 36, 37, 38, 39, 40, 41, 42, 13, 43, 105, 106, 107, 108, 109, 110, 111, 112, 113, 114, 115] (by decide +kernel) (by decide +kernel)
set_option maxRecDepth 20000 in
theorem gX1_grow_X3_copyFrom : GoodIn wsX1_grow (wsV RX1 35 RX3 yX3_copyFrom wsX3_copyFrom) := goodIn_app (goodIn_of _ (by decide +kernel)) ggX1_grow_X3_copyFrom
set_option maxRecDepth 20000 in
theorem ggX1_grow_X3_perform : GoodIn wsX1_grow wsX3_perform := goodIn_r _ [47, 21, 23, 28, 29, 48, 49, 50, 51, 52, 53, 54, 55, 13, 56, 22, 31, 24, 25, 40, 41, 42, 43, 57, 58, 59, 60, 61, 62, 63, 64, 65, 66, 67, 68, 27, 69, 70, 71, 72, 73, 74, 75, 76, 77, 78, 79, 26, 80, 81, 82, 83, 84, 85, 86, 87, 88, 89, 90, 91, 92, 93, 94, 95, 96, 97, 98, 99, 105, 106, 107, 108, 109, 110, 111, 112, 113, 114, 115] (by decide +kernel) (by decide +kernel)
set_option maxRecDepth 20000 in
theorem gX1_grow_X3_perform : GoodIn wsX1_grow (wsV RX1 57 RX3 yX3_perform wsX3_perform) := goodIn_app (goodIn_of _ (by decide +kernel)) ggX1_grow_X3_perform
theorem dX1_grow_0 : decode cX1_grow 0 = .ok (.aload_n 0, 1) := by decide +kernel
theorem dX1_grow_1 : decode cX1_grow 1 = .ok (.getfield 9, 3) := by decide +kernel
theorem dX1_grow_4 : decode cX1_grow 4 = .ok (.istore 4, 2) := by decide +kernel
theorem dX1_grow_6 : decode cX1_grow 6 = .ok (.aload_n 0, 1) := by decide +kernel
theorem dX1_grow_7 : decode cX1_grow 7 = .ok (.iload 4, 2) := by decide +kernel
theorem dX1_grow_9 : decode cX1_grow 9 = .ok (.invokevirtual 31, 3) := by decide +kernel
theorem dX1_grow_12 : decode cX1_grow 12 = .ok (.astore 5, 2) := by decide +kernel
theorem dX1_grow_14 : decode cX1_grow 14 = .ok (.aload 5, 2) := by decide +kernel
theorem dX1_grow_16 : decode cX1_grow 16 = .ok (.aload_n 0, 1) := by decide +kernel
theorem dX1_grow_17 : decode cX1_grow 17 = .ok (.iload_n 1, 1) := by decide +kernel
theorem dX1_grow_18 : decode cX1_grow 18 = .ok (.invokevirtual 31, 3) := by decide +kernel
theorem dX1_grow_21 : decode cX1_grow 21 = .ok (.invokevirtual 35, 3) := by decide +kernel
theorem dX1_grow_24 : decode cX1_grow 24 = .ok (.aload 5, 2) := by decide +kernel
theorem dX1_grow_26 : decode cX1_grow 26 = .ok (.iload_n 1, 1) := by decide +kernel
theorem dX1_grow_27 : decode cX1_grow 27 = .ok (.putfield 54, 3) := by decide +kernel
theorem dX1_grow_30 : decode cX1_grow 30 = .ok (.aload 5, 2) := by decide +kernel
theorem dX1_grow_32 : decode cX1_grow 32 = .ok (.iload_n 2, 1) := by decide +kernel
theorem dX1_grow_33 : decode cX1_grow 33 = .ok (.iload_n 3, 1) := by decide +kernel
theorem dX1_grow_34 : decode cX1_grow 34 = .ok (.aload_n 0, 1) := by decide +kernel
theorem dX1_grow_35 : decode cX1_grow 35 = .ok (.getfield 15, 3) := by decide +kernel
theorem dX1_grow_38 : decode cX1_grow 38 = .ok (.aload_n 0, 1) := by decide +kernel
theorem dX1_grow_39 : decode cX1_grow 39 = .ok (.getfield 18, 3) := by decide +kernel
theorem dX1_grow_42 : decode cX1_grow 42 = .ok (.invokevirtual 57, 3) := by decide +kernel
theorem dX1_grow_45 : decode cX1_grow 45 = .ok (.aload_n 0, 1) := by decide +kernel
theorem dX1_grow_46 : decode cX1_grow 46 = .ok (.dup, 1) := by decide +kernel
theorem dX1_grow_47 : decode cX1_grow 47 = .ok (.getfield 9, 3) := by decide +kernel
theorem dX1_grow_50 : decode cX1_grow 50 = .ok (.iconst 1, 1) := by decide +kernel
theorem dX1_grow_51 : decode cX1_grow 51 = .ok (.iadd, 1) := by decide +kernel
theorem dX1_grow_52 : decode cX1_grow 52 = .ok (.putfield 9, 3) := by decide +kernel
theorem dX1_grow_55 : decode cX1_grow 55 = .ok (.iload 4, 2) := by decide +kernel
theorem dX1_grow_57 : decode cX1_grow 57 = .ok (.ireturn, 1) := by decide +kernel
set_option maxRecDepth 20000 in
theorem ggX1_growBy_X0_actAt : GoodIn wsX1_growBy wsX0_actAt := goodIn_r _ [6, 7, 8, 9, 10, 128, 129, 130, 131, 132, 133, 134, 135] (by decide +kernel) (by decide +kernel)
set_option maxRecDepth 20000 in
theorem gX1_growBy_X0_actAt : GoodIn wsX1_growBy (wsV RX1 66 RX0 yX0_actAt wsX0_actAt) := goodIn_app (goodIn_of _ (by decide +kernel)) ggX1_growBy_X0_actAt
set_option maxRecDepth 20000 in
theorem ggX1_growBy_X1_allows : GoodIn wsX1_growBy wsX1_allows := goodIn_r _ [15, 16, 17, 18, 14, 19, 20, 21, 22, 23, 24, 25, 26, 27, 28, 29, 30, 31, 32, 33, 34, 35, 36, 37, 38, 39, 40, 41, 42, 43, 44, 45, 46, 47, 48, 49, 50, 51, 9, 52, 53, 54, 55, 56, 136, 137, 138, 139, 140, 141, 142, 143, 144, 145, 146, 147, 148, 149, 150, 151] (by decide +kernel) (by decide +kernel)
set_option maxRecDepth 20000 in
theorem gX1_growBy_X1_allows : GoodIn wsX1_growBy (wsV RX1 70 RX1 yX1_allows wsX1_allows) := goodIn_app (goodIn_of _ (by decide +kernel)) ggX1_growBy_X1_allows
set_option maxRecDepth 20000 in
theorem ggX1_growBy_X0_valueAt : GoodIn wsX1_growBy wsX0_valueAt := goodIn_r _ [60, 61, 8, 9, 10, 128, 129, 130, 131, 132, 133, 134, 135] (by decide +kernel) (by decide +kernel)
set_option maxRecDepth 20000 in
theorem gX1_growBy_X0_valueAt : GoodIn wsX1_growBy (wsV RX1 74 RX0 yX0_valueAt wsX0_valueAt) := goodIn_app (goodIn_of _ (by decide +kernel)) ggX1_growBy_X0_valueAt
set_option maxRecDepth 20000 in
theorem ggX1_growBy_X1_grow : GoodIn wsX1_growBy wsX1_grow := goodIn_r _ [65, 20, 66, 67, 68, 21, 22, 23, 14, 24, 25, 26, 27, 28, 29, 30, 31, 32, 33, 34, 35, 36, 37, 38, 39, 40, 41, 42, 43, 44, 45, 46, 69, 70, 71, 72, 73, 74, 75, 76, 53, 54, 55, 56, 77, 78, 79, 80, 81, 9, 82, 51, 52, 83, 84, 85, 86, 87, 88, 89, 90, 8, 10, 91, 92, 93, 94, 95, 96, 97, 98, 99, 100, 101, 102, 103, 104, 105, 106, 107, 108, 109, 110, 111, 112, 113, 114, 115, 116, 117, 118, 119, 120, 121, 122, 123, 124, 125, 126, 127, 136, 137, 138, 139, 140, 141, 142, 143, 144, 145, 146, 147, 148, 149, 150, 151] (by decide +kernel) (by decide +kernel)
set_option maxRecDepth 20000 in
theorem gX1_growBy_X1_grow : GoodIn wsX1_growBy (wsV RX1 77 RX1 yX1_grow wsX1_grow) := goodIn_app (goodIn_of _ (by decide +kernel)) ggX1_growBy_X1_grow
theorem dX1_growBy_0 : decode cX1_growBy 0 = .ok (.iload_n 2, 1) := by decide +kernel
theorem dX1_growBy_1 : decode cX1_growBy 1 = .ok (.istore_n 3, 1) := by decide +kernel
theorem dX1_growBy_2 : decode cX1_growBy 2 = .ok (.iconst 0, 1) := by decide +kernel
theorem dX1_growBy_3 : decode cX1_growBy 3 = .ok (.istore 4, 2) := by decide +kernel
theorem dX1_growBy_5 : decode cX1_growBy 5 = .ok (.iload 4, 2) := by decide +kernel
theorem dX1_growBy_7 : decode cX1_growBy 7 = .ok (.aload_n 1, 1) := by decide +kernel
theorem dX1_growBy_8 : decode cX1_growBy 8 = .ok (.getfield 61, 3) := by decide +kernel
theorem dX1_growBy_11 : decode cX1_growBy 11 = .ok (.if_icmp .ge 44, 3) := by decide +kernel
theorem dX1_growBy_14 : decode cX1_growBy 14 = .ok (.aload_n 1, 1) := by decide +kernel
theorem dX1_growBy_15 : decode cX1_growBy 15 = .ok (.iload 4, 2) := by decide +kernel
theorem dX1_growBy_17 : decode cX1_growBy 17 = .ok (.invokevirtual 66, 3) := by decide +kernel
theorem dX1_growBy_20 : decode cX1_growBy 20 = .ok (.istore 5, 2) := by decide +kernel
theorem dX1_growBy_22 : decode cX1_growBy 22 = .ok (.aload_n 0, 1) := by decide +kernel
theorem dX1_growBy_23 : decode cX1_growBy 23 = .ok (.iload_n 3, 1) := by decide +kernel
theorem dX1_growBy_24 : decode cX1_growBy 24 = .ok (.iload 5, 2) := by decide +kernel
theorem dX1_growBy_26 : decode cX1_growBy 26 = .ok (.invokevirtual 70, 3) := by decide +kernel
theorem dX1_growBy_29 : decode cX1_growBy 29 = .ok (.ifCond .ne 6, 3) := by decide +kernel
theorem dX1_growBy_32 : decode cX1_growBy 32 = .ok (.iload 4, 2) := by decide +kernel
theorem dX1_growBy_34 : decode cX1_growBy 34 = .ok (.ireturn, 1) := by decide +kernel
theorem dX1_growBy_35 : decode cX1_growBy 35 = .ok (.aload_n 0, 1) := by decide +kernel
theorem dX1_growBy_36 : decode cX1_growBy 36 = .ok (.iload_n 3, 1) := by decide +kernel
theorem dX1_growBy_37 : decode cX1_growBy 37 = .ok (.iload 5, 2) := by decide +kernel
theorem dX1_growBy_39 : decode cX1_growBy 39 = .ok (.aload_n 1, 1) := by decide +kernel
theorem dX1_growBy_40 : decode cX1_growBy 40 = .ok (.iload 4, 2) := by decide +kernel
theorem dX1_growBy_42 : decode cX1_growBy 42 = .ok (.invokevirtual 74, 3) := by decide +kernel
theorem dX1_growBy_45 : decode cX1_growBy 45 = .ok (.invokevirtual 77, 3) := by decide +kernel
theorem dX1_growBy_48 : decode cX1_growBy 48 = .ok (.istore_n 3, 1) := by decide +kernel
theorem dX1_growBy_49 : decode cX1_growBy 49 = .ok (.iinc 4 1, 3) := by decide +kernel
theorem dX1_growBy_52 : decode cX1_growBy 52 = .ok (.goto (-47), 3) := by decide +kernel
theorem dX1_growBy_55 : decode cX1_growBy 55 = .ok (.aload_n 1, 1) := by decide +kernel
theorem dX1_growBy_56 : decode cX1_growBy 56 = .ok (.getfield 61, 3) := by decide +kernel
theorem dX1_growBy_59 : decode cX1_growBy 59 = .ok (.ireturn, 1) := by decide +kernel
set_option maxRecDepth 20000 in
theorem ggX1_total_X1_childless : GoodIn wsX1_total wsX1_childless := goodIn_r _ [6, 1, 7, 8, 9, 10, 11, 12, 13, 14, 5, 15, 16, 17, 18, 19, 20, 21, 22, 23, 24, 25, 26, 27, 28, 29, 30, 31, 32, 33, 34, 35, 36, 37, 38, 39, 73, 74, 75, 76, 77, 78, 79, 80, 81, 82, 83, 84, 85, 86, 87, 88] (by decide +kernel) (by decide +kernel)
set_option maxRecDepth 20000 in
theorem gX1_total_X1_childless : GoodIn wsX1_total (wsV RX1 81 RX1 yX1_childless wsX1_childless) := goodIn_app (goodIn_of _ (by decide +kernel)) ggX1_total_X1_childless
set_option maxRecDepth 20000 in
theorem ggX1_total_X1_greatestFact : GoodIn wsX1_total wsX1_greatestFact := goodIn_r _ [43, 1, 44, 45, 46, 47, 12, 13, 14, 5, 15, 16, 17, 18, 19, 20, 21, 22, 23, 24, 25, 26, 27, 28, 29, 30, 31, 32, 33, 34, 35, 36, 37, 48, 49, 50, 51, 52, 53, 54, 55, 73, 74, 75, 76, 77, 78, 79, 80, 81, 82, 83, 84, 85, 86, 87, 88] (by decide +kernel) (by decide +kernel)
set_option maxRecDepth 20000 in
theorem gX1_total_X1_greatestFact : GoodIn wsX1_total (wsV RX1 84 RX1 yX1_greatestFact wsX1_greatestFact) := goodIn_app (goodIn_of _ (by decide +kernel)) ggX1_total_X1_greatestFact
set_option maxRecDepth 20000 in
theorem ggX1_total_X1_sumOfFacts : GoodIn wsX1_total wsX1_sumOfFacts := goodIn_r _ [59, 1, 12, 13, 14, 5, 15, 16, 17, 18, 19, 20, 21, 22, 23, 24, 25, 26, 27, 28, 29, 30, 31, 32, 33, 34, 35, 36, 37, 48, 49, 50, 51, 52, 53, 54, 55, 73, 74, 75, 76, 77, 78, 79, 80, 81, 82, 83, 84, 85, 86, 87, 88] (by decide +kernel) (by decide +kernel)
set_option maxRecDepth 20000 in
theorem gX1_total_X1_sumOfFacts : GoodIn wsX1_total (wsV RX1 87 RX1 yX1_sumOfFacts wsX1_sumOfFacts) := goodIn_app (goodIn_of _ (by decide +kernel)) ggX1_total_X1_sumOfFacts
set_option maxRecDepth 20000 in
theorem ggX1_total_X1_stalled : GoodIn wsX1_total wsX1_stalled := goodIn_r _ [63, 1, 64, 12, 13, 14, 5, 15, 16, 17, 18, 19, 20, 21, 22, 23, 24, 25, 26, 27, 28, 29, 30, 31, 32, 33, 34, 35, 36, 37, 73, 74, 75, 76, 77, 78, 79, 80, 81, 82, 83, 84, 85, 86, 87, 88] (by decide +kernel) (by decide +kernel)
set_option maxRecDepth 20000 in
theorem gX1_total_X1_stalled : GoodIn wsX1_total (wsV RX1 90 RX1 yX1_stalled wsX1_stalled) := goodIn_app (goodIn_of _ (by decide +kernel)) ggX1_total_X1_stalled
set_option maxRecDepth 20000 in
theorem ggX1_total_X1_rebuilding : GoodIn wsX1_total wsX1_rebuilding := goodIn_r _ [68, 1, 12, 13, 14, 5, 15, 16, 17, 18, 19, 20, 21, 22, 23, 24, 25, 26, 27, 28, 29, 30, 31, 32, 33, 34, 35, 36, 37, 69, 70, 71, 72, 73, 74, 75, 76, 77, 78, 79, 80, 81, 82, 83, 84, 85, 86, 87, 88] (by decide +kernel) (by decide +kernel)
set_option maxRecDepth 20000 in
theorem gX1_total_X1_rebuilding : GoodIn wsX1_total (wsV RX1 93 RX1 yX1_rebuilding wsX1_rebuilding) := goodIn_app (goodIn_of _ (by decide +kernel)) ggX1_total_X1_rebuilding
theorem dX1_total_0 : decode cX1_total 0 = .ok (.iload_n 1, 1) := by decide +kernel
theorem dX1_total_1 : decode cX1_total 1 = .ok (.tableswitch 84 0 6 #[43, 48, 53, 60, 67, 72, 79], 43) := by decide +kernel
theorem dX1_total_44 : decode cX1_total 44 = .ok (.aload_n 0, 1) := by decide +kernel
theorem dX1_total_45 : decode cX1_total 45 = .ok (.getfield 9, 3) := by decide +kernel
theorem dX1_total_48 : decode cX1_total 48 = .ok (.ireturn, 1) := by decide +kernel
theorem dX1_total_49 : decode cX1_total 49 = .ok (.aload_n 0, 1) := by decide +kernel
theorem dX1_total_50 : decode cX1_total 50 = .ok (.invokevirtual 81, 3) := by decide +kernel
theorem dX1_total_53 : decode cX1_total 53 = .ok (.ireturn, 1) := by decide +kernel
theorem dX1_total_54 : decode cX1_total 54 = .ok (.aload_n 0, 1) := by decide +kernel
theorem dX1_total_55 : decode cX1_total 55 = .ok (.bipush 6, 2) := by decide +kernel
theorem dX1_total_57 : decode cX1_total 57 = .ok (.invokevirtual 84, 3) := by decide +kernel
theorem dX1_total_60 : decode cX1_total 60 = .ok (.ireturn, 1) := by decide +kernel
theorem dX1_total_61 : decode cX1_total 61 = .ok (.aload_n 0, 1) := by decide +kernel
theorem dX1_total_62 : decode cX1_total 62 = .ok (.bipush 6, 2) := by decide +kernel
theorem dX1_total_64 : decode cX1_total 64 = .ok (.invokevirtual 87, 3) := by decide +kernel
theorem dX1_total_67 : decode cX1_total 67 = .ok (.ireturn, 1) := by decide +kernel
theorem dX1_total_68 : decode cX1_total 68 = .ok (.aload_n 0, 1) := by decide +kernel
theorem dX1_total_69 : decode cX1_total 69 = .ok (.invokevirtual 90, 3) := by decide +kernel
theorem dX1_total_72 : decode cX1_total 72 = .ok (.ireturn, 1) := by decide +kernel
theorem dX1_total_73 : decode cX1_total 73 = .ok (.aload_n 0, 1) := by decide +kernel
theorem dX1_total_74 : decode cX1_total 74 = .ok (.bipush 7, 2) := by decide +kernel
theorem dX1_total_76 : decode cX1_total 76 = .ok (.invokevirtual 87, 3) := by decide +kernel
theorem dX1_total_79 : decode cX1_total 79 = .ok (.ireturn, 1) := by decide +kernel
theorem dX1_total_80 : decode cX1_total 80 = .ok (.aload_n 0, 1) := by decide +kernel
theorem dX1_total_81 : decode cX1_total 81 = .ok (.invokevirtual 93, 3) := by decide +kernel
theorem dX1_total_84 : decode cX1_total 84 = .ok (.ireturn, 1) := by decide +kernel
theorem dX1_total_85 : decode cX1_total 85 = .ok (.aload_n 0, 1) := by decide +kernel
theorem dX1_total_86 : decode cX1_total 86 = .ok (.bipush 9, 2) := by decide +kernel
theorem dX1_total_88 : decode cX1_total 88 = .ok (.invokevirtual 84, 3) := by decide +kernel
theorem dX1_total_91 : decode cX1_total 91 = .ok (.ireturn, 1) := by decide +kernel
set_option maxRecDepth 20000 in
theorem ggX1_childless_X4_fill : GoodIn wsX1_childless wsX4_fill := goodIn_r _ [6] (by decide +kernel) (by decide +kernel)
set_option maxRecDepth 20000 in
theorem gX1_childless_X4_fill_n96 : GoodIn wsX1_childless (wsX4_fill) := ggX1_childless_X4_fill
set_option maxRecDepth 20000 in
theorem ggX1_childless_X1_slot : GoodIn wsX1_childless wsX1_slot := goodIn_r _ [11, 12, 13, 14, 15, 16, 17, 18, 19, 20, 21, 22, 23, 24, 25, 26, 27, 28, 29, 30, 31, 32, 33, 36, 37, 38, 39, 40, 41, 42, 43, 44, 45, 46, 47, 48, 49, 50, 51] (by decide +kernel) (by decide +kernel)
set_option maxRecDepth 20000 in
theorem gX1_childless_X1_slot : GoodIn wsX1_childless (wsV RX1 31 RX1 yX1_slot wsX1_slot) := goodIn_app (goodIn_of _ (by decide +kernel)) ggX1_childless_X1_slot
set_option maxRecDepth 20000 in
theorem ggX1_childless_X4_cell : GoodIn wsX1_childless wsX4_cell := goodIn_r _ [35] (by decide +kernel) (by decide +kernel)
set_option maxRecDepth 20000 in
theorem gX1_childless_X4_cell_n100 : GoodIn wsX1_childless (wsX4_cell) := ggX1_childless_X4_cell
theorem dX1_childless_0 : decode cX1_childless 0 = .ok (.iconst 0, 1) := by decide +kernel
theorem dX1_childless_1 : decode cX1_childless 1 = .ok (.istore_n 1, 1) := by decide +kernel
theorem dX1_childless_2 : decode cX1_childless 2 = .ok (.iload_n 1, 1) := by decide +kernel
theorem dX1_childless_3 : decode cX1_childless 3 = .ok (.aload_n 0, 1) := by decide +kernel
theorem dX1_childless_4 : decode cX1_childless 4 = .ok (.getfield 9, 3) := by decide +kernel
theorem dX1_childless_7 : decode cX1_childless 7 = .ok (.if_icmp .ge 18, 3) := by decide +kernel
theorem dX1_childless_10 : decode cX1_childless 10 = .ok (.aload_n 0, 1) := by decide +kernel
theorem dX1_childless_11 : decode cX1_childless 11 = .ok (.getfield 27, 3) := by decide +kernel
theorem dX1_childless_14 : decode cX1_childless 14 = .ok (.iload_n 1, 1) := by decide +kernel
theorem dX1_childless_15 : decode cX1_childless 15 = .ok (.iconst 0, 1) := by decide +kernel
theorem dX1_childless_16 : decode cX1_childless 16 = .ok (.invokestatic 96, 3) := by decide +kernel
theorem dX1_childless_19 : decode cX1_childless 19 = .ok (.iinc 1 1, 3) := by decide +kernel
theorem dX1_childless_22 : decode cX1_childless 22 = .ok (.goto (-20), 3) := by decide +kernel
theorem dX1_childless_25 : decode cX1_childless 25 = .ok (.iconst 0, 1) := by decide +kernel
theorem dX1_childless_26 : decode cX1_childless 26 = .ok (.istore_n 1, 1) := by decide +kernel
theorem dX1_childless_27 : decode cX1_childless 27 = .ok (.iconst 1, 1) := by decide +kernel
theorem dX1_childless_28 : decode cX1_childless 28 = .ok (.istore_n 2, 1) := by decide +kernel
theorem dX1_childless_29 : decode cX1_childless 29 = .ok (.iload_n 2, 1) := by decide +kernel
theorem dX1_childless_30 : decode cX1_childless 30 = .ok (.aload_n 0, 1) := by decide +kernel
theorem dX1_childless_31 : decode cX1_childless 31 = .ok (.getfield 9, 3) := by decide +kernel
theorem dX1_childless_34 : decode cX1_childless 34 = .ok (.if_icmp .ge 41, 3) := by decide +kernel
theorem dX1_childless_37 : decode cX1_childless 37 = .ok (.aload_n 0, 1) := by decide +kernel
theorem dX1_childless_38 : decode cX1_childless 38 = .ok (.iload_n 2, 1) := by decide +kernel
theorem dX1_childless_39 : decode cX1_childless 39 = .ok (.invokevirtual 31, 3) := by decide +kernel
theorem dX1_childless_42 : decode cX1_childless 42 = .ok (.getfield 54, 3) := by decide +kernel
theorem dX1_childless_45 : decode cX1_childless 45 = .ok (.istore_n 3, 1) := by decide +kernel
theorem dX1_childless_46 : decode cX1_childless 46 = .ok (.aload_n 0, 1) := by decide +kernel
theorem dX1_childless_47 : decode cX1_childless 47 = .ok (.getfield 27, 3) := by decide +kernel
theorem dX1_childless_50 : decode cX1_childless 50 = .ok (.iload_n 3, 1) := by decide +kernel
theorem dX1_childless_51 : decode cX1_childless 51 = .ok (.invokestatic 100, 3) := by decide +kernel
theorem dX1_childless_54 : decode cX1_childless 54 = .ok (.ifCond .ne 15, 3) := by decide +kernel
theorem dX1_childless_57 : decode cX1_childless 57 = .ok (.aload_n 0, 1) := by decide +kernel
theorem dX1_childless_58 : decode cX1_childless 58 = .ok (.getfield 27, 3) := by decide +kernel
theorem dX1_childless_61 : decode cX1_childless 61 = .ok (.iload_n 3, 1) := by decide +kernel
theorem dX1_childless_62 : decode cX1_childless 62 = .ok (.iconst 1, 1) := by decide +kernel
theorem dX1_childless_63 : decode cX1_childless 63 = .ok (.invokestatic 96, 3) := by decide +kernel
theorem dX1_childless_66 : decode cX1_childless 66 = .ok (.iinc 1 1, 3) := by decide +kernel
theorem dX1_childless_69 : decode cX1_childless 69 = .ok (.iinc 2 1, 3) := by decide +kernel
theorem dX1_childless_72 : decode cX1_childless 72 = .ok (.goto (-43), 3) := by decide +kernel
theorem dX1_childless_75 : decode cX1_childless 75 = .ok (.aload_n 0, 1) := by decide +kernel
theorem dX1_childless_76 : decode cX1_childless 76 = .ok (.getfield 9, 3) := by decide +kernel
theorem dX1_childless_79 : decode cX1_childless 79 = .ok (.iload_n 1, 1) := by decide +kernel
theorem dX1_childless_80 : decode cX1_childless 80 = .ok (.isub, 1) := by decide +kernel
theorem dX1_childless_81 : decode cX1_childless 81 = .ok (.ireturn, 1) := by decide +kernel
set_option maxRecDepth 20000 in
theorem ggX1_greatestFact_X1_slot : GoodIn wsX1_greatestFact wsX1_slot := goodIn_r _ [10, 11, 12, 13, 14, 15, 16, 17, 18, 19, 20, 21, 22, 23, 24, 25, 26, 27, 28, 29, 30, 31, 32, 41, 42, 43, 44, 45, 46, 47, 48, 49, 50, 51, 52, 53, 54, 55, 56] (by decide +kernel) (by decide +kernel)
set_option maxRecDepth 20000 in
theorem gX1_greatestFact_X1_slot : GoodIn wsX1_greatestFact (wsV RX1 31 RX1 yX1_slot wsX1_slot) := goodIn_app (goodIn_of _ (by decide +kernel)) ggX1_greatestFact_X1_slot
set_option maxRecDepth 20000 in
theorem ggX1_greatestFact_X3_fact : GoodIn wsX1_greatestFact wsX3_fact := goodIn_r _ [36, 21, 25, 26, 27, 28, 29, 30, 22, 24, 37, 38, 39, 14, 40, 46, 47, 48, 49, 50, 51, 52, 53, 54, 55, 56] (by decide +kernel) (by decide +kernel)
set_option maxRecDepth 20000 in
theorem gX1_greatestFact_X3_fact : GoodIn wsX1_greatestFact (wsV RX1 104 RX3 yX3_fact wsX3_fact) := goodIn_app (goodIn_of _ (by decide +kernel)) ggX1_greatestFact_X3_fact
theorem dX1_greatestFact_0 : decode cX1_greatestFact 0 = .ok (.iconst 0, 1) := by decide +kernel
theorem dX1_greatestFact_1 : decode cX1_greatestFact 1 = .ok (.istore_n 2, 1) := by decide +kernel
theorem dX1_greatestFact_2 : decode cX1_greatestFact 2 = .ok (.iconst 0, 1) := by decide +kernel
theorem dX1_greatestFact_3 : decode cX1_greatestFact 3 = .ok (.istore_n 3, 1) := by decide +kernel
theorem dX1_greatestFact_4 : decode cX1_greatestFact 4 = .ok (.iload_n 3, 1) := by decide +kernel
theorem dX1_greatestFact_5 : decode cX1_greatestFact 5 = .ok (.aload_n 0, 1) := by decide +kernel
theorem dX1_greatestFact_6 : decode cX1_greatestFact 6 = .ok (.getfield 9, 3) := by decide +kernel
theorem dX1_greatestFact_9 : decode cX1_greatestFact 9 = .ok (.if_icmp .ge 23, 3) := by decide +kernel
theorem dX1_greatestFact_12 : decode cX1_greatestFact 12 = .ok (.iload_n 2, 1) := by decide +kernel
theorem dX1_greatestFact_13 : decode cX1_greatestFact 13 = .ok (.aload_n 0, 1) := by decide +kernel
theorem dX1_greatestFact_14 : decode cX1_greatestFact 14 = .ok (.iload_n 3, 1) := by decide +kernel
theorem dX1_greatestFact_15 : decode cX1_greatestFact 15 = .ok (.invokevirtual 31, 3) := by decide +kernel
theorem dX1_greatestFact_18 : decode cX1_greatestFact 18 = .ok (.iload_n 1, 1) := by decide +kernel
theorem dX1_greatestFact_19 : decode cX1_greatestFact 19 = .ok (.invokevirtual 104, 3) := by decide +kernel
theorem dX1_greatestFact_22 : decode cX1_greatestFact 22 = .ok (.invokestatic 107, 3) := by decide +kernel
theorem dX1_greatestFact_25 : decode cX1_greatestFact 25 = .ok (.istore_n 2, 1) := by decide +kernel
theorem dX1_greatestFact_26 : decode cX1_greatestFact 26 = .ok (.iinc 3 1, 3) := by decide +kernel
theorem dX1_greatestFact_29 : decode cX1_greatestFact 29 = .ok (.goto (-25), 3) := by decide +kernel
theorem dX1_greatestFact_32 : decode cX1_greatestFact 32 = .ok (.iload_n 2, 1) := by decide +kernel
theorem dX1_greatestFact_33 : decode cX1_greatestFact 33 = .ok (.ireturn, 1) := by decide +kernel
set_option maxRecDepth 20000 in
theorem ggX1_sumOfFacts_X1_slot : GoodIn wsX1_sumOfFacts wsX1_slot := goodIn_r _ [6, 7, 8, 9, 10, 11, 12, 13, 14, 15, 16, 17, 18, 19, 20, 21, 22, 23, 24, 25, 26, 27, 28, 37, 38, 39, 40, 41, 42, 43, 44, 45, 46, 47, 48, 49, 50, 51, 52] (by decide +kernel) (by decide +kernel)
set_option maxRecDepth 20000 in
theorem gX1_sumOfFacts_X1_slot : GoodIn wsX1_sumOfFacts (wsV RX1 31 RX1 yX1_slot wsX1_slot) := goodIn_app (goodIn_of _ (by decide +kernel)) ggX1_sumOfFacts_X1_slot
set_option maxRecDepth 20000 in
theorem ggX1_sumOfFacts_X3_fact : GoodIn wsX1_sumOfFacts wsX3_fact := goodIn_r _ [32, 17, 21, 22, 23, 24, 25, 26, 18, 20, 33, 34, 35, 10, 36, 42, 43, 44, 45, 46, 47, 48, 49, 50, 51, 52] (by decide +kernel) (by decide +kernel)
set_option maxRecDepth 20000 in
theorem gX1_sumOfFacts_X3_fact : GoodIn wsX1_sumOfFacts (wsV RX1 104 RX3 yX3_fact wsX3_fact) := goodIn_app (goodIn_of _ (by decide +kernel)) ggX1_sumOfFacts_X3_fact
theorem dX1_sumOfFacts_0 : decode cX1_sumOfFacts 0 = .ok (.iconst 0, 1) := by decide +kernel
theorem dX1_sumOfFacts_1 : decode cX1_sumOfFacts 1 = .ok (.istore_n 2, 1) := by decide +kernel
theorem dX1_sumOfFacts_2 : decode cX1_sumOfFacts 2 = .ok (.iconst 0, 1) := by decide +kernel
theorem dX1_sumOfFacts_3 : decode cX1_sumOfFacts 3 = .ok (.istore_n 3, 1) := by decide +kernel
theorem dX1_sumOfFacts_4 : decode cX1_sumOfFacts 4 = .ok (.iload_n 3, 1) := by decide +kernel
theorem dX1_sumOfFacts_5 : decode cX1_sumOfFacts 5 = .ok (.aload_n 0, 1) := by decide +kernel
theorem dX1_sumOfFacts_6 : decode cX1_sumOfFacts 6 = .ok (.getfield 9, 3) := by decide +kernel
theorem dX1_sumOfFacts_9 : decode cX1_sumOfFacts 9 = .ok (.if_icmp .ge 21, 3) := by decide +kernel
theorem dX1_sumOfFacts_12 : decode cX1_sumOfFacts 12 = .ok (.iload_n 2, 1) := by decide +kernel
theorem dX1_sumOfFacts_13 : decode cX1_sumOfFacts 13 = .ok (.aload_n 0, 1) := by decide +kernel
theorem dX1_sumOfFacts_14 : decode cX1_sumOfFacts 14 = .ok (.iload_n 3, 1) := by decide +kernel
theorem dX1_sumOfFacts_15 : decode cX1_sumOfFacts 15 = .ok (.invokevirtual 31, 3) := by decide +kernel
theorem dX1_sumOfFacts_18 : decode cX1_sumOfFacts 18 = .ok (.iload_n 1, 1) := by decide +kernel
theorem dX1_sumOfFacts_19 : decode cX1_sumOfFacts 19 = .ok (.invokevirtual 104, 3) := by decide +kernel
theorem dX1_sumOfFacts_22 : decode cX1_sumOfFacts 22 = .ok (.iadd, 1) := by decide +kernel
theorem dX1_sumOfFacts_23 : decode cX1_sumOfFacts 23 = .ok (.istore_n 2, 1) := by decide +kernel
theorem dX1_sumOfFacts_24 : decode cX1_sumOfFacts 24 = .ok (.iinc 3 1, 3) := by decide +kernel
theorem dX1_sumOfFacts_27 : decode cX1_sumOfFacts 27 = .ok (.goto (-23), 3) := by decide +kernel
theorem dX1_sumOfFacts_30 : decode cX1_sumOfFacts 30 = .ok (.iload_n 2, 1) := by decide +kernel
theorem dX1_sumOfFacts_31 : decode cX1_sumOfFacts 31 = .ok (.ireturn, 1) := by decide +kernel
set_option maxRecDepth 20000 in
theorem ggX1_stalled_X1_slot : GoodIn wsX1_stalled wsX1_slot := goodIn_r _ [7, 8, 9, 10, 11, 12, 13, 14, 15, 16, 17, 18, 19, 20, 21, 22, 23, 24, 25, 26, 27, 28, 29, 30, 31, 32, 33, 34, 35, 36, 37, 38, 39, 40, 41, 42, 43, 44, 45] (by decide +kernel) (by decide +kernel)
set_option maxRecDepth 20000 in
theorem gX1_stalled_X1_slot : GoodIn wsX1_stalled (wsV RX1 31 RX1 yX1_slot wsX1_slot) := goodIn_app (goodIn_of _ (by decide +kernel)) ggX1_stalled_X1_slot
theorem dX1_stalled_0 : decode cX1_stalled 0 = .ok (.iconst 0, 1) := by decide +kernel
theorem dX1_stalled_1 : decode cX1_stalled 1 = .ok (.istore_n 1, 1) := by decide +kernel
theorem dX1_stalled_2 : decode cX1_stalled 2 = .ok (.iconst 0, 1) := by decide +kernel
theorem dX1_stalled_3 : decode cX1_stalled 3 = .ok (.istore_n 2, 1) := by decide +kernel
theorem dX1_stalled_4 : decode cX1_stalled 4 = .ok (.iload_n 2, 1) := by decide +kernel
theorem dX1_stalled_5 : decode cX1_stalled 5 = .ok (.aload_n 0, 1) := by decide +kernel
theorem dX1_stalled_6 : decode cX1_stalled 6 = .ok (.getfield 9, 3) := by decide +kernel
theorem dX1_stalled_9 : decode cX1_stalled 9 = .ok (.if_icmp .ge 23, 3) := by decide +kernel
theorem dX1_stalled_12 : decode cX1_stalled 12 = .ok (.aload_n 0, 1) := by decide +kernel
theorem dX1_stalled_13 : decode cX1_stalled 13 = .ok (.iload_n 2, 1) := by decide +kernel
theorem dX1_stalled_14 : decode cX1_stalled 14 = .ok (.invokevirtual 31, 3) := by decide +kernel
theorem dX1_stalled_17 : decode cX1_stalled 17 = .ok (.getfield 113, 3) := by decide +kernel
theorem dX1_stalled_20 : decode cX1_stalled 20 = .ok (.ifCond .le 6, 3) := by decide +kernel
theorem dX1_stalled_23 : decode cX1_stalled 23 = .ok (.iinc 1 1, 3) := by decide +kernel
theorem dX1_stalled_26 : decode cX1_stalled 26 = .ok (.iinc 2 1, 3) := by decide +kernel
theorem dX1_stalled_29 : decode cX1_stalled 29 = .ok (.goto (-25), 3) := by decide +kernel
theorem dX1_stalled_32 : decode cX1_stalled 32 = .ok (.iload_n 1, 1) := by decide +kernel
theorem dX1_stalled_33 : decode cX1_stalled 33 = .ok (.ireturn, 1) := by decide +kernel
set_option maxRecDepth 20000 in
theorem ggX1_rebuilding_X1_slot : GoodIn wsX1_rebuilding wsX1_slot := goodIn_r _ [6, 7, 8, 9, 10, 11, 12, 13, 14, 15, 16, 17, 18, 19, 20, 21, 22, 23, 24, 25, 26, 27, 28, 33, 34, 35, 36, 37, 38, 39, 40, 41, 42, 43, 44, 45, 46, 47, 48] (by decide +kernel) (by decide +kernel)
set_option maxRecDepth 20000 in
theorem gX1_rebuilding_X1_slot : GoodIn wsX1_rebuilding (wsV RX1 31 RX1 yX1_slot wsX1_slot) := goodIn_app (goodIn_of _ (by decide +kernel)) ggX1_rebuilding_X1_slot
set_option maxRecDepth 20000 in
theorem ggX1_rebuilding_X3_isRebuilding : GoodIn wsX1_rebuilding wsX3_isRebuilding := goodIn_r _ [32, 23, 38, 39, 40, 41, 42, 43, 44, 45, 46, 47, 48] (by decide +kernel) (by decide +kernel)
set_option maxRecDepth 20000 in
theorem gX1_rebuilding_X3_isRebuilding : GoodIn wsX1_rebuilding (wsV RX1 116 RX3 yX3_isRebuilding wsX3_isRebuilding) := goodIn_app (goodIn_of _ (by decide +kernel)) ggX1_rebuilding_X3_isRebuilding
theorem dX1_rebuilding_0 : decode cX1_rebuilding 0 = .ok (.iconst 0, 1) := by decide +kernel
theorem dX1_rebuilding_1 : decode cX1_rebuilding 1 = .ok (.istore_n 1, 1) := by decide +kernel
theorem dX1_rebuilding_2 : decode cX1_rebuilding 2 = .ok (.iconst 0, 1) := by decide +kernel
theorem dX1_rebuilding_3 : decode cX1_rebuilding 3 = .ok (.istore_n 2, 1) := by decide +kernel
theorem dX1_rebuilding_4 : decode cX1_rebuilding 4 = .ok (.iload_n 2, 1) := by decide +kernel
theorem dX1_rebuilding_5 : decode cX1_rebuilding 5 = .ok (.aload_n 0, 1) := by decide +kernel
theorem dX1_rebuilding_6 : decode cX1_rebuilding 6 = .ok (.getfield 9, 3) := by decide +kernel
theorem dX1_rebuilding_9 : decode cX1_rebuilding 9 = .ok (.if_icmp .ge 23, 3) := by decide +kernel
theorem dX1_rebuilding_12 : decode cX1_rebuilding 12 = .ok (.aload_n 0, 1) := by decide +kernel
theorem dX1_rebuilding_13 : decode cX1_rebuilding 13 = .ok (.iload_n 2, 1) := by decide +kernel
theorem dX1_rebuilding_14 : decode cX1_rebuilding 14 = .ok (.invokevirtual 31, 3) := by decide +kernel
theorem dX1_rebuilding_17 : decode cX1_rebuilding 17 = .ok (.invokevirtual 116, 3) := by decide +kernel
theorem dX1_rebuilding_20 : decode cX1_rebuilding 20 = .ok (.ifCond .eq 6, 3) := by decide +kernel
theorem dX1_rebuilding_23 : decode cX1_rebuilding 23 = .ok (.iinc 1 1, 3) := by decide +kernel
theorem dX1_rebuilding_26 : decode cX1_rebuilding 26 = .ok (.iinc 2 1, 3) := by decide +kernel
theorem dX1_rebuilding_29 : decode cX1_rebuilding 29 = .ok (.goto (-25), 3) := by decide +kernel
theorem dX1_rebuilding_32 : decode cX1_rebuilding 32 = .ok (.iload_n 1, 1) := by decide +kernel
theorem dX1_rebuilding_33 : decode cX1_rebuilding 33 = .ok (.ireturn, 1) := by decide +kernel
set_option maxRecDepth 20000 in
theorem ggX1_meeting_X1_slot : GoodIn wsX1_meeting wsX1_slot := goodIn_r _ [6, 7, 8, 9, 10, 11, 12, 13, 14, 15, 16, 17, 18, 19, 20, 21, 22, 23, 24, 25, 26, 27, 28, 40, 41, 42, 43, 44, 29, 30, 31, 32, 33, 34, 35, 36, 37, 38, 39] (by decide +kernel) (by decide +kernel)
set_option maxRecDepth 20000 in
theorem gX1_meeting_X1_slot : GoodIn wsX1_meeting (wsV RX1 31 RX1 yX1_slot wsX1_slot) := goodIn_app (goodIn_of _ (by decide +kernel)) ggX1_meeting_X1_slot
theorem dX1_meeting_0 : decode cX1_meeting 0 = .ok (.iload_n 1, 1) := by decide +kernel
theorem dX1_meeting_1 : decode cX1_meeting 1 = .ok (.istore_n 3, 1) := by decide +kernel
theorem dX1_meeting_2 : decode cX1_meeting 2 = .ok (.iload_n 2, 1) := by decide +kernel
theorem dX1_meeting_3 : decode cX1_meeting 3 = .ok (.istore 4, 2) := by decide +kernel
theorem dX1_meeting_5 : decode cX1_meeting 5 = .ok (.iconst 0, 1) := by decide +kernel
theorem dX1_meeting_6 : decode cX1_meeting 6 = .ok (.istore 5, 2) := by decide +kernel
theorem dX1_meeting_8 : decode cX1_meeting 8 = .ok (.iload 5, 2) := by decide +kernel
theorem dX1_meeting_10 : decode cX1_meeting 10 = .ok (.sipush 200, 3) := by decide +kernel
theorem dX1_meeting_13 : decode cX1_meeting 13 = .ok (.if_icmp .ge 44, 3) := by decide +kernel
theorem dX1_meeting_16 : decode cX1_meeting 16 = .ok (.iload_n 3, 1) := by decide +kernel
theorem dX1_meeting_17 : decode cX1_meeting 17 = .ok (.iload 4, 2) := by decide +kernel
theorem dX1_meeting_19 : decode cX1_meeting 19 = .ok (.if_icmp .eq 38, 3) := by decide +kernel
theorem dX1_meeting_22 : decode cX1_meeting 22 = .ok (.iload_n 3, 1) := by decide +kernel
theorem dX1_meeting_23 : decode cX1_meeting 23 = .ok (.iload 4, 2) := by decide +kernel
theorem dX1_meeting_25 : decode cX1_meeting 25 = .ok (.if_icmp .le 15, 3) := by decide +kernel
theorem dX1_meeting_28 : decode cX1_meeting 28 = .ok (.aload_n 0, 1) := by decide +kernel
theorem dX1_meeting_29 : decode cX1_meeting 29 = .ok (.iload_n 3, 1) := by decide +kernel
theorem dX1_meeting_30 : decode cX1_meeting 30 = .ok (.invokevirtual 31, 3) := by decide +kernel
theorem dX1_meeting_33 : decode cX1_meeting 33 = .ok (.getfield 54, 3) := by decide +kernel
theorem dX1_meeting_36 : decode cX1_meeting 36 = .ok (.istore_n 3, 1) := by decide +kernel
theorem dX1_meeting_37 : decode cX1_meeting 37 = .ok (.goto 14, 3) := by decide +kernel
theorem dX1_meeting_40 : decode cX1_meeting 40 = .ok (.aload_n 0, 1) := by decide +kernel
theorem dX1_meeting_41 : decode cX1_meeting 41 = .ok (.iload 4, 2) := by decide +kernel
theorem dX1_meeting_43 : decode cX1_meeting 43 = .ok (.invokevirtual 31, 3) := by decide +kernel
theorem dX1_meeting_46 : decode cX1_meeting 46 = .ok (.getfield 54, 3) := by decide +kernel
theorem dX1_meeting_49 : decode cX1_meeting 49 = .ok (.istore 4, 2) := by decide +kernel
theorem dX1_meeting_51 : decode cX1_meeting 51 = .ok (.iinc 5 1, 3) := by decide +kernel
theorem dX1_meeting_54 : decode cX1_meeting 54 = .ok (.goto (-46), 3) := by decide +kernel
theorem dX1_meeting_57 : decode cX1_meeting 57 = .ok (.iload_n 3, 1) := by decide +kernel
theorem dX1_meeting_58 : decode cX1_meeting 58 = .ok (.ireturn, 1) := by decide +kernel
set_option maxRecDepth 20000 in
theorem ggX1_firstWithRowOf_X1_slot : GoodIn wsX1_firstWithRowOf wsX1_slot := goodIn_r _ [5, 6, 7, 8, 9, 10, 11, 12, 13, 14, 15, 16, 17, 18, 19, 20, 21, 22, 23, 24, 25, 26, 27, 43, 44, 45, 46, 47, 48, 49, 50, 51, 52, 53, 54, 55, 56, 57, 58] (by decide +kernel) (by decide +kernel)
set_option maxRecDepth 20000 in
theorem gX1_firstWithRowOf_X1_slot : GoodIn wsX1_firstWithRowOf (wsV RX1 31 RX1 yX1_slot wsX1_slot) := goodIn_app (goodIn_of _ (by decide +kernel)) ggX1_firstWithRowOf_X1_slot
set_option maxRecDepth 20000 in
theorem ggX1_firstWithRowOf_X3_hasRowOf : GoodIn wsX1_firstWithRowOf wsX3_hasRowOf := goodIn_r _ [31, 32, 33, 34, 9, 35, 20, 21, 36, 37, 38, 39, 27, 40, 41, 42, 48, 49, 50, 51, 52, 53, 54, 55, 56, 57, 58] (by decide +kernel) (by decide +kernel)
set_option maxRecDepth 20000 in
theorem gX1_firstWithRowOf_X3_hasRowOf : GoodIn wsX1_firstWithRowOf (wsV RX1 120 RX3 yX3_hasRowOf wsX3_hasRowOf) := goodIn_app (goodIn_of _ (by decide +kernel)) ggX1_firstWithRowOf_X3_hasRowOf
theorem dX1_firstWithRowOf_0 : decode cX1_firstWithRowOf 0 = .ok (.iconst 0, 1) := by decide +kernel
theorem dX1_firstWithRowOf_1 : decode cX1_firstWithRowOf 1 = .ok (.istore_n 2, 1) := by decide +kernel
theorem dX1_firstWithRowOf_2 : decode cX1_firstWithRowOf 2 = .ok (.iload_n 2, 1) := by decide +kernel
theorem dX1_firstWithRowOf_3 : decode cX1_firstWithRowOf 3 = .ok (.iload_n 1, 1) := by decide +kernel
theorem dX1_firstWithRowOf_4 : decode cX1_firstWithRowOf 4 = .ok (.if_icmp .ge 27, 3) := by decide +kernel
theorem dX1_firstWithRowOf_7 : decode cX1_firstWithRowOf 7 = .ok (.aload_n 0, 1) := by decide +kernel
theorem dX1_firstWithRowOf_8 : decode cX1_firstWithRowOf 8 = .ok (.iload_n 2, 1) := by decide +kernel
theorem dX1_firstWithRowOf_9 : decode cX1_firstWithRowOf 9 = .ok (.invokevirtual 31, 3) := by decide +kernel
theorem dX1_firstWithRowOf_12 : decode cX1_firstWithRowOf 12 = .ok (.aload_n 0, 1) := by decide +kernel
theorem dX1_firstWithRowOf_13 : decode cX1_firstWithRowOf 13 = .ok (.iload_n 1, 1) := by decide +kernel
theorem dX1_firstWithRowOf_14 : decode cX1_firstWithRowOf 14 = .ok (.invokevirtual 31, 3) := by decide +kernel
theorem dX1_firstWithRowOf_17 : decode cX1_firstWithRowOf 17 = .ok (.invokevirtual 120, 3) := by decide +kernel
theorem dX1_firstWithRowOf_20 : decode cX1_firstWithRowOf 20 = .ok (.ifCond .eq 5, 3) := by decide +kernel
theorem dX1_firstWithRowOf_23 : decode cX1_firstWithRowOf 23 = .ok (.iload_n 2, 1) := by decide +kernel
theorem dX1_firstWithRowOf_24 : decode cX1_firstWithRowOf 24 = .ok (.ireturn, 1) := by decide +kernel
theorem dX1_firstWithRowOf_25 : decode cX1_firstWithRowOf 25 = .ok (.iinc 2 1, 3) := by decide +kernel
theorem dX1_firstWithRowOf_28 : decode cX1_firstWithRowOf 28 = .ok (.goto (-26), 3) := by decide +kernel
theorem dX1_firstWithRowOf_31 : decode cX1_firstWithRowOf 31 = .ok (.iload_n 1, 1) := by decide +kernel
theorem dX1_firstWithRowOf_32 : decode cX1_firstWithRowOf 32 = .ok (.ireturn, 1) := by decide +kernel
set_option maxRecDepth 20000 in
theorem ggX1_greatestCostOnWay_X1_slot : GoodIn wsX1_greatestCostOnWay wsX1_slot := goodIn_r _ [11, 12, 13, 14, 15, 16, 17, 18, 19, 20, 21, 22, 23, 24, 25, 26, 27, 28, 29, 30, 31, 32, 33, 45, 46, 47, 48, 49, 34, 35, 36, 37, 38, 39, 40, 41, 42, 43, 44] (by decide +kernel) (by decide +kernel)
set_option maxRecDepth 20000 in
theorem gX1_greatestCostOnWay_X1_slot : GoodIn wsX1_greatestCostOnWay (wsV RX1 31 RX1 yX1_slot wsX1_slot) := goodIn_app (goodIn_of _ (by decide +kernel)) ggX1_greatestCostOnWay_X1_slot
theorem dX1_greatestCostOnWay_0 : decode cX1_greatestCostOnWay 0 = .ok (.iconst 0, 1) := by decide +kernel
theorem dX1_greatestCostOnWay_1 : decode cX1_greatestCostOnWay 1 = .ok (.istore_n 2, 1) := by decide +kernel
theorem dX1_greatestCostOnWay_2 : decode cX1_greatestCostOnWay 2 = .ok (.iload_n 1, 1) := by decide +kernel
theorem dX1_greatestCostOnWay_3 : decode cX1_greatestCostOnWay 3 = .ok (.istore_n 3, 1) := by decide +kernel
theorem dX1_greatestCostOnWay_4 : decode cX1_greatestCostOnWay 4 = .ok (.iconst 0, 1) := by decide +kernel
theorem dX1_greatestCostOnWay_5 : decode cX1_greatestCostOnWay 5 = .ok (.istore 4, 2) := by decide +kernel
theorem dX1_greatestCostOnWay_7 : decode cX1_greatestCostOnWay 7 = .ok (.iload 4, 2) := by decide +kernel
theorem dX1_greatestCostOnWay_9 : decode cX1_greatestCostOnWay 9 = .ok (.bipush 100, 2) := by decide +kernel
theorem dX1_greatestCostOnWay_11 : decode cX1_greatestCostOnWay 11 = .ok (.if_icmp .ge 36, 3) := by decide +kernel
theorem dX1_greatestCostOnWay_14 : decode cX1_greatestCostOnWay 14 = .ok (.iload_n 3, 1) := by decide +kernel
theorem dX1_greatestCostOnWay_15 : decode cX1_greatestCostOnWay 15 = .ok (.iconst (-1), 1) := by decide +kernel
theorem dX1_greatestCostOnWay_16 : decode cX1_greatestCostOnWay 16 = .ok (.if_icmp .eq 31, 3) := by decide +kernel
theorem dX1_greatestCostOnWay_19 : decode cX1_greatestCostOnWay 19 = .ok (.iload_n 2, 1) := by decide +kernel
theorem dX1_greatestCostOnWay_20 : decode cX1_greatestCostOnWay 20 = .ok (.aload_n 0, 1) := by decide +kernel
theorem dX1_greatestCostOnWay_21 : decode cX1_greatestCostOnWay 21 = .ok (.iload_n 3, 1) := by decide +kernel
theorem dX1_greatestCostOnWay_22 : decode cX1_greatestCostOnWay 22 = .ok (.invokevirtual 31, 3) := by decide +kernel
theorem dX1_greatestCostOnWay_25 : decode cX1_greatestCostOnWay 25 = .ok (.getfield 124, 3) := by decide +kernel
theorem dX1_greatestCostOnWay_28 : decode cX1_greatestCostOnWay 28 = .ok (.invokestatic 107, 3) := by decide +kernel
theorem dX1_greatestCostOnWay_31 : decode cX1_greatestCostOnWay 31 = .ok (.istore_n 2, 1) := by decide +kernel
theorem dX1_greatestCostOnWay_32 : decode cX1_greatestCostOnWay 32 = .ok (.aload_n 0, 1) := by decide +kernel
theorem dX1_greatestCostOnWay_33 : decode cX1_greatestCostOnWay 33 = .ok (.iload_n 3, 1) := by decide +kernel
theorem dX1_greatestCostOnWay_34 : decode cX1_greatestCostOnWay 34 = .ok (.invokevirtual 31, 3) := by decide +kernel
theorem dX1_greatestCostOnWay_37 : decode cX1_greatestCostOnWay 37 = .ok (.getfield 54, 3) := by decide +kernel
theorem dX1_greatestCostOnWay_40 : decode cX1_greatestCostOnWay 40 = .ok (.istore_n 3, 1) := by decide +kernel
theorem dX1_greatestCostOnWay_41 : decode cX1_greatestCostOnWay 41 = .ok (.iinc 4 1, 3) := by decide +kernel
theorem dX1_greatestCostOnWay_44 : decode cX1_greatestCostOnWay 44 = .ok (.goto (-37), 3) := by decide +kernel
theorem dX1_greatestCostOnWay_47 : decode cX1_greatestCostOnWay 47 = .ok (.iload_n 2, 1) := by decide +kernel
theorem dX1_greatestCostOnWay_48 : decode cX1_greatestCostOnWay 48 = .ok (.ireturn, 1) := by decide +kernel
set_option maxRecDepth 20000 in
theorem ggX1_sumOfCostsOnWay_X1_slot : GoodIn wsX1_sumOfCostsOnWay wsX1_slot := goodIn_r _ [7, 8, 9, 10, 11, 12, 13, 14, 15, 16, 17, 18, 19, 20, 21, 22, 23, 24, 25, 26, 27, 28, 29, 41, 42, 43, 44, 45, 30, 31, 32, 33, 34, 35, 36, 37, 38, 39, 40] (by decide +kernel) (by decide +kernel)
set_option maxRecDepth 20000 in
theorem gX1_sumOfCostsOnWay_X1_slot : GoodIn wsX1_sumOfCostsOnWay (wsV RX1 31 RX1 yX1_slot wsX1_slot) := goodIn_app (goodIn_of _ (by decide +kernel)) ggX1_sumOfCostsOnWay_X1_slot
theorem dX1_sumOfCostsOnWay_0 : decode cX1_sumOfCostsOnWay 0 = .ok (.iconst 0, 1) := by decide +kernel
theorem dX1_sumOfCostsOnWay_1 : decode cX1_sumOfCostsOnWay 1 = .ok (.istore_n 2, 1) := by decide +kernel
theorem dX1_sumOfCostsOnWay_2 : decode cX1_sumOfCostsOnWay 2 = .ok (.iload_n 1, 1) := by decide +kernel
theorem dX1_sumOfCostsOnWay_3 : decode cX1_sumOfCostsOnWay 3 = .ok (.istore_n 3, 1) := by decide +kernel
theorem dX1_sumOfCostsOnWay_4 : decode cX1_sumOfCostsOnWay 4 = .ok (.iconst 0, 1) := by decide +kernel
theorem dX1_sumOfCostsOnWay_5 : decode cX1_sumOfCostsOnWay 5 = .ok (.istore 4, 2) := by decide +kernel
theorem dX1_sumOfCostsOnWay_7 : decode cX1_sumOfCostsOnWay 7 = .ok (.iload 4, 2) := by decide +kernel
theorem dX1_sumOfCostsOnWay_9 : decode cX1_sumOfCostsOnWay 9 = .ok (.bipush 100, 2) := by decide +kernel
theorem dX1_sumOfCostsOnWay_11 : decode cX1_sumOfCostsOnWay 11 = .ok (.if_icmp .ge 34, 3) := by decide +kernel
theorem dX1_sumOfCostsOnWay_14 : decode cX1_sumOfCostsOnWay 14 = .ok (.iload_n 3, 1) := by decide +kernel
theorem dX1_sumOfCostsOnWay_15 : decode cX1_sumOfCostsOnWay 15 = .ok (.iconst (-1), 1) := by decide +kernel
theorem dX1_sumOfCostsOnWay_16 : decode cX1_sumOfCostsOnWay 16 = .ok (.if_icmp .eq 29, 3) := by decide +kernel
theorem dX1_sumOfCostsOnWay_19 : decode cX1_sumOfCostsOnWay 19 = .ok (.iload_n 2, 1) := by decide +kernel
theorem dX1_sumOfCostsOnWay_20 : decode cX1_sumOfCostsOnWay 20 = .ok (.aload_n 0, 1) := by decide +kernel
theorem dX1_sumOfCostsOnWay_21 : decode cX1_sumOfCostsOnWay 21 = .ok (.iload_n 3, 1) := by decide +kernel
theorem dX1_sumOfCostsOnWay_22 : decode cX1_sumOfCostsOnWay 22 = .ok (.invokevirtual 31, 3) := by decide +kernel
theorem dX1_sumOfCostsOnWay_25 : decode cX1_sumOfCostsOnWay 25 = .ok (.getfield 124, 3) := by decide +kernel
theorem dX1_sumOfCostsOnWay_28 : decode cX1_sumOfCostsOnWay 28 = .ok (.iadd, 1) := by decide +kernel
theorem dX1_sumOfCostsOnWay_29 : decode cX1_sumOfCostsOnWay 29 = .ok (.istore_n 2, 1) := by decide +kernel
theorem dX1_sumOfCostsOnWay_30 : decode cX1_sumOfCostsOnWay 30 = .ok (.aload_n 0, 1) := by decide +kernel
theorem dX1_sumOfCostsOnWay_31 : decode cX1_sumOfCostsOnWay 31 = .ok (.iload_n 3, 1) := by decide +kernel
theorem dX1_sumOfCostsOnWay_32 : decode cX1_sumOfCostsOnWay 32 = .ok (.invokevirtual 31, 3) := by decide +kernel
theorem dX1_sumOfCostsOnWay_35 : decode cX1_sumOfCostsOnWay 35 = .ok (.getfield 54, 3) := by decide +kernel
theorem dX1_sumOfCostsOnWay_38 : decode cX1_sumOfCostsOnWay 38 = .ok (.istore_n 3, 1) := by decide +kernel
theorem dX1_sumOfCostsOnWay_39 : decode cX1_sumOfCostsOnWay 39 = .ok (.iinc 4 1, 3) := by decide +kernel
theorem dX1_sumOfCostsOnWay_42 : decode cX1_sumOfCostsOnWay 42 = .ok (.goto (-35), 3) := by decide +kernel
theorem dX1_sumOfCostsOnWay_45 : decode cX1_sumOfCostsOnWay 45 = .ok (.iload_n 2, 1) := by decide +kernel
theorem dX1_sumOfCostsOnWay_46 : decode cX1_sumOfCostsOnWay 46 = .ok (.ireturn, 1) := by decide +kernel
set_option maxRecDepth 20000 in
theorem ggX2_init_X3_init : GoodIn wsX2_init wsX3_init := goodIn_r _ [12, 13, 2, 3, 14, 15, 16, 17, 18, 19, 20, 21, 22, 23, 24, 25, 29, 30, 31, 32, 33, 34, 35, 36, 37, 38, 39] (by decide +kernel) (by decide +kernel)
set_option maxRecDepth 20000 in
theorem gX2_init_X3_init : GoodIn wsX2_init (wsX3_init) := ggX2_init_X3_init
theorem dX2_init_0 : decode cX2_init 0 = .ok (.aload_n 0, 1) := by decide +kernel
theorem dX2_init_1 : decode cX2_init 1 = .ok (.invokespecial 1, 3) := by decide +kernel
theorem dX2_init_4 : decode cX2_init 4 = .ok (.aload_n 0, 1) := by decide +kernel
theorem dX2_init_5 : decode cX2_init 5 = .ok (.iconst 0, 1) := by decide +kernel
theorem dX2_init_6 : decode cX2_init 6 = .ok (.putfield 7, 3) := by decide +kernel
theorem dX2_init_9 : decode cX2_init 9 = .ok (.aload_n 0, 1) := by decide +kernel
theorem dX2_init_10 : decode cX2_init 10 = .ok (.iconst 0, 1) := by decide +kernel
theorem dX2_init_11 : decode cX2_init 11 = .ok (.putfield 13, 3) := by decide +kernel
theorem dX2_init_14 : decode cX2_init 14 = .ok (.aload_n 0, 1) := by decide +kernel
theorem dX2_init_15 : decode cX2_init 15 = .ok (.new 16, 3) := by decide +kernel
theorem dX2_init_18 : decode cX2_init 18 = .ok (.dup, 1) := by decide +kernel
theorem dX2_init_19 : decode cX2_init 19 = .ok (.invokespecial 18, 3) := by decide +kernel
theorem dX2_init_22 : decode cX2_init 22 = .ok (.putfield 19, 3) := by decide +kernel
theorem dX2_init_25 : decode cX2_init 25 = .ok (.return_, 1) := by decide +kernel
set_option maxRecDepth 20000 in
theorem ggX2_play_X1_slot : GoodIn wsX2_play wsX1_slot := goodIn_r _ [19, 20, 21, 22, 23, 24, 25, 26, 27, 28, 29, 30, 31, 32, 33, 34, 35, 36, 37, 38, 39, 40, 41, 136, 137, 138, 139, 140, 141, 142, 143, 144, 145, 146, 147, 148, 149, 150, 151] (by decide +kernel) (by decide +kernel)
set_option maxRecDepth 20000 in
theorem gX2_play_X1_slot : GoodIn wsX2_play (wsV RX2 23 RX1 yX1_slot wsX1_slot) := goodIn_app (goodIn_of _ (by decide +kernel)) ggX2_play_X1_slot
set_option maxRecDepth 20000 in
theorem ggX2_play_X3_copyFrom : GoodIn wsX2_play wsX3_copyFrom := goodIn_r _ [45, 30, 31, 32, 33, 34, 35, 36, 37, 38, 39, 41, 46, 47, 48, 49, 50, 51, 52, 23, 53, 141, 142, 143, 144, 145, 146, 147, 148, 149, 150, 151] (by decide +kernel) (by decide +kernel)
set_option maxRecDepth 20000 in
theorem gX2_play_X3_copyFrom : GoodIn wsX2_play (wsV RX2 29 RX3 yX3_copyFrom wsX3_copyFrom) := goodIn_app (goodIn_of _ (by decide +kernel)) ggX2_play_X3_copyFrom
set_option maxRecDepth 20000 in
theorem ggX2_play_X1_left : GoodIn wsX2_play wsX1_left := goodIn_r _ [57, 58, 136, 137, 138, 139, 140] (by decide +kernel) (by decide +kernel)
set_option maxRecDepth 20000 in
theorem gX2_play_X1_left : GoodIn wsX2_play (wsV RX2 38 RX1 yX1_left wsX1_left) := goodIn_app (goodIn_of _ (by decide +kernel)) ggX2_play_X1_left
set_option maxRecDepth 20000 in
theorem ggX2_play_X0_actAt : GoodIn wsX2_play wsX0_actAt := goodIn_r _ [63, 64, 65, 66, 67, 128, 129, 130, 131, 132, 133, 134, 135] (by decide +kernel) (by decide +kernel)
set_option maxRecDepth 20000 in
theorem gX2_play_X0_actAt : GoodIn wsX2_play (wsV RX2 48 RX0 yX0_actAt wsX0_actAt) := goodIn_app (goodIn_of _ (by decide +kernel)) ggX2_play_X0_actAt
set_option maxRecDepth 20000 in
theorem ggX2_play_X3_permits : GoodIn wsX2_play wsX3_permits := goodIn_r _ [71, 72, 66, 73, 50, 51, 52, 23, 53, 34, 35, 141, 142, 143, 144, 145, 146, 147, 148, 149, 150, 151] (by decide +kernel) (by decide +kernel)
set_option maxRecDepth 20000 in
theorem gX2_play_X3_permits : GoodIn wsX2_play (wsV RX2 52 RX3 yX3_permits wsX3_permits) := goodIn_app (goodIn_of _ (by decide +kernel)) ggX2_play_X3_permits
set_option maxRecDepth 20000 in
theorem ggX2_play_X0_valueAt : GoodIn wsX2_play wsX0_valueAt := goodIn_r _ [77, 78, 65, 66, 67, 128, 129, 130, 131, 132, 133, 134, 135] (by decide +kernel) (by decide +kernel)
set_option maxRecDepth 20000 in
theorem gX2_play_X0_valueAt : GoodIn wsX2_play (wsV RX2 56 RX0 yX0_valueAt wsX0_valueAt) := goodIn_app (goodIn_of _ (by decide +kernel)) ggX2_play_X0_valueAt
set_option maxRecDepth 20000 in
theorem ggX2_play_X3_perform : GoodIn wsX2_play wsX3_perform := goodIn_r _ [82, 31, 33, 38, 39, 83, 66, 84, 72, 73, 85, 86, 87, 23, 88, 32, 41, 34, 35, 50, 51, 52, 53, 89, 90, 91, 92, 65, 67, 93, 94, 95, 96, 97, 98, 37, 99, 13, 7, 14, 100, 6, 8, 101, 102, 103, 104, 36, 105, 106, 107, 108, 109, 110, 111, 112, 113, 114, 115, 116, 117, 118, 119, 120, 121, 122, 123, 124, 141, 142, 143, 144, 145, 146, 147, 148, 149, 150, 151] (by decide +kernel) (by decide +kernel)
set_option maxRecDepth 20000 in
theorem gX2_play_X3_perform : GoodIn wsX2_play (wsV RX2 62 RX3 yX3_perform wsX3_perform) := goodIn_app (goodIn_of _ (by decide +kernel)) ggX2_play_X3_perform
theorem dX2_play_0 : decode cX2_play 0 = .ok (.aload_n 0, 1) := by decide +kernel
theorem dX2_play_1 : decode cX2_play 1 = .ok (.iconst 0, 1) := by decide +kernel
theorem dX2_play_2 : decode cX2_play 2 = .ok (.putfield 7, 3) := by decide +kernel
theorem dX2_play_5 : decode cX2_play 5 = .ok (.aload_n 0, 1) := by decide +kernel
theorem dX2_play_6 : decode cX2_play 6 = .ok (.iconst 0, 1) := by decide +kernel
theorem dX2_play_7 : decode cX2_play 7 = .ok (.putfield 13, 3) := by decide +kernel
theorem dX2_play_10 : decode cX2_play 10 = .ok (.aload_n 0, 1) := by decide +kernel
theorem dX2_play_11 : decode cX2_play 11 = .ok (.getfield 19, 3) := by decide +kernel
theorem dX2_play_14 : decode cX2_play 14 = .ok (.aload_n 2, 1) := by decide +kernel
theorem dX2_play_15 : decode cX2_play 15 = .ok (.iload_n 3, 1) := by decide +kernel
theorem dX2_play_16 : decode cX2_play 16 = .ok (.invokevirtual 23, 3) := by decide +kernel
theorem dX2_play_19 : decode cX2_play 19 = .ok (.invokevirtual 29, 3) := by decide +kernel
theorem dX2_play_22 : decode cX2_play 22 = .ok (.aload_n 1, 1) := by decide +kernel
theorem dX2_play_23 : decode cX2_play 23 = .ok (.getfield 33, 3) := by decide +kernel
theorem dX2_play_26 : decode cX2_play 26 = .ok (.aload_n 2, 1) := by decide +kernel
theorem dX2_play_27 : decode cX2_play 27 = .ok (.invokevirtual 38, 3) := by decide +kernel
theorem dX2_play_30 : decode cX2_play 30 = .ok (.invokestatic 42, 3) := by decide +kernel
theorem dX2_play_33 : decode cX2_play 33 = .ok (.istore 5, 2) := by decide +kernel
theorem dX2_play_35 : decode cX2_play 35 = .ok (.iconst 0, 1) := by decide +kernel
theorem dX2_play_36 : decode cX2_play 36 = .ok (.istore 6, 2) := by decide +kernel
theorem dX2_play_38 : decode cX2_play 38 = .ok (.iload 6, 2) := by decide +kernel
theorem dX2_play_40 : decode cX2_play 40 = .ok (.iload 5, 2) := by decide +kernel
theorem dX2_play_42 : decode cX2_play 42 = .ok (.if_icmp .ge 88, 3) := by decide +kernel
theorem dX2_play_45 : decode cX2_play 45 = .ok (.aload_n 0, 1) := by decide +kernel
theorem dX2_play_46 : decode cX2_play 46 = .ok (.getfield 19, 3) := by decide +kernel
theorem dX2_play_49 : decode cX2_play 49 = .ok (.aload_n 1, 1) := by decide +kernel
theorem dX2_play_50 : decode cX2_play 50 = .ok (.iload 6, 2) := by decide +kernel
theorem dX2_play_52 : decode cX2_play 52 = .ok (.invokevirtual 48, 3) := by decide +kernel
theorem dX2_play_55 : decode cX2_play 55 = .ok (.invokevirtual 52, 3) := by decide +kernel
theorem dX2_play_58 : decode cX2_play 58 = .ok (.ifCond .eq 72, 3) := by decide +kernel
theorem dX2_play_61 : decode cX2_play 61 = .ok (.aload_n 0, 1) := by decide +kernel
theorem dX2_play_62 : decode cX2_play 62 = .ok (.getfield 19, 3) := by decide +kernel
theorem dX2_play_65 : decode cX2_play 65 = .ok (.aload_n 1, 1) := by decide +kernel
theorem dX2_play_66 : decode cX2_play 66 = .ok (.iload 6, 2) := by decide +kernel
theorem dX2_play_68 : decode cX2_play 68 = .ok (.invokevirtual 48, 3) := by decide +kernel
theorem dX2_play_71 : decode cX2_play 71 = .ok (.aload_n 1, 1) := by decide +kernel
theorem dX2_play_72 : decode cX2_play 72 = .ok (.iload 6, 2) := by decide +kernel
theorem dX2_play_74 : decode cX2_play 74 = .ok (.invokevirtual 56, 3) := by decide +kernel
theorem dX2_play_77 : decode cX2_play 77 = .ok (.iload 4, 2) := by decide +kernel
theorem dX2_play_79 : decode cX2_play 79 = .ok (.aload_n 2, 1) := by decide +kernel
theorem dX2_play_80 : decode cX2_play 80 = .ok (.getfield 59, 3) := by decide +kernel
theorem dX2_play_83 : decode cX2_play 83 = .ok (.invokevirtual 62, 3) := by decide +kernel
theorem dX2_play_86 : decode cX2_play 86 = .ok (.aload_n 0, 1) := by decide +kernel
theorem dX2_play_87 : decode cX2_play 87 = .ok (.getfield 19, 3) := by decide +kernel
theorem dX2_play_90 : decode cX2_play 90 = .ok (.getfield 66, 3) := by decide +kernel
theorem dX2_play_93 : decode cX2_play 93 = .ok (.ifCond .le 13, 3) := by decide +kernel
theorem dX2_play_96 : decode cX2_play 96 = .ok (.aload_n 0, 1) := by decide +kernel
theorem dX2_play_97 : decode cX2_play 97 = .ok (.dup, 1) := by decide +kernel
theorem dX2_play_98 : decode cX2_play 98 = .ok (.getfield 7, 3) := by decide +kernel
theorem dX2_play_101 : decode cX2_play 101 = .ok (.iconst 1, 1) := by decide +kernel
theorem dX2_play_102 : decode cX2_play 102 = .ok (.iadd, 1) := by decide +kernel
theorem dX2_play_103 : decode cX2_play 103 = .ok (.putfield 7, 3) := by decide +kernel
theorem dX2_play_106 : decode cX2_play 106 = .ok (.aload_n 0, 1) := by decide +kernel
theorem dX2_play_107 : decode cX2_play 107 = .ok (.aload_n 0, 1) := by decide +kernel
theorem dX2_play_108 : decode cX2_play 108 = .ok (.getfield 13, 3) := by decide +kernel
theorem dX2_play_111 : decode cX2_play 111 = .ok (.aload_n 0, 1) := by decide +kernel
theorem dX2_play_112 : decode cX2_play 112 = .ok (.getfield 19, 3) := by decide +kernel
theorem dX2_play_115 : decode cX2_play 115 = .ok (.getfield 69, 3) := by decide +kernel
theorem dX2_play_118 : decode cX2_play 118 = .ok (.invokestatic 72, 3) := by decide +kernel
theorem dX2_play_121 : decode cX2_play 121 = .ok (.putfield 13, 3) := by decide +kernel
theorem dX2_play_124 : decode cX2_play 124 = .ok (.iinc 6 1, 3) := by decide +kernel
theorem dX2_play_127 : decode cX2_play 127 = .ok (.goto (-89), 3) := by decide +kernel
theorem dX2_play_130 : decode cX2_play 130 = .ok (.return_, 1) := by decide +kernel
theorem dX3_init_0 : decode cX3_init 0 = .ok (.aload_n 0, 1) := by decide +kernel
theorem dX3_init_1 : decode cX3_init 1 = .ok (.invokespecial 3, 3) := by decide +kernel
theorem dX3_init_4 : decode cX3_init 4 = .ok (.aload_n 0, 1) := by decide +kernel
theorem dX3_init_5 : decode cX3_init 5 = .ok (.iconst (-1), 1) := by decide +kernel
theorem dX3_init_6 : decode cX3_init 6 = .ok (.putfield 9, 3) := by decide +kernel
theorem dX3_init_9 : decode cX3_init 9 = .ok (.aload_n 0, 1) := by decide +kernel
theorem dX3_init_10 : decode cX3_init 10 = .ok (.iconst (-1), 1) := by decide +kernel
theorem dX3_init_11 : decode cX3_init 11 = .ok (.putfield 15, 3) := by decide +kernel
theorem dX3_init_14 : decode cX3_init 14 = .ok (.aload_n 0, 1) := by decide +kernel
theorem dX3_init_15 : decode cX3_init 15 = .ok (.iconst 0, 1) := by decide +kernel
theorem dX3_init_16 : decode cX3_init 16 = .ok (.putfield 18, 3) := by decide +kernel
theorem dX3_init_19 : decode cX3_init 19 = .ok (.aload_n 0, 1) := by decide +kernel
theorem dX3_init_20 : decode cX3_init 20 = .ok (.iconst 0, 1) := by decide +kernel
theorem dX3_init_21 : decode cX3_init 21 = .ok (.putfield 21, 3) := by decide +kernel
theorem dX3_init_24 : decode cX3_init 24 = .ok (.aload_n 0, 1) := by decide +kernel
theorem dX3_init_25 : decode cX3_init 25 = .ok (.iconst 0, 1) := by decide +kernel
theorem dX3_init_26 : decode cX3_init 26 = .ok (.putfield 24, 3) := by decide +kernel
theorem dX3_init_29 : decode cX3_init 29 = .ok (.aload_n 0, 1) := by decide +kernel
theorem dX3_init_30 : decode cX3_init 30 = .ok (.iconst 0, 1) := by decide +kernel
theorem dX3_init_31 : decode cX3_init 31 = .ok (.putfield 27, 3) := by decide +kernel
theorem dX3_init_34 : decode cX3_init 34 = .ok (.aload_n 0, 1) := by decide +kernel
theorem dX3_init_35 : decode cX3_init 35 = .ok (.iconst 0, 1) := by decide +kernel
theorem dX3_init_36 : decode cX3_init 36 = .ok (.putfield 30, 3) := by decide +kernel
theorem dX3_init_39 : decode cX3_init 39 = .ok (.aload_n 0, 1) := by decide +kernel
theorem dX3_init_40 : decode cX3_init 40 = .ok (.iconst (-1), 1) := by decide +kernel
theorem dX3_init_41 : decode cX3_init 41 = .ok (.putfield 33, 3) := by decide +kernel
theorem dX3_init_44 : decode cX3_init 44 = .ok (.aload_n 0, 1) := by decide +kernel
theorem dX3_init_45 : decode cX3_init 45 = .ok (.iconst 0, 1) := by decide +kernel
theorem dX3_init_46 : decode cX3_init 46 = .ok (.putfield 36, 3) := by decide +kernel
theorem dX3_init_49 : decode cX3_init 49 = .ok (.aload_n 0, 1) := by decide +kernel
theorem dX3_init_50 : decode cX3_init 50 = .ok (.iconst 0, 1) := by decide +kernel
theorem dX3_init_51 : decode cX3_init 51 = .ok (.putfield 39, 3) := by decide +kernel
theorem dX3_init_54 : decode cX3_init 54 = .ok (.aload_n 0, 1) := by decide +kernel
theorem dX3_init_55 : decode cX3_init 55 = .ok (.bipush 40, 2) := by decide +kernel
theorem dX3_init_57 : decode cX3_init 57 = .ok (.newarray .int, 2) := by decide +kernel
theorem dX3_init_59 : decode cX3_init 59 = .ok (.putfield 42, 3) := by decide +kernel
theorem dX3_init_62 : decode cX3_init 62 = .ok (.return_, 1) := by decide +kernel
set_option maxRecDepth 20000 in
theorem ggX3_copyFrom_X3_size : GoodIn wsX3_copyFrom wsX3_size := goodIn_r _ [20, 5, 6, 21, 22, 23, 24, 25, 26, 27, 28, 29, 30, 31] (by decide +kernel) (by decide +kernel)
set_option maxRecDepth 20000 in
theorem gX3_copyFrom_X3_size : GoodIn wsX3_copyFrom (wsV RX3 46 RX3 yX3_size wsX3_size) := goodIn_app (goodIn_of _ (by decide +kernel)) ggX3_copyFrom_X3_size
theorem dX3_copyFrom_0 : decode cX3_copyFrom 0 = .ok (.aload_n 0, 1) := by decide +kernel
theorem dX3_copyFrom_1 : decode cX3_copyFrom 1 = .ok (.aload_n 1, 1) := by decide +kernel
theorem dX3_copyFrom_2 : decode cX3_copyFrom 2 = .ok (.getfield 9, 3) := by decide +kernel
theorem dX3_copyFrom_5 : decode cX3_copyFrom 5 = .ok (.putfield 9, 3) := by decide +kernel
theorem dX3_copyFrom_8 : decode cX3_copyFrom 8 = .ok (.aload_n 0, 1) := by decide +kernel
theorem dX3_copyFrom_9 : decode cX3_copyFrom 9 = .ok (.aload_n 1, 1) := by decide +kernel
theorem dX3_copyFrom_10 : decode cX3_copyFrom 10 = .ok (.getfield 15, 3) := by decide +kernel
theorem dX3_copyFrom_13 : decode cX3_copyFrom 13 = .ok (.putfield 15, 3) := by decide +kernel
theorem dX3_copyFrom_16 : decode cX3_copyFrom 16 = .ok (.aload_n 0, 1) := by decide +kernel
theorem dX3_copyFrom_17 : decode cX3_copyFrom 17 = .ok (.aload_n 1, 1) := by decide +kernel
theorem dX3_copyFrom_18 : decode cX3_copyFrom 18 = .ok (.getfield 18, 3) := by decide +kernel
theorem dX3_copyFrom_21 : decode cX3_copyFrom 21 = .ok (.putfield 18, 3) := by decide +kernel
theorem dX3_copyFrom_24 : decode cX3_copyFrom 24 = .ok (.aload_n 0, 1) := by decide +kernel
theorem dX3_copyFrom_25 : decode cX3_copyFrom 25 = .ok (.aload_n 1, 1) := by decide +kernel
theorem dX3_copyFrom_26 : decode cX3_copyFrom 26 = .ok (.getfield 21, 3) := by decide +kernel
theorem dX3_copyFrom_29 : decode cX3_copyFrom 29 = .ok (.putfield 21, 3) := by decide +kernel
theorem dX3_copyFrom_32 : decode cX3_copyFrom 32 = .ok (.aload_n 0, 1) := by decide +kernel
theorem dX3_copyFrom_33 : decode cX3_copyFrom 33 = .ok (.aload_n 1, 1) := by decide +kernel
theorem dX3_copyFrom_34 : decode cX3_copyFrom 34 = .ok (.getfield 24, 3) := by decide +kernel
theorem dX3_copyFrom_37 : decode cX3_copyFrom 37 = .ok (.putfield 24, 3) := by decide +kernel
theorem dX3_copyFrom_40 : decode cX3_copyFrom 40 = .ok (.aload_n 0, 1) := by decide +kernel
theorem dX3_copyFrom_41 : decode cX3_copyFrom 41 = .ok (.aload_n 1, 1) := by decide +kernel
theorem dX3_copyFrom_42 : decode cX3_copyFrom 42 = .ok (.getfield 27, 3) := by decide +kernel
theorem dX3_copyFrom_45 : decode cX3_copyFrom 45 = .ok (.putfield 27, 3) := by decide +kernel
theorem dX3_copyFrom_48 : decode cX3_copyFrom 48 = .ok (.aload_n 0, 1) := by decide +kernel
theorem dX3_copyFrom_49 : decode cX3_copyFrom 49 = .ok (.aload_n 1, 1) := by decide +kernel
theorem dX3_copyFrom_50 : decode cX3_copyFrom 50 = .ok (.getfield 30, 3) := by decide +kernel
theorem dX3_copyFrom_53 : decode cX3_copyFrom 53 = .ok (.putfield 30, 3) := by decide +kernel
theorem dX3_copyFrom_56 : decode cX3_copyFrom 56 = .ok (.aload_n 0, 1) := by decide +kernel
theorem dX3_copyFrom_57 : decode cX3_copyFrom 57 = .ok (.aload_n 1, 1) := by decide +kernel
theorem dX3_copyFrom_58 : decode cX3_copyFrom 58 = .ok (.getfield 33, 3) := by decide +kernel
theorem dX3_copyFrom_61 : decode cX3_copyFrom 61 = .ok (.putfield 33, 3) := by decide +kernel
theorem dX3_copyFrom_64 : decode cX3_copyFrom 64 = .ok (.aload_n 0, 1) := by decide +kernel
theorem dX3_copyFrom_65 : decode cX3_copyFrom 65 = .ok (.aload_n 1, 1) := by decide +kernel
theorem dX3_copyFrom_66 : decode cX3_copyFrom 66 = .ok (.getfield 36, 3) := by decide +kernel
theorem dX3_copyFrom_69 : decode cX3_copyFrom 69 = .ok (.putfield 36, 3) := by decide +kernel
theorem dX3_copyFrom_72 : decode cX3_copyFrom 72 = .ok (.aload_n 0, 1) := by decide +kernel
theorem dX3_copyFrom_73 : decode cX3_copyFrom 73 = .ok (.aload_n 1, 1) := by decide +kernel
theorem dX3_copyFrom_74 : decode cX3_copyFrom 74 = .ok (.getfield 39, 3) := by decide +kernel
theorem dX3_copyFrom_77 : decode cX3_copyFrom 77 = .ok (.putfield 39, 3) := by decide +kernel
theorem dX3_copyFrom_80 : decode cX3_copyFrom 80 = .ok (.aload_n 1, 1) := by decide +kernel
theorem dX3_copyFrom_81 : decode cX3_copyFrom 81 = .ok (.invokevirtual 46, 3) := by decide +kernel
theorem dX3_copyFrom_84 : decode cX3_copyFrom 84 = .ok (.istore_n 2, 1) := by decide +kernel
theorem dX3_copyFrom_85 : decode cX3_copyFrom 85 = .ok (.iload_n 2, 1) := by decide +kernel
theorem dX3_copyFrom_86 : decode cX3_copyFrom 86 = .ok (.ifCond .lt 35, 3) := by decide +kernel
theorem dX3_copyFrom_89 : decode cX3_copyFrom 89 = .ok (.iload_n 2, 1) := by decide +kernel
theorem dX3_copyFrom_90 : decode cX3_copyFrom 90 = .ok (.aload_n 0, 1) := by decide +kernel
theorem dX3_copyFrom_91 : decode cX3_copyFrom 91 = .ok (.getfield 42, 3) := by decide +kernel
theorem dX3_copyFrom_94 : decode cX3_copyFrom 94 = .ok (.arraylength, 1) := by decide +kernel
theorem dX3_copyFrom_95 : decode cX3_copyFrom 95 = .ok (.if_icmp .gt 26, 3) := by decide +kernel
theorem dX3_copyFrom_98 : decode cX3_copyFrom 98 = .ok (.iload_n 2, 1) := by decide +kernel
theorem dX3_copyFrom_99 : decode cX3_copyFrom 99 = .ok (.aload_n 1, 1) := by decide +kernel
theorem dX3_copyFrom_100 : decode cX3_copyFrom 100 = .ok (.getfield 42, 3) := by decide +kernel
theorem dX3_copyFrom_103 : decode cX3_copyFrom 103 = .ok (.arraylength, 1) := by decide +kernel
theorem dX3_copyFrom_104 : decode cX3_copyFrom 104 = .ok (.if_icmp .gt 17, 3) := by decide +kernel
theorem dX3_copyFrom_107 : decode cX3_copyFrom 107 = .ok (.aload_n 1, 1) := by decide +kernel
theorem dX3_copyFrom_108 : decode cX3_copyFrom 108 = .ok (.getfield 42, 3) := by decide +kernel
theorem dX3_copyFrom_111 : decode cX3_copyFrom 111 = .ok (.iconst 0, 1) := by decide +kernel
theorem dX3_copyFrom_112 : decode cX3_copyFrom 112 = .ok (.aload_n 0, 1) := by decide +kernel
theorem dX3_copyFrom_113 : decode cX3_copyFrom 113 = .ok (.getfield 42, 3) := by decide +kernel
theorem dX3_copyFrom_116 : decode cX3_copyFrom 116 = .ok (.iconst 0, 1) := by decide +kernel
theorem dX3_copyFrom_117 : decode cX3_copyFrom 117 = .ok (.iload_n 2, 1) := by decide +kernel
theorem dX3_copyFrom_118 : decode cX3_copyFrom 118 = .ok (.invokestatic 50, 3) := by decide +kernel
theorem dX3_copyFrom_121 : decode cX3_copyFrom 121 = .ok (.return_, 1) := by decide +kernel
theorem dX3_size_0 : decode cX3_size 0 = .ok (.aload_n 0, 1) := by decide +kernel
theorem dX3_size_1 : decode cX3_size 1 = .ok (.getfield 24, 3) := by decide +kernel
theorem dX3_size_4 : decode cX3_size 4 = .ok (.aload_n 0, 1) := by decide +kernel
theorem dX3_size_5 : decode cX3_size 5 = .ok (.getfield 27, 3) := by decide +kernel
theorem dX3_size_8 : decode cX3_size 8 = .ok (.iadd, 1) := by decide +kernel
theorem dX3_size_9 : decode cX3_size 9 = .ok (.ireturn, 1) := by decide +kernel
set_option maxRecDepth 20000 in
theorem ggX3_look_X4_cell : GoodIn wsX3_look wsX4_cell := goodIn_r _ [4] (by decide +kernel) (by decide +kernel)
set_option maxRecDepth 20000 in
theorem gX3_look_X4_cell_n56 : GoodIn wsX3_look (wsX4_cell) := ggX3_look_X4_cell
theorem dX3_look_0 : decode cX3_look 0 = .ok (.aload_n 0, 1) := by decide +kernel
theorem dX3_look_1 : decode cX3_look 1 = .ok (.getfield 42, 3) := by decide +kernel
theorem dX3_look_4 : decode cX3_look 4 = .ok (.iload_n 1, 1) := by decide +kernel
theorem dX3_look_5 : decode cX3_look 5 = .ok (.invokestatic 56, 3) := by decide +kernel
theorem dX3_look_8 : decode cX3_look 8 = .ok (.ireturn, 1) := by decide +kernel
theorem dX3_isRebuilding_0 : decode cX3_isRebuilding 0 = .ok (.aload_n 0, 1) := by decide +kernel
theorem dX3_isRebuilding_1 : decode cX3_isRebuilding 1 = .ok (.getfield 30, 3) := by decide +kernel
theorem dX3_isRebuilding_4 : decode cX3_isRebuilding 4 = .ok (.ifCond .le 7, 3) := by decide +kernel
theorem dX3_isRebuilding_7 : decode cX3_isRebuilding 7 = .ok (.iconst 1, 1) := by decide +kernel
theorem dX3_isRebuilding_8 : decode cX3_isRebuilding 8 = .ok (.goto 4, 3) := by decide +kernel
theorem dX3_isRebuilding_11 : decode cX3_isRebuilding 11 = .ok (.iconst 0, 1) := by decide +kernel
theorem dX3_isRebuilding_12 : decode cX3_isRebuilding 12 = .ok (.ireturn, 1) := by decide +kernel
set_option maxRecDepth 20000 in
theorem ggX3_fact_X3_size : GoodIn wsX3_fact wsX3_size := goodIn_r _ [14, 2, 3, 15, 16, 17, 18, 19, 20, 21, 22, 23, 24, 25] (by decide +kernel) (by decide +kernel)
set_option maxRecDepth 20000 in
theorem gX3_fact_X3_size : GoodIn wsX3_fact (wsV RX3 46 RX3 yX3_size wsX3_size) := goodIn_app (goodIn_of _ (by decide +kernel)) ggX3_fact_X3_size
theorem dX3_fact_0 : decode cX3_fact 0 = .ok (.iload_n 1, 1) := by decide +kernel
theorem dX3_fact_1 : decode cX3_fact 1 = .ok (.tableswitch 105 0 9 #[55, 60, 65, 70, 75, 80, 85, 90, 95, 100], 55) := by decide +kernel
theorem dX3_fact_56 : decode cX3_fact 56 = .ok (.aload_n 0, 1) := by decide +kernel
theorem dX3_fact_57 : decode cX3_fact 57 = .ok (.getfield 9, 3) := by decide +kernel
theorem dX3_fact_60 : decode cX3_fact 60 = .ok (.ireturn, 1) := by decide +kernel
theorem dX3_fact_61 : decode cX3_fact 61 = .ok (.aload_n 0, 1) := by decide +kernel
theorem dX3_fact_62 : decode cX3_fact 62 = .ok (.invokevirtual 46, 3) := by decide +kernel
theorem dX3_fact_65 : decode cX3_fact 65 = .ok (.ireturn, 1) := by decide +kernel
theorem dX3_fact_66 : decode cX3_fact 66 = .ok (.aload_n 0, 1) := by decide +kernel
theorem dX3_fact_67 : decode cX3_fact 67 = .ok (.getfield 24, 3) := by decide +kernel
theorem dX3_fact_70 : decode cX3_fact 70 = .ok (.ireturn, 1) := by decide +kernel
theorem dX3_fact_71 : decode cX3_fact 71 = .ok (.aload_n 0, 1) := by decide +kernel
theorem dX3_fact_72 : decode cX3_fact 72 = .ok (.getfield 27, 3) := by decide +kernel
theorem dX3_fact_75 : decode cX3_fact 75 = .ok (.ireturn, 1) := by decide +kernel
theorem dX3_fact_76 : decode cX3_fact 76 = .ok (.aload_n 0, 1) := by decide +kernel
theorem dX3_fact_77 : decode cX3_fact 77 = .ok (.getfield 30, 3) := by decide +kernel
theorem dX3_fact_80 : decode cX3_fact 80 = .ok (.ireturn, 1) := by decide +kernel
theorem dX3_fact_81 : decode cX3_fact 81 = .ok (.aload_n 0, 1) := by decide +kernel
theorem dX3_fact_82 : decode cX3_fact 82 = .ok (.getfield 33, 3) := by decide +kernel
theorem dX3_fact_85 : decode cX3_fact 85 = .ok (.ireturn, 1) := by decide +kernel
theorem dX3_fact_86 : decode cX3_fact 86 = .ok (.aload_n 0, 1) := by decide +kernel
theorem dX3_fact_87 : decode cX3_fact 87 = .ok (.getfield 36, 3) := by decide +kernel
theorem dX3_fact_90 : decode cX3_fact 90 = .ok (.ireturn, 1) := by decide +kernel
theorem dX3_fact_91 : decode cX3_fact 91 = .ok (.aload_n 0, 1) := by decide +kernel
theorem dX3_fact_92 : decode cX3_fact 92 = .ok (.getfield 39, 3) := by decide +kernel
theorem dX3_fact_95 : decode cX3_fact 95 = .ok (.ireturn, 1) := by decide +kernel
theorem dX3_fact_96 : decode cX3_fact 96 = .ok (.aload_n 0, 1) := by decide +kernel
theorem dX3_fact_97 : decode cX3_fact 97 = .ok (.getfield 15, 3) := by decide +kernel
theorem dX3_fact_100 : decode cX3_fact 100 = .ok (.ireturn, 1) := by decide +kernel
theorem dX3_fact_101 : decode cX3_fact 101 = .ok (.aload_n 0, 1) := by decide +kernel
theorem dX3_fact_102 : decode cX3_fact 102 = .ok (.getfield 21, 3) := by decide +kernel
theorem dX3_fact_105 : decode cX3_fact 105 = .ok (.ireturn, 1) := by decide +kernel
theorem dX3_fact_106 : decode cX3_fact 106 = .ok (.iconst (-1), 1) := by decide +kernel
theorem dX3_fact_107 : decode cX3_fact 107 = .ok (.ireturn, 1) := by decide +kernel
set_option maxRecDepth 20000 in
theorem ggX3_hasRowOf_X3_size : GoodIn wsX3_hasRowOf wsX3_size := goodIn_r _ [5, 6, 7, 16, 17, 18, 19, 20, 21, 22, 23, 24, 25, 26] (by decide +kernel) (by decide +kernel)
set_option maxRecDepth 20000 in
theorem gX3_hasRowOf_X3_size : GoodIn wsX3_hasRowOf (wsV RX3 46 RX3 yX3_size wsX3_size) := goodIn_app (goodIn_of _ (by decide +kernel)) ggX3_hasRowOf_X3_size
set_option maxRecDepth 20000 in
theorem ggX3_hasRowOf_X3_look : GoodIn wsX3_hasRowOf wsX3_look := goodIn_r _ [11, 12, 13, 14, 15, 16, 17, 18, 19, 20, 21, 22, 23, 24, 25, 26] (by decide +kernel) (by decide +kernel)
set_option maxRecDepth 20000 in
theorem gX3_hasRowOf_X3_look : GoodIn wsX3_hasRowOf (wsV RX3 60 RX3 yX3_look wsX3_look) := goodIn_app (goodIn_of _ (by decide +kernel)) ggX3_hasRowOf_X3_look
theorem dX3_hasRowOf_0 : decode cX3_hasRowOf 0 = .ok (.aload_n 0, 1) := by decide +kernel
theorem dX3_hasRowOf_1 : decode cX3_hasRowOf 1 = .ok (.invokevirtual 46, 3) := by decide +kernel
theorem dX3_hasRowOf_4 : decode cX3_hasRowOf 4 = .ok (.istore_n 2, 1) := by decide +kernel
theorem dX3_hasRowOf_5 : decode cX3_hasRowOf 5 = .ok (.iload_n 2, 1) := by decide +kernel
theorem dX3_hasRowOf_6 : decode cX3_hasRowOf 6 = .ok (.aload_n 1, 1) := by decide +kernel
theorem dX3_hasRowOf_7 : decode cX3_hasRowOf 7 = .ok (.invokevirtual 46, 3) := by decide +kernel
theorem dX3_hasRowOf_10 : decode cX3_hasRowOf 10 = .ok (.if_icmp .eq 5, 3) := by decide +kernel
theorem dX3_hasRowOf_13 : decode cX3_hasRowOf 13 = .ok (.iconst 0, 1) := by decide +kernel
theorem dX3_hasRowOf_14 : decode cX3_hasRowOf 14 = .ok (.ireturn, 1) := by decide +kernel
theorem dX3_hasRowOf_15 : decode cX3_hasRowOf 15 = .ok (.iconst 0, 1) := by decide +kernel
theorem dX3_hasRowOf_16 : decode cX3_hasRowOf 16 = .ok (.istore_n 3, 1) := by decide +kernel
theorem dX3_hasRowOf_17 : decode cX3_hasRowOf 17 = .ok (.iload_n 3, 1) := by decide +kernel
theorem dX3_hasRowOf_18 : decode cX3_hasRowOf 18 = .ok (.iload_n 2, 1) := by decide +kernel
theorem dX3_hasRowOf_19 : decode cX3_hasRowOf 19 = .ok (.if_icmp .ge 24, 3) := by decide +kernel
theorem dX3_hasRowOf_22 : decode cX3_hasRowOf 22 = .ok (.aload_n 0, 1) := by decide +kernel
theorem dX3_hasRowOf_23 : decode cX3_hasRowOf 23 = .ok (.iload_n 3, 1) := by decide +kernel
theorem dX3_hasRowOf_24 : decode cX3_hasRowOf 24 = .ok (.invokevirtual 60, 3) := by decide +kernel
theorem dX3_hasRowOf_27 : decode cX3_hasRowOf 27 = .ok (.aload_n 1, 1) := by decide +kernel
theorem dX3_hasRowOf_28 : decode cX3_hasRowOf 28 = .ok (.iload_n 3, 1) := by decide +kernel
theorem dX3_hasRowOf_29 : decode cX3_hasRowOf 29 = .ok (.invokevirtual 60, 3) := by decide +kernel
theorem dX3_hasRowOf_32 : decode cX3_hasRowOf 32 = .ok (.if_icmp .eq 5, 3) := by decide +kernel
theorem dX3_hasRowOf_35 : decode cX3_hasRowOf 35 = .ok (.iconst 0, 1) := by decide +kernel
theorem dX3_hasRowOf_36 : decode cX3_hasRowOf 36 = .ok (.ireturn, 1) := by decide +kernel
theorem dX3_hasRowOf_37 : decode cX3_hasRowOf 37 = .ok (.iinc 3 1, 3) := by decide +kernel
theorem dX3_hasRowOf_40 : decode cX3_hasRowOf 40 = .ok (.goto (-23), 3) := by decide +kernel
theorem dX3_hasRowOf_43 : decode cX3_hasRowOf 43 = .ok (.iconst 1, 1) := by decide +kernel
theorem dX3_hasRowOf_44 : decode cX3_hasRowOf 44 = .ok (.ireturn, 1) := by decide +kernel
set_option maxRecDepth 20000 in
theorem ggX3_permits_X4_isPush : GoodIn wsX3_permits wsX4_isPush := goodIn_r _ [3] (by decide +kernel) (by decide +kernel)
set_option maxRecDepth 20000 in
theorem gX3_permits_X4_isPush_n64 : GoodIn wsX3_permits (wsX4_isPush) := ggX3_permits_X4_isPush
set_option maxRecDepth 20000 in
theorem ggX3_permits_X3_size : GoodIn wsX3_permits wsX3_size := goodIn_r _ [8, 9, 10, 11, 12, 13, 14, 15, 16, 17, 18, 19, 20, 21] (by decide +kernel) (by decide +kernel)
set_option maxRecDepth 20000 in
theorem gX3_permits_X3_size : GoodIn wsX3_permits (wsV RX3 46 RX3 yX3_size wsX3_size) := goodIn_app (goodIn_of _ (by decide +kernel)) ggX3_permits_X3_size
theorem dX3_permits_0 : decode cX3_permits 0 = .ok (.iload_n 1, 1) := by decide +kernel
theorem dX3_permits_1 : decode cX3_permits 1 = .ok (.invokestatic 64, 3) := by decide +kernel
theorem dX3_permits_4 : decode cX3_permits 4 = .ok (.ifCond .eq 20, 3) := by decide +kernel
theorem dX3_permits_7 : decode cX3_permits 7 = .ok (.aload_n 0, 1) := by decide +kernel
theorem dX3_permits_8 : decode cX3_permits 8 = .ok (.invokevirtual 46, 3) := by decide +kernel
theorem dX3_permits_11 : decode cX3_permits 11 = .ok (.bipush 40, 2) := by decide +kernel
theorem dX3_permits_13 : decode cX3_permits 13 = .ok (.if_icmp .ge 7, 3) := by decide +kernel
theorem dX3_permits_16 : decode cX3_permits 16 = .ok (.iconst 1, 1) := by decide +kernel
theorem dX3_permits_17 : decode cX3_permits 17 = .ok (.goto 19, 3) := by decide +kernel
theorem dX3_permits_20 : decode cX3_permits 20 = .ok (.iconst 0, 1) := by decide +kernel
theorem dX3_permits_21 : decode cX3_permits 21 = .ok (.goto 15, 3) := by decide +kernel
theorem dX3_permits_24 : decode cX3_permits 24 = .ok (.aload_n 0, 1) := by decide +kernel
theorem dX3_permits_25 : decode cX3_permits 25 = .ok (.invokevirtual 46, 3) := by decide +kernel
theorem dX3_permits_28 : decode cX3_permits 28 = .ok (.ifCond .le 7, 3) := by decide +kernel
theorem dX3_permits_31 : decode cX3_permits 31 = .ok (.iconst 1, 1) := by decide +kernel
theorem dX3_permits_32 : decode cX3_permits 32 = .ok (.goto 4, 3) := by decide +kernel
theorem dX3_permits_35 : decode cX3_permits 35 = .ok (.iconst 0, 1) := by decide +kernel
theorem dX3_permits_36 : decode cX3_permits 36 = .ok (.ireturn, 1) := by decide +kernel
set_option maxRecDepth 20000 in
theorem ggX3_perform_X4_isAtFront : GoodIn wsX3_perform wsX4_isAtFront := goodIn_r _ [7] (by decide +kernel) (by decide +kernel)
set_option maxRecDepth 20000 in
theorem gX3_perform_X4_isAtFront_n68 : GoodIn wsX3_perform (wsX4_isAtFront) := ggX3_perform_X4_isAtFront
set_option maxRecDepth 20000 in
theorem ggX3_perform_X4_isPush : GoodIn wsX3_perform wsX4_isPush := goodIn_r _ [9] (by decide +kernel) (by decide +kernel)
set_option maxRecDepth 20000 in
theorem gX3_perform_X4_isPush_n64 : GoodIn wsX3_perform (wsX4_isPush) := ggX3_perform_X4_isPush
set_option maxRecDepth 20000 in
theorem ggX3_perform_X3_put : GoodIn wsX3_perform wsX3_put := goodIn_r _ [14, 15, 16, 17, 18, 19, 20, 21, 13, 22, 23, 24, 25, 26, 27, 6, 28, 29, 30, 31, 32, 33, 34, 35, 36, 37, 38, 39, 40, 41, 42, 43, 44, 45, 46, 47, 68, 69, 70, 71, 72, 73, 74, 75, 76, 77, 78] (by decide +kernel) (by decide +kernel)
set_option maxRecDepth 20000 in
theorem gX3_perform_X3_put : GoodIn wsX3_perform (wsV RX3 71 RX3 yX3_put wsX3_put) := goodIn_app (goodIn_of _ (by decide +kernel)) ggX3_perform_X3_put
set_option maxRecDepth 20000 in
theorem ggX3_perform_X3_fetchFromOtherPart : GoodIn wsX3_perform wsX3_fetchFromOtherPart := goodIn_r _ [51, 17, 18, 4, 47, 3, 43, 44, 45, 13, 46, 52, 53, 54, 55, 35, 19, 20, 21, 22, 68, 69, 70, 71, 72, 73, 74, 75, 76, 77, 78] (by decide +kernel) (by decide +kernel)
set_option maxRecDepth 20000 in
theorem gX3_perform_X3_fetchFromOtherPart : GoodIn wsX3_perform (wsV RX3 75 RX3 yX3_fetchFromOtherPart wsX3_fetchFromOtherPart) := goodIn_app (goodIn_of _ (by decide +kernel)) ggX3_perform_X3_fetchFromOtherPart
set_option maxRecDepth 20000 in
theorem ggX3_perform_X3_take : GoodIn wsX3_perform wsX3_take := goodIn_r _ [59, 15, 16, 17, 18, 19, 20, 21, 13, 22, 23, 24, 25, 26, 27, 6, 28, 29, 30, 31, 32, 33, 34, 35, 36, 37, 38, 39, 40, 41, 42, 43, 44, 45, 46, 47, 68, 69, 70, 71, 72, 73, 74, 75, 76, 77, 78] (by decide +kernel) (by decide +kernel)
set_option maxRecDepth 20000 in
theorem gX3_perform_X3_take : GoodIn wsX3_perform (wsV RX3 79 RX3 yX3_take wsX3_take) := goodIn_app (goodIn_of _ (by decide +kernel)) ggX3_perform_X3_take
set_option maxRecDepth 20000 in
theorem ggX3_perform_X3_pay : GoodIn wsX3_perform wsX3_pay := goodIn_r _ [63, 47, 40, 41, 38, 42, 3, 43, 44, 45, 13, 46, 52, 53, 54, 55, 35, 17, 18, 19, 20, 21, 22, 68, 69, 70, 71, 72, 73, 74, 75, 76, 77, 78] (by decide +kernel) (by decide +kernel)
set_option maxRecDepth 20000 in
theorem gX3_perform_X3_pay : GoodIn wsX3_perform (wsV RX3 82 RX3 yX3_pay wsX3_pay) := goodIn_app (goodIn_of _ (by decide +kernel)) ggX3_perform_X3_pay
set_option maxRecDepth 20000 in
theorem ggX3_perform_X3_beginRebuild : GoodIn wsX3_perform wsX3_beginRebuild := goodIn_r _ [67, 17, 18, 36, 37, 38, 39, 40, 41, 42, 47, 35, 43, 44, 45, 13, 46, 19, 20, 21, 22, 68, 69, 70, 71, 72, 73, 74, 75, 76, 77, 78] (by decide +kernel) (by decide +kernel)
set_option maxRecDepth 20000 in
theorem gX3_perform_X3_beginRebuild : GoodIn wsX3_perform (wsV RX3 86 RX3 yX3_beginRebuild wsX3_beginRebuild) := goodIn_app (goodIn_of _ (by decide +kernel)) ggX3_perform_X3_beginRebuild
theorem dX3_perform_0 : decode cX3_perform 0 = .ok (.aload_n 0, 1) := by decide +kernel
theorem dX3_perform_1 : decode cX3_perform 1 = .ok (.iload_n 1, 1) := by decide +kernel
theorem dX3_perform_2 : decode cX3_perform 2 = .ok (.putfield 15, 3) := by decide +kernel
theorem dX3_perform_5 : decode cX3_perform 5 = .ok (.aload_n 0, 1) := by decide +kernel
theorem dX3_perform_6 : decode cX3_perform 6 = .ok (.dup, 1) := by decide +kernel
theorem dX3_perform_7 : decode cX3_perform 7 = .ok (.getfield 21, 3) := by decide +kernel
theorem dX3_perform_10 : decode cX3_perform 10 = .ok (.iconst 1, 1) := by decide +kernel
theorem dX3_perform_11 : decode cX3_perform 11 = .ok (.iadd, 1) := by decide +kernel
theorem dX3_perform_12 : decode cX3_perform 12 = .ok (.putfield 21, 3) := by decide +kernel
theorem dX3_perform_15 : decode cX3_perform 15 = .ok (.aload_n 0, 1) := by decide +kernel
theorem dX3_perform_16 : decode cX3_perform 16 = .ok (.iconst 0, 1) := by decide +kernel
theorem dX3_perform_17 : decode cX3_perform 17 = .ok (.putfield 36, 3) := by decide +kernel
theorem dX3_perform_20 : decode cX3_perform 20 = .ok (.aload_n 0, 1) := by decide +kernel
theorem dX3_perform_21 : decode cX3_perform 21 = .ok (.iconst 0, 1) := by decide +kernel
theorem dX3_perform_22 : decode cX3_perform 22 = .ok (.putfield 39, 3) := by decide +kernel
theorem dX3_perform_25 : decode cX3_perform 25 = .ok (.iload_n 1, 1) := by decide +kernel
theorem dX3_perform_26 : decode cX3_perform 26 = .ok (.invokestatic 68, 3) := by decide +kernel
theorem dX3_perform_29 : decode cX3_perform 29 = .ok (.istore 5, 2) := by decide +kernel
theorem dX3_perform_31 : decode cX3_perform 31 = .ok (.iload_n 1, 1) := by decide +kernel
theorem dX3_perform_32 : decode cX3_perform 32 = .ok (.invokestatic 64, 3) := by decide +kernel
theorem dX3_perform_35 : decode cX3_perform 35 = .ok (.ifCond .eq 13, 3) := by decide +kernel
theorem dX3_perform_38 : decode cX3_perform 38 = .ok (.aload_n 0, 1) := by decide +kernel
theorem dX3_perform_39 : decode cX3_perform 39 = .ok (.iload_n 2, 1) := by decide +kernel
theorem dX3_perform_40 : decode cX3_perform 40 = .ok (.iload 5, 2) := by decide +kernel
theorem dX3_perform_42 : decode cX3_perform 42 = .ok (.invokevirtual 71, 3) := by decide +kernel
theorem dX3_perform_45 : decode cX3_perform 45 = .ok (.goto 15, 3) := by decide +kernel
theorem dX3_perform_48 : decode cX3_perform 48 = .ok (.aload_n 0, 1) := by decide +kernel
theorem dX3_perform_49 : decode cX3_perform 49 = .ok (.iload 5, 2) := by decide +kernel
theorem dX3_perform_51 : decode cX3_perform 51 = .ok (.invokevirtual 75, 3) := by decide +kernel
theorem dX3_perform_54 : decode cX3_perform 54 = .ok (.aload_n 0, 1) := by decide +kernel
theorem dX3_perform_55 : decode cX3_perform 55 = .ok (.iload 5, 2) := by decide +kernel
theorem dX3_perform_57 : decode cX3_perform 57 = .ok (.invokevirtual 79, 3) := by decide +kernel
theorem dX3_perform_60 : decode cX3_perform 60 = .ok (.aload_n 0, 1) := by decide +kernel
theorem dX3_perform_61 : decode cX3_perform 61 = .ok (.dup, 1) := by decide +kernel
theorem dX3_perform_62 : decode cX3_perform 62 = .ok (.getfield 36, 3) := by decide +kernel
theorem dX3_perform_65 : decode cX3_perform 65 = .ok (.iconst 1, 1) := by decide +kernel
theorem dX3_perform_66 : decode cX3_perform 66 = .ok (.iadd, 1) := by decide +kernel
theorem dX3_perform_67 : decode cX3_perform 67 = .ok (.putfield 36, 3) := by decide +kernel
theorem dX3_perform_70 : decode cX3_perform 70 = .ok (.aload_n 0, 1) := by decide +kernel
theorem dX3_perform_71 : decode cX3_perform 71 = .ok (.iload_n 3, 1) := by decide +kernel
theorem dX3_perform_72 : decode cX3_perform 72 = .ok (.invokevirtual 82, 3) := by decide +kernel
theorem dX3_perform_75 : decode cX3_perform 75 = .ok (.aload_n 0, 1) := by decide +kernel
theorem dX3_perform_76 : decode cX3_perform 76 = .ok (.iload 4, 2) := by decide +kernel
theorem dX3_perform_78 : decode cX3_perform 78 = .ok (.invokevirtual 86, 3) := by decide +kernel
theorem dX3_perform_81 : decode cX3_perform 81 = .ok (.return_, 1) := by decide +kernel
set_option maxRecDepth 20000 in
theorem ggX3_fetchFromOtherPart_X3_isRebuilding : GoodIn wsX3_fetchFromOtherPart wsX3_isRebuilding := goodIn_r _ [10, 4, 20, 21, 22, 23, 24, 25, 26, 27, 28, 29, 30] (by decide +kernel) (by decide +kernel)
set_option maxRecDepth 20000 in
theorem gX3_fetchFromOtherPart_X3_isRebuilding : GoodIn wsX3_fetchFromOtherPart (wsV RX3 89 RX3 yX3_isRebuilding wsX3_isRebuilding) := goodIn_app (goodIn_of _ (by decide +kernel)) ggX3_fetchFromOtherPart_X3_isRebuilding
set_option maxRecDepth 20000 in
theorem ggX3_fetchFromOtherPart_X3_endRebuild : GoodIn wsX3_fetchFromOtherPart wsX3_endRebuild := goodIn_r _ [14, 15, 1, 2, 4, 16, 17, 18, 9, 19, 20, 21, 22, 23, 24, 25, 26, 27, 28, 29, 30] (by decide +kernel) (by decide +kernel)
set_option maxRecDepth 20000 in
theorem gX3_fetchFromOtherPart_X3_endRebuild : GoodIn wsX3_fetchFromOtherPart (wsV RX3 93 RX3 yX3_endRebuild wsX3_endRebuild) := goodIn_app (goodIn_of _ (by decide +kernel)) ggX3_fetchFromOtherPart_X3_endRebuild
set_option maxRecDepth 20000 in
theorem ggX3_fetchFromOtherPart_X3_size : GoodIn wsX3_fetchFromOtherPart wsX3_size := goodIn_r _ [19, 1, 2, 20, 21, 22, 23, 24, 25, 26, 27, 28, 29, 30] (by decide +kernel) (by decide +kernel)
set_option maxRecDepth 20000 in
theorem gX3_fetchFromOtherPart_X3_size : GoodIn wsX3_fetchFromOtherPart (wsV RX3 46 RX3 yX3_size wsX3_size) := goodIn_app (goodIn_of _ (by decide +kernel)) ggX3_fetchFromOtherPart_X3_size
theorem dX3_fetchFromOtherPart_0 : decode cX3_fetchFromOtherPart 0 = .ok (.iload_n 1, 1) := by decide +kernel
theorem dX3_fetchFromOtherPart_1 : decode cX3_fetchFromOtherPart 1 = .ok (.ifCond .eq 10, 3) := by decide +kernel
theorem dX3_fetchFromOtherPart_4 : decode cX3_fetchFromOtherPart 4 = .ok (.aload_n 0, 1) := by decide +kernel
theorem dX3_fetchFromOtherPart_5 : decode cX3_fetchFromOtherPart 5 = .ok (.getfield 24, 3) := by decide +kernel
theorem dX3_fetchFromOtherPart_8 : decode cX3_fetchFromOtherPart 8 = .ok (.goto 7, 3) := by decide +kernel
theorem dX3_fetchFromOtherPart_11 : decode cX3_fetchFromOtherPart 11 = .ok (.aload_n 0, 1) := by decide +kernel
theorem dX3_fetchFromOtherPart_12 : decode cX3_fetchFromOtherPart 12 = .ok (.getfield 27, 3) := by decide +kernel
theorem dX3_fetchFromOtherPart_15 : decode cX3_fetchFromOtherPart 15 = .ok (.ifCond .le 4, 3) := by decide +kernel
theorem dX3_fetchFromOtherPart_18 : decode cX3_fetchFromOtherPart 18 = .ok (.return_, 1) := by decide +kernel
theorem dX3_fetchFromOtherPart_19 : decode cX3_fetchFromOtherPart 19 = .ok (.aload_n 0, 1) := by decide +kernel
theorem dX3_fetchFromOtherPart_20 : decode cX3_fetchFromOtherPart 20 = .ok (.invokevirtual 89, 3) := by decide +kernel
theorem dX3_fetchFromOtherPart_23 : decode cX3_fetchFromOtherPart 23 = .ok (.ifCond .eq 20, 3) := by decide +kernel
theorem dX3_fetchFromOtherPart_26 : decode cX3_fetchFromOtherPart 26 = .ok (.aload_n 0, 1) := by decide +kernel
theorem dX3_fetchFromOtherPart_27 : decode cX3_fetchFromOtherPart 27 = .ok (.dup, 1) := by decide +kernel
theorem dX3_fetchFromOtherPart_28 : decode cX3_fetchFromOtherPart 28 = .ok (.getfield 39, 3) := by decide +kernel
theorem dX3_fetchFromOtherPart_31 : decode cX3_fetchFromOtherPart 31 = .ok (.aload_n 0, 1) := by decide +kernel
theorem dX3_fetchFromOtherPart_32 : decode cX3_fetchFromOtherPart 32 = .ok (.getfield 30, 3) := by decide +kernel
theorem dX3_fetchFromOtherPart_35 : decode cX3_fetchFromOtherPart 35 = .ok (.iadd, 1) := by decide +kernel
theorem dX3_fetchFromOtherPart_36 : decode cX3_fetchFromOtherPart 36 = .ok (.putfield 39, 3) := by decide +kernel
theorem dX3_fetchFromOtherPart_39 : decode cX3_fetchFromOtherPart 39 = .ok (.aload_n 0, 1) := by decide +kernel
theorem dX3_fetchFromOtherPart_40 : decode cX3_fetchFromOtherPart 40 = .ok (.invokevirtual 93, 3) := by decide +kernel
theorem dX3_fetchFromOtherPart_43 : decode cX3_fetchFromOtherPart 43 = .ok (.iload_n 1, 1) := by decide +kernel
theorem dX3_fetchFromOtherPart_44 : decode cX3_fetchFromOtherPart 44 = .ok (.ifCond .eq 10, 3) := by decide +kernel
theorem dX3_fetchFromOtherPart_47 : decode cX3_fetchFromOtherPart 47 = .ok (.aload_n 0, 1) := by decide +kernel
theorem dX3_fetchFromOtherPart_48 : decode cX3_fetchFromOtherPart 48 = .ok (.getfield 24, 3) := by decide +kernel
theorem dX3_fetchFromOtherPart_51 : decode cX3_fetchFromOtherPart 51 = .ok (.goto 7, 3) := by decide +kernel
theorem dX3_fetchFromOtherPart_54 : decode cX3_fetchFromOtherPart 54 = .ok (.aload_n 0, 1) := by decide +kernel
theorem dX3_fetchFromOtherPart_55 : decode cX3_fetchFromOtherPart 55 = .ok (.getfield 27, 3) := by decide +kernel
theorem dX3_fetchFromOtherPart_58 : decode cX3_fetchFromOtherPart 58 = .ok (.ifCond .ne 18, 3) := by decide +kernel
theorem dX3_fetchFromOtherPart_61 : decode cX3_fetchFromOtherPart 61 = .ok (.aload_n 0, 1) := by decide +kernel
theorem dX3_fetchFromOtherPart_62 : decode cX3_fetchFromOtherPart 62 = .ok (.dup, 1) := by decide +kernel
theorem dX3_fetchFromOtherPart_63 : decode cX3_fetchFromOtherPart 63 = .ok (.getfield 39, 3) := by decide +kernel
theorem dX3_fetchFromOtherPart_66 : decode cX3_fetchFromOtherPart 66 = .ok (.aload_n 0, 1) := by decide +kernel
theorem dX3_fetchFromOtherPart_67 : decode cX3_fetchFromOtherPart 67 = .ok (.invokevirtual 46, 3) := by decide +kernel
theorem dX3_fetchFromOtherPart_70 : decode cX3_fetchFromOtherPart 70 = .ok (.iconst 1, 1) := by decide +kernel
theorem dX3_fetchFromOtherPart_71 : decode cX3_fetchFromOtherPart 71 = .ok (.isub, 1) := by decide +kernel
theorem dX3_fetchFromOtherPart_72 : decode cX3_fetchFromOtherPart 72 = .ok (.iadd, 1) := by decide +kernel
theorem dX3_fetchFromOtherPart_73 : decode cX3_fetchFromOtherPart 73 = .ok (.putfield 39, 3) := by decide +kernel
theorem dX3_fetchFromOtherPart_76 : decode cX3_fetchFromOtherPart 76 = .ok (.aload_n 0, 1) := by decide +kernel
theorem dX3_fetchFromOtherPart_77 : decode cX3_fetchFromOtherPart 77 = .ok (.dup, 1) := by decide +kernel
theorem dX3_fetchFromOtherPart_78 : decode cX3_fetchFromOtherPart 78 = .ok (.getfield 36, 3) := by decide +kernel
theorem dX3_fetchFromOtherPart_81 : decode cX3_fetchFromOtherPart 81 = .ok (.aload_n 0, 1) := by decide +kernel
theorem dX3_fetchFromOtherPart_82 : decode cX3_fetchFromOtherPart 82 = .ok (.getfield 39, 3) := by decide +kernel
theorem dX3_fetchFromOtherPart_85 : decode cX3_fetchFromOtherPart 85 = .ok (.iadd, 1) := by decide +kernel
theorem dX3_fetchFromOtherPart_86 : decode cX3_fetchFromOtherPart 86 = .ok (.putfield 36, 3) := by decide +kernel
theorem dX3_fetchFromOtherPart_89 : decode cX3_fetchFromOtherPart 89 = .ok (.return_, 1) := by decide +kernel
set_option maxRecDepth 20000 in
theorem ggX3_put_X3_size : GoodIn wsX3_put wsX3_size := goodIn_r _ [9, 3, 4, 36, 37, 38, 39, 40, 41, 42, 43, 44, 45, 46] (by decide +kernel) (by decide +kernel)
set_option maxRecDepth 20000 in
theorem gX3_put_X3_size : GoodIn wsX3_put (wsV RX3 46 RX3 yX3_size wsX3_size) := goodIn_app (goodIn_of _ (by decide +kernel)) ggX3_put_X3_size
set_option maxRecDepth 20000 in
theorem ggX3_put_X3_look : GoodIn wsX3_put wsX3_look := goodIn_r _ [13, 2, 14, 15, 16, 36, 37, 38, 39, 40, 41, 42, 43, 44, 45, 46] (by decide +kernel) (by decide +kernel)
set_option maxRecDepth 20000 in
theorem gX3_put_X3_look : GoodIn wsX3_put (wsV RX3 60 RX3 yX3_look wsX3_look) := goodIn_app (goodIn_of _ (by decide +kernel)) ggX3_put_X3_look
set_option maxRecDepth 20000 in
theorem ggX3_put_X4_fill : GoodIn wsX3_put wsX4_fill := goodIn_r _ [18] (by decide +kernel) (by decide +kernel)
set_option maxRecDepth 20000 in
theorem gX3_put_X4_fill_n96 : GoodIn wsX3_put (wsX4_fill) := ggX3_put_X4_fill
set_option maxRecDepth 20000 in
theorem ggX3_put_X3_moveGoal : GoodIn wsX3_put wsX3_moveGoal := goodIn_r _ [22, 23, 24, 25, 26, 27, 28, 29, 30, 31, 32, 33, 8, 34, 35, 5, 6, 7, 9, 3, 4, 36, 37, 38, 39, 40, 41, 42, 43, 44, 45, 46] (by decide +kernel) (by decide +kernel)
set_option maxRecDepth 20000 in
theorem gX3_put_X3_moveGoal : GoodIn wsX3_put (wsV RX3 100 RX3 yX3_moveGoal wsX3_moveGoal) := goodIn_app (goodIn_of _ (by decide +kernel)) ggX3_put_X3_moveGoal
theorem dX3_put_0 : decode cX3_put 0 = .ok (.aload_n 0, 1) := by decide +kernel
theorem dX3_put_1 : decode cX3_put 1 = .ok (.invokevirtual 46, 3) := by decide +kernel
theorem dX3_put_4 : decode cX3_put 4 = .ok (.istore_n 3, 1) := by decide +kernel
theorem dX3_put_5 : decode cX3_put 5 = .ok (.aload_n 0, 1) := by decide +kernel
theorem dX3_put_6 : decode cX3_put 6 = .ok (.iload_n 1, 1) := by decide +kernel
theorem dX3_put_7 : decode cX3_put 7 = .ok (.putfield 18, 3) := by decide +kernel
theorem dX3_put_10 : decode cX3_put 10 = .ok (.iload_n 2, 1) := by decide +kernel
theorem dX3_put_11 : decode cX3_put 11 = .ok (.ifCond .eq 61, 3) := by decide +kernel
theorem dX3_put_14 : decode cX3_put 14 = .ok (.iload_n 3, 1) := by decide +kernel
theorem dX3_put_15 : decode cX3_put 15 = .ok (.istore 4, 2) := by decide +kernel
theorem dX3_put_17 : decode cX3_put 17 = .ok (.iload 4, 2) := by decide +kernel
theorem dX3_put_19 : decode cX3_put 19 = .ok (.ifCond .le 26, 3) := by decide +kernel
theorem dX3_put_22 : decode cX3_put 22 = .ok (.aload_n 0, 1) := by decide +kernel
theorem dX3_put_23 : decode cX3_put 23 = .ok (.getfield 42, 3) := by decide +kernel
theorem dX3_put_26 : decode cX3_put 26 = .ok (.iload 4, 2) := by decide +kernel
theorem dX3_put_28 : decode cX3_put 28 = .ok (.aload_n 0, 1) := by decide +kernel
theorem dX3_put_29 : decode cX3_put 29 = .ok (.iload 4, 2) := by decide +kernel
theorem dX3_put_31 : decode cX3_put 31 = .ok (.iconst 1, 1) := by decide +kernel
theorem dX3_put_32 : decode cX3_put 32 = .ok (.isub, 1) := by decide +kernel
theorem dX3_put_33 : decode cX3_put 33 = .ok (.invokevirtual 60, 3) := by decide +kernel
theorem dX3_put_36 : decode cX3_put 36 = .ok (.invokestatic 96, 3) := by decide +kernel
theorem dX3_put_39 : decode cX3_put 39 = .ok (.iinc 4 (-1), 3) := by decide +kernel
theorem dX3_put_42 : decode cX3_put 42 = .ok (.goto (-25), 3) := by decide +kernel
theorem dX3_put_45 : decode cX3_put 45 = .ok (.aload_n 0, 1) := by decide +kernel
theorem dX3_put_46 : decode cX3_put 46 = .ok (.getfield 42, 3) := by decide +kernel
theorem dX3_put_49 : decode cX3_put 49 = .ok (.iconst 0, 1) := by decide +kernel
theorem dX3_put_50 : decode cX3_put 50 = .ok (.iload_n 1, 1) := by decide +kernel
theorem dX3_put_51 : decode cX3_put 51 = .ok (.invokestatic 96, 3) := by decide +kernel
theorem dX3_put_54 : decode cX3_put 54 = .ok (.aload_n 0, 1) := by decide +kernel
theorem dX3_put_55 : decode cX3_put 55 = .ok (.dup, 1) := by decide +kernel
theorem dX3_put_56 : decode cX3_put 56 = .ok (.getfield 24, 3) := by decide +kernel
theorem dX3_put_59 : decode cX3_put 59 = .ok (.iconst 1, 1) := by decide +kernel
theorem dX3_put_60 : decode cX3_put 60 = .ok (.iadd, 1) := by decide +kernel
theorem dX3_put_61 : decode cX3_put 61 = .ok (.putfield 24, 3) := by decide +kernel
theorem dX3_put_64 : decode cX3_put 64 = .ok (.aload_n 0, 1) := by decide +kernel
theorem dX3_put_65 : decode cX3_put 65 = .ok (.iconst 1, 1) := by decide +kernel
theorem dX3_put_66 : decode cX3_put 66 = .ok (.invokevirtual 100, 3) := by decide +kernel
theorem dX3_put_69 : decode cX3_put 69 = .ok (.goto 27, 3) := by decide +kernel
theorem dX3_put_72 : decode cX3_put 72 = .ok (.aload_n 0, 1) := by decide +kernel
theorem dX3_put_73 : decode cX3_put 73 = .ok (.getfield 42, 3) := by decide +kernel
theorem dX3_put_76 : decode cX3_put 76 = .ok (.iload_n 3, 1) := by decide +kernel
theorem dX3_put_77 : decode cX3_put 77 = .ok (.iload_n 1, 1) := by decide +kernel
theorem dX3_put_78 : decode cX3_put 78 = .ok (.invokestatic 96, 3) := by decide +kernel
theorem dX3_put_81 : decode cX3_put 81 = .ok (.aload_n 0, 1) := by decide +kernel
theorem dX3_put_82 : decode cX3_put 82 = .ok (.dup, 1) := by decide +kernel
theorem dX3_put_83 : decode cX3_put 83 = .ok (.getfield 27, 3) := by decide +kernel
theorem dX3_put_86 : decode cX3_put 86 = .ok (.iconst 1, 1) := by decide +kernel
theorem dX3_put_87 : decode cX3_put 87 = .ok (.iadd, 1) := by decide +kernel
theorem dX3_put_88 : decode cX3_put 88 = .ok (.putfield 27, 3) := by decide +kernel
theorem dX3_put_91 : decode cX3_put 91 = .ok (.aload_n 0, 1) := by decide +kernel
theorem dX3_put_92 : decode cX3_put 92 = .ok (.iconst 0, 1) := by decide +kernel
theorem dX3_put_93 : decode cX3_put 93 = .ok (.invokevirtual 100, 3) := by decide +kernel
theorem dX3_put_96 : decode cX3_put 96 = .ok (.return_, 1) := by decide +kernel
set_option maxRecDepth 20000 in
theorem ggX3_take_X3_size : GoodIn wsX3_take wsX3_size := goodIn_r _ [9, 3, 4, 36, 37, 38, 39, 40, 41, 42, 43, 44, 45, 46] (by decide +kernel) (by decide +kernel)
set_option maxRecDepth 20000 in
theorem gX3_take_X3_size : GoodIn wsX3_take (wsV RX3 46 RX3 yX3_size wsX3_size) := goodIn_app (goodIn_of _ (by decide +kernel)) ggX3_take_X3_size
set_option maxRecDepth 20000 in
theorem ggX3_take_X3_look : GoodIn wsX3_take wsX3_look := goodIn_r _ [13, 2, 14, 15, 16, 36, 37, 38, 39, 40, 41, 42, 43, 44, 45, 46] (by decide +kernel) (by decide +kernel)
set_option maxRecDepth 20000 in
theorem gX3_take_X3_look : GoodIn wsX3_take (wsV RX3 60 RX3 yX3_look wsX3_look) := goodIn_app (goodIn_of _ (by decide +kernel)) ggX3_take_X3_look
set_option maxRecDepth 20000 in
theorem ggX3_take_X4_fill : GoodIn wsX3_take wsX4_fill := goodIn_r _ [18] (by decide +kernel) (by decide +kernel)
set_option maxRecDepth 20000 in
theorem gX3_take_X4_fill_n96 : GoodIn wsX3_take (wsX4_fill) := ggX3_take_X4_fill
set_option maxRecDepth 20000 in
theorem ggX3_take_X3_moveGoal : GoodIn wsX3_take wsX3_moveGoal := goodIn_r _ [22, 23, 24, 25, 26, 27, 28, 29, 30, 31, 32, 33, 8, 34, 35, 5, 6, 7, 9, 3, 4, 36, 37, 38, 39, 40, 41, 42, 43, 44, 45, 46] (by decide +kernel) (by decide +kernel)
set_option maxRecDepth 20000 in
theorem gX3_take_X3_moveGoal : GoodIn wsX3_take (wsV RX3 100 RX3 yX3_moveGoal wsX3_moveGoal) := goodIn_app (goodIn_of _ (by decide +kernel)) ggX3_take_X3_moveGoal
theorem dX3_take_0 : decode cX3_take 0 = .ok (.aload_n 0, 1) := by decide +kernel
theorem dX3_take_1 : decode cX3_take 1 = .ok (.invokevirtual 46, 3) := by decide +kernel
theorem dX3_take_4 : decode cX3_take 4 = .ok (.iconst 1, 1) := by decide +kernel
theorem dX3_take_5 : decode cX3_take 5 = .ok (.isub, 1) := by decide +kernel
theorem dX3_take_6 : decode cX3_take 6 = .ok (.istore_n 2, 1) := by decide +kernel
theorem dX3_take_7 : decode cX3_take 7 = .ok (.aload_n 0, 1) := by decide +kernel
theorem dX3_take_8 : decode cX3_take 8 = .ok (.aload_n 0, 1) := by decide +kernel
theorem dX3_take_9 : decode cX3_take 9 = .ok (.iload_n 1, 1) := by decide +kernel
theorem dX3_take_10 : decode cX3_take 10 = .ok (.ifCond .eq 7, 3) := by decide +kernel
theorem dX3_take_13 : decode cX3_take 13 = .ok (.iconst 0, 1) := by decide +kernel
theorem dX3_take_14 : decode cX3_take 14 = .ok (.goto 4, 3) := by decide +kernel
theorem dX3_take_17 : decode cX3_take 17 = .ok (.iload_n 2, 1) := by decide +kernel
theorem dX3_take_18 : decode cX3_take 18 = .ok (.invokevirtual 60, 3) := by decide +kernel
theorem dX3_take_21 : decode cX3_take 21 = .ok (.putfield 18, 3) := by decide +kernel
theorem dX3_take_24 : decode cX3_take 24 = .ok (.iload_n 1, 1) := by decide +kernel
theorem dX3_take_25 : decode cX3_take 25 = .ok (.ifCond .eq 31, 3) := by decide +kernel
theorem dX3_take_28 : decode cX3_take 28 = .ok (.iconst 0, 1) := by decide +kernel
theorem dX3_take_29 : decode cX3_take 29 = .ok (.istore_n 3, 1) := by decide +kernel
theorem dX3_take_30 : decode cX3_take 30 = .ok (.iload_n 3, 1) := by decide +kernel
theorem dX3_take_31 : decode cX3_take 31 = .ok (.iload_n 2, 1) := by decide +kernel
theorem dX3_take_32 : decode cX3_take 32 = .ok (.if_icmp .ge 24, 3) := by decide +kernel
theorem dX3_take_35 : decode cX3_take 35 = .ok (.aload_n 0, 1) := by decide +kernel
theorem dX3_take_36 : decode cX3_take 36 = .ok (.getfield 42, 3) := by decide +kernel
theorem dX3_take_39 : decode cX3_take 39 = .ok (.iload_n 3, 1) := by decide +kernel
theorem dX3_take_40 : decode cX3_take 40 = .ok (.aload_n 0, 1) := by decide +kernel
theorem dX3_take_41 : decode cX3_take 41 = .ok (.iload_n 3, 1) := by decide +kernel
theorem dX3_take_42 : decode cX3_take 42 = .ok (.iconst 1, 1) := by decide +kernel
theorem dX3_take_43 : decode cX3_take 43 = .ok (.iadd, 1) := by decide +kernel
theorem dX3_take_44 : decode cX3_take 44 = .ok (.invokevirtual 60, 3) := by decide +kernel
theorem dX3_take_47 : decode cX3_take 47 = .ok (.invokestatic 96, 3) := by decide +kernel
theorem dX3_take_50 : decode cX3_take 50 = .ok (.iinc 3 1, 3) := by decide +kernel
theorem dX3_take_53 : decode cX3_take 53 = .ok (.goto (-23), 3) := by decide +kernel
theorem dX3_take_56 : decode cX3_take 56 = .ok (.iload_n 1, 1) := by decide +kernel
theorem dX3_take_57 : decode cX3_take 57 = .ok (.ifCond .eq 18, 3) := by decide +kernel
theorem dX3_take_60 : decode cX3_take 60 = .ok (.aload_n 0, 1) := by decide +kernel
theorem dX3_take_61 : decode cX3_take 61 = .ok (.getfield 24, 3) := by decide +kernel
theorem dX3_take_64 : decode cX3_take 64 = .ok (.ifCond .le 7, 3) := by decide +kernel
theorem dX3_take_67 : decode cX3_take 67 = .ok (.iconst 1, 1) := by decide +kernel
theorem dX3_take_68 : decode cX3_take 68 = .ok (.goto 19, 3) := by decide +kernel
theorem dX3_take_71 : decode cX3_take 71 = .ok (.iconst 0, 1) := by decide +kernel
theorem dX3_take_72 : decode cX3_take 72 = .ok (.goto 15, 3) := by decide +kernel
theorem dX3_take_75 : decode cX3_take 75 = .ok (.aload_n 0, 1) := by decide +kernel
theorem dX3_take_76 : decode cX3_take 76 = .ok (.getfield 27, 3) := by decide +kernel
theorem dX3_take_79 : decode cX3_take 79 = .ok (.ifCond .ne 7, 3) := by decide +kernel
theorem dX3_take_82 : decode cX3_take 82 = .ok (.iconst 1, 1) := by decide +kernel
theorem dX3_take_83 : decode cX3_take 83 = .ok (.goto 4, 3) := by decide +kernel
theorem dX3_take_86 : decode cX3_take 86 = .ok (.iconst 0, 1) := by decide +kernel
theorem dX3_take_87 : decode cX3_take 87 = .ok (.istore_n 3, 1) := by decide +kernel
theorem dX3_take_88 : decode cX3_take 88 = .ok (.iload_n 3, 1) := by decide +kernel
theorem dX3_take_89 : decode cX3_take 89 = .ok (.ifCond .eq 16, 3) := by decide +kernel
theorem dX3_take_92 : decode cX3_take 92 = .ok (.aload_n 0, 1) := by decide +kernel
theorem dX3_take_93 : decode cX3_take 93 = .ok (.dup, 1) := by decide +kernel
theorem dX3_take_94 : decode cX3_take 94 = .ok (.getfield 24, 3) := by decide +kernel
theorem dX3_take_97 : decode cX3_take 97 = .ok (.iconst 1, 1) := by decide +kernel
theorem dX3_take_98 : decode cX3_take 98 = .ok (.isub, 1) := by decide +kernel
theorem dX3_take_99 : decode cX3_take 99 = .ok (.putfield 24, 3) := by decide +kernel
theorem dX3_take_102 : decode cX3_take 102 = .ok (.goto 13, 3) := by decide +kernel
theorem dX3_take_105 : decode cX3_take 105 = .ok (.aload_n 0, 1) := by decide +kernel
theorem dX3_take_106 : decode cX3_take 106 = .ok (.dup, 1) := by decide +kernel
theorem dX3_take_107 : decode cX3_take 107 = .ok (.getfield 27, 3) := by decide +kernel
theorem dX3_take_110 : decode cX3_take 110 = .ok (.iconst 1, 1) := by decide +kernel
theorem dX3_take_111 : decode cX3_take 111 = .ok (.isub, 1) := by decide +kernel
theorem dX3_take_112 : decode cX3_take 112 = .ok (.putfield 27, 3) := by decide +kernel
theorem dX3_take_115 : decode cX3_take 115 = .ok (.aload_n 0, 1) := by decide +kernel
theorem dX3_take_116 : decode cX3_take 116 = .ok (.iload_n 1, 1) := by decide +kernel
theorem dX3_take_117 : decode cX3_take 117 = .ok (.ifCond .eq 7, 3) := by decide +kernel
theorem dX3_take_120 : decode cX3_take 120 = .ok (.iconst (-1), 1) := by decide +kernel
theorem dX3_take_121 : decode cX3_take 121 = .ok (.goto 4, 3) := by decide +kernel
theorem dX3_take_124 : decode cX3_take 124 = .ok (.iconst 0, 1) := by decide +kernel
theorem dX3_take_125 : decode cX3_take 125 = .ok (.invokevirtual 100, 3) := by decide +kernel
theorem dX3_take_128 : decode cX3_take 128 = .ok (.return_, 1) := by decide +kernel
set_option maxRecDepth 20000 in
theorem ggX3_moveGoal_X3_isRebuilding : GoodIn wsX3_moveGoal wsX3_isRebuilding := goodIn_r _ [13, 14, 21, 22, 23, 24, 25, 26, 27, 28, 29, 30, 31] (by decide +kernel) (by decide +kernel)
set_option maxRecDepth 20000 in
theorem gX3_moveGoal_X3_isRebuilding : GoodIn wsX3_moveGoal (wsV RX3 89 RX3 yX3_isRebuilding wsX3_isRebuilding) := goodIn_app (goodIn_of _ (by decide +kernel)) ggX3_moveGoal_X3_isRebuilding
set_option maxRecDepth 20000 in
theorem ggX3_moveGoal_X3_size : GoodIn wsX3_moveGoal wsX3_size := goodIn_r _ [18, 19, 20, 21, 22, 23, 24, 25, 26, 27, 28, 29, 30, 31] (by decide +kernel) (by decide +kernel)
set_option maxRecDepth 20000 in
theorem gX3_moveGoal_X3_size : GoodIn wsX3_moveGoal (wsV RX3 46 RX3 yX3_size wsX3_size) := goodIn_app (goodIn_of _ (by decide +kernel)) ggX3_moveGoal_X3_size
theorem dX3_moveGoal_0 : decode cX3_moveGoal 0 = .ok (.aload_n 0, 1) := by decide +kernel
theorem dX3_moveGoal_1 : decode cX3_moveGoal 1 = .ok (.invokevirtual 89, 3) := by decide +kernel
theorem dX3_moveGoal_4 : decode cX3_moveGoal 4 = .ok (.ifCond .eq 24, 3) := by decide +kernel
theorem dX3_moveGoal_7 : decode cX3_moveGoal 7 = .ok (.aload_n 0, 1) := by decide +kernel
theorem dX3_moveGoal_8 : decode cX3_moveGoal 8 = .ok (.aload_n 0, 1) := by decide +kernel
theorem dX3_moveGoal_9 : decode cX3_moveGoal 9 = .ok (.getfield 33, 3) := by decide +kernel
theorem dX3_moveGoal_12 : decode cX3_moveGoal 12 = .ok (.iload_n 1, 1) := by decide +kernel
theorem dX3_moveGoal_13 : decode cX3_moveGoal 13 = .ok (.iadd, 1) := by decide +kernel
theorem dX3_moveGoal_14 : decode cX3_moveGoal 14 = .ok (.iconst 0, 1) := by decide +kernel
theorem dX3_moveGoal_15 : decode cX3_moveGoal 15 = .ok (.invokestatic 103, 3) := by decide +kernel
theorem dX3_moveGoal_18 : decode cX3_moveGoal 18 = .ok (.aload_n 0, 1) := by decide +kernel
theorem dX3_moveGoal_19 : decode cX3_moveGoal 19 = .ok (.invokevirtual 46, 3) := by decide +kernel
theorem dX3_moveGoal_22 : decode cX3_moveGoal 22 = .ok (.invokestatic 109, 3) := by decide +kernel
theorem dX3_moveGoal_25 : decode cX3_moveGoal 25 = .ok (.putfield 33, 3) := by decide +kernel
theorem dX3_moveGoal_28 : decode cX3_moveGoal 28 = .ok (.return_, 1) := by decide +kernel
set_option maxRecDepth 20000 in
theorem ggX3_pay_X3_isRebuilding : GoodIn wsX3_pay wsX3_isRebuilding := goodIn_r _ [11, 1, 23, 24, 25, 26, 27, 28, 29, 30, 31, 32, 33] (by decide +kernel) (by decide +kernel)
set_option maxRecDepth 20000 in
theorem gX3_pay_X3_isRebuilding : GoodIn wsX3_pay (wsV RX3 89 RX3 yX3_isRebuilding wsX3_isRebuilding) := goodIn_app (goodIn_of _ (by decide +kernel)) ggX3_pay_X3_isRebuilding
set_option maxRecDepth 20000 in
theorem ggX3_pay_X3_endRebuild : GoodIn wsX3_pay wsX3_endRebuild := goodIn_r _ [15, 16, 17, 18, 1, 19, 20, 21, 10, 22, 23, 24, 25, 26, 27, 28, 29, 30, 31, 32, 33] (by decide +kernel) (by decide +kernel)
set_option maxRecDepth 20000 in
theorem gX3_pay_X3_endRebuild : GoodIn wsX3_pay (wsV RX3 93 RX3 yX3_endRebuild wsX3_endRebuild) := goodIn_app (goodIn_of _ (by decide +kernel)) ggX3_pay_X3_endRebuild
theorem dX3_pay_0 : decode cX3_pay 0 = .ok (.aload_n 0, 1) := by decide +kernel
theorem dX3_pay_1 : decode cX3_pay 1 = .ok (.invokevirtual 89, 3) := by decide +kernel
theorem dX3_pay_4 : decode cX3_pay 4 = .ok (.ifCond .ne 4, 3) := by decide +kernel
theorem dX3_pay_7 : decode cX3_pay 7 = .ok (.return_, 1) := by decide +kernel
theorem dX3_pay_8 : decode cX3_pay 8 = .ok (.iload_n 1, 1) := by decide +kernel
theorem dX3_pay_9 : decode cX3_pay 9 = .ok (.aload_n 0, 1) := by decide +kernel
theorem dX3_pay_10 : decode cX3_pay 10 = .ok (.getfield 30, 3) := by decide +kernel
theorem dX3_pay_13 : decode cX3_pay 13 = .ok (.invokestatic 109, 3) := by decide +kernel
theorem dX3_pay_16 : decode cX3_pay 16 = .ok (.istore_n 2, 1) := by decide +kernel
theorem dX3_pay_17 : decode cX3_pay 17 = .ok (.aload_n 0, 1) := by decide +kernel
theorem dX3_pay_18 : decode cX3_pay 18 = .ok (.dup, 1) := by decide +kernel
theorem dX3_pay_19 : decode cX3_pay 19 = .ok (.getfield 36, 3) := by decide +kernel
theorem dX3_pay_22 : decode cX3_pay 22 = .ok (.iload_n 2, 1) := by decide +kernel
theorem dX3_pay_23 : decode cX3_pay 23 = .ok (.iadd, 1) := by decide +kernel
theorem dX3_pay_24 : decode cX3_pay 24 = .ok (.putfield 36, 3) := by decide +kernel
theorem dX3_pay_27 : decode cX3_pay 27 = .ok (.aload_n 0, 1) := by decide +kernel
theorem dX3_pay_28 : decode cX3_pay 28 = .ok (.dup, 1) := by decide +kernel
theorem dX3_pay_29 : decode cX3_pay 29 = .ok (.getfield 30, 3) := by decide +kernel
theorem dX3_pay_32 : decode cX3_pay 32 = .ok (.iload_n 2, 1) := by decide +kernel
theorem dX3_pay_33 : decode cX3_pay 33 = .ok (.isub, 1) := by decide +kernel
theorem dX3_pay_34 : decode cX3_pay 34 = .ok (.putfield 30, 3) := by decide +kernel
theorem dX3_pay_37 : decode cX3_pay 37 = .ok (.aload_n 0, 1) := by decide +kernel
theorem dX3_pay_38 : decode cX3_pay 38 = .ok (.getfield 30, 3) := by decide +kernel
theorem dX3_pay_41 : decode cX3_pay 41 = .ok (.ifCond .ne 7, 3) := by decide +kernel
theorem dX3_pay_44 : decode cX3_pay 44 = .ok (.aload_n 0, 1) := by decide +kernel
theorem dX3_pay_45 : decode cX3_pay 45 = .ok (.invokevirtual 93, 3) := by decide +kernel
theorem dX3_pay_48 : decode cX3_pay 48 = .ok (.return_, 1) := by decide +kernel
set_option maxRecDepth 20000 in
theorem ggX3_endRebuild_X3_size : GoodIn wsX3_endRebuild wsX3_size := goodIn_r _ [9, 2, 3, 10, 11, 12, 13, 14, 15, 16, 17, 18, 19, 20] (by decide +kernel) (by decide +kernel)
set_option maxRecDepth 20000 in
theorem gX3_endRebuild_X3_size : GoodIn wsX3_endRebuild (wsV RX3 46 RX3 yX3_size wsX3_size) := goodIn_app (goodIn_of _ (by decide +kernel)) ggX3_endRebuild_X3_size
theorem dX3_endRebuild_0 : decode cX3_endRebuild 0 = .ok (.aload_n 0, 1) := by decide +kernel
theorem dX3_endRebuild_1 : decode cX3_endRebuild 1 = .ok (.invokevirtual 46, 3) := by decide +kernel
theorem dX3_endRebuild_4 : decode cX3_endRebuild 4 = .ok (.istore_n 1, 1) := by decide +kernel
theorem dX3_endRebuild_5 : decode cX3_endRebuild 5 = .ok (.aload_n 0, 1) := by decide +kernel
theorem dX3_endRebuild_6 : decode cX3_endRebuild 6 = .ok (.aload_n 0, 1) := by decide +kernel
theorem dX3_endRebuild_7 : decode cX3_endRebuild 7 = .ok (.getfield 33, 3) := by decide +kernel
theorem dX3_endRebuild_10 : decode cX3_endRebuild 10 = .ok (.putfield 24, 3) := by decide +kernel
theorem dX3_endRebuild_13 : decode cX3_endRebuild 13 = .ok (.aload_n 0, 1) := by decide +kernel
theorem dX3_endRebuild_14 : decode cX3_endRebuild 14 = .ok (.iload_n 1, 1) := by decide +kernel
theorem dX3_endRebuild_15 : decode cX3_endRebuild 15 = .ok (.aload_n 0, 1) := by decide +kernel
theorem dX3_endRebuild_16 : decode cX3_endRebuild 16 = .ok (.getfield 33, 3) := by decide +kernel
theorem dX3_endRebuild_19 : decode cX3_endRebuild 19 = .ok (.isub, 1) := by decide +kernel
theorem dX3_endRebuild_20 : decode cX3_endRebuild 20 = .ok (.putfield 27, 3) := by decide +kernel
theorem dX3_endRebuild_23 : decode cX3_endRebuild 23 = .ok (.aload_n 0, 1) := by decide +kernel
theorem dX3_endRebuild_24 : decode cX3_endRebuild 24 = .ok (.iconst 0, 1) := by decide +kernel
theorem dX3_endRebuild_25 : decode cX3_endRebuild 25 = .ok (.putfield 30, 3) := by decide +kernel
theorem dX3_endRebuild_28 : decode cX3_endRebuild 28 = .ok (.aload_n 0, 1) := by decide +kernel
theorem dX3_endRebuild_29 : decode cX3_endRebuild 29 = .ok (.iconst (-1), 1) := by decide +kernel
theorem dX3_endRebuild_30 : decode cX3_endRebuild 30 = .ok (.putfield 33, 3) := by decide +kernel
theorem dX3_endRebuild_33 : decode cX3_endRebuild 33 = .ok (.return_, 1) := by decide +kernel
set_option maxRecDepth 20000 in
theorem ggX3_beginRebuild_X3_isRebuilding : GoodIn wsX3_beginRebuild wsX3_isRebuilding := goodIn_r _ [16, 10, 21, 22, 23, 24, 25, 26, 27, 28, 29, 30, 31] (by decide +kernel) (by decide +kernel)
set_option maxRecDepth 20000 in
theorem gX3_beginRebuild_X3_isRebuilding : GoodIn wsX3_beginRebuild (wsV RX3 89 RX3 yX3_isRebuilding wsX3_isRebuilding) := goodIn_app (goodIn_of _ (by decide +kernel)) ggX3_beginRebuild_X3_isRebuilding
set_option maxRecDepth 20000 in
theorem ggX3_beginRebuild_X3_size : GoodIn wsX3_beginRebuild wsX3_size := goodIn_r _ [20, 1, 2, 21, 22, 23, 24, 25, 26, 27, 28, 29, 30, 31] (by decide +kernel) (by decide +kernel)
set_option maxRecDepth 20000 in
theorem gX3_beginRebuild_X3_size : GoodIn wsX3_beginRebuild (wsV RX3 46 RX3 yX3_size wsX3_size) := goodIn_app (goodIn_of _ (by decide +kernel)) ggX3_beginRebuild_X3_size
theorem dX3_beginRebuild_0 : decode cX3_beginRebuild 0 = .ok (.aload_n 0, 1) := by decide +kernel
theorem dX3_beginRebuild_1 : decode cX3_beginRebuild 1 = .ok (.invokevirtual 89, 3) := by decide +kernel
theorem dX3_beginRebuild_4 : decode cX3_beginRebuild 4 = .ok (.ifCond .ne 50, 3) := by decide +kernel
theorem dX3_beginRebuild_7 : decode cX3_beginRebuild 7 = .ok (.aload_n 0, 1) := by decide +kernel
theorem dX3_beginRebuild_8 : decode cX3_beginRebuild 8 = .ok (.getfield 24, 3) := by decide +kernel
theorem dX3_beginRebuild_11 : decode cX3_beginRebuild 11 = .ok (.aload_n 0, 1) := by decide +kernel
theorem dX3_beginRebuild_12 : decode cX3_beginRebuild 12 = .ok (.getfield 27, 3) := by decide +kernel
theorem dX3_beginRebuild_15 : decode cX3_beginRebuild 15 = .ok (.invokestatic 103, 3) := by decide +kernel
theorem dX3_beginRebuild_18 : decode cX3_beginRebuild 18 = .ok (.iload_n 1, 1) := by decide +kernel
theorem dX3_beginRebuild_19 : decode cX3_beginRebuild 19 = .ok (.aload_n 0, 1) := by decide +kernel
theorem dX3_beginRebuild_20 : decode cX3_beginRebuild 20 = .ok (.getfield 24, 3) := by decide +kernel
theorem dX3_beginRebuild_23 : decode cX3_beginRebuild 23 = .ok (.aload_n 0, 1) := by decide +kernel
theorem dX3_beginRebuild_24 : decode cX3_beginRebuild 24 = .ok (.getfield 27, 3) := by decide +kernel
theorem dX3_beginRebuild_27 : decode cX3_beginRebuild 27 = .ok (.invokestatic 109, 3) := by decide +kernel
theorem dX3_beginRebuild_30 : decode cX3_beginRebuild 30 = .ok (.imul, 1) := by decide +kernel
theorem dX3_beginRebuild_31 : decode cX3_beginRebuild 31 = .ok (.iconst 1, 1) := by decide +kernel
theorem dX3_beginRebuild_32 : decode cX3_beginRebuild 32 = .ok (.iadd, 1) := by decide +kernel
theorem dX3_beginRebuild_33 : decode cX3_beginRebuild 33 = .ok (.if_icmp .le 21, 3) := by decide +kernel
theorem dX3_beginRebuild_36 : decode cX3_beginRebuild 36 = .ok (.aload_n 0, 1) := by decide +kernel
theorem dX3_beginRebuild_37 : decode cX3_beginRebuild 37 = .ok (.aload_n 0, 1) := by decide +kernel
theorem dX3_beginRebuild_38 : decode cX3_beginRebuild 38 = .ok (.invokevirtual 46, 3) := by decide +kernel
theorem dX3_beginRebuild_41 : decode cX3_beginRebuild 41 = .ok (.putfield 30, 3) := by decide +kernel
theorem dX3_beginRebuild_44 : decode cX3_beginRebuild 44 = .ok (.aload_n 0, 1) := by decide +kernel
theorem dX3_beginRebuild_45 : decode cX3_beginRebuild 45 = .ok (.aload_n 0, 1) := by decide +kernel
theorem dX3_beginRebuild_46 : decode cX3_beginRebuild 46 = .ok (.invokevirtual 46, 3) := by decide +kernel
theorem dX3_beginRebuild_49 : decode cX3_beginRebuild 49 = .ok (.iconst 2, 1) := by decide +kernel
theorem dX3_beginRebuild_50 : decode cX3_beginRebuild 50 = .ok (.idiv, 1) := by decide +kernel
theorem dX3_beginRebuild_51 : decode cX3_beginRebuild 51 = .ok (.putfield 33, 3) := by decide +kernel
theorem dX3_beginRebuild_54 : decode cX3_beginRebuild 54 = .ok (.return_, 1) := by decide +kernel
set_option maxRecDepth 20000 in
theorem ggX4_init_X0_init : GoodIn wsX4_init wsX0_init := goodIn_r _ [20, 21, 2, 3, 22, 23, 24, 25, 26, 27, 28, 29, 30, 66, 67, 68, 69, 70, 71, 72, 73] (by decide +kernel) (by decide +kernel)
set_option maxRecDepth 20000 in
theorem gX4_init_X0_init : GoodIn wsX4_init (wsX0_init) := ggX4_init_X0_init
set_option maxRecDepth 20000 in
theorem ggX4_init_X2_init : GoodIn wsX4_init wsX2_init := goodIn_r _ [33, 34, 2, 3, 35, 36, 37, 38, 39, 40, 41, 42, 43, 44, 45, 46, 47, 48, 49, 50, 51, 52, 53, 54, 24, 55, 79, 80, 81, 87, 88, 89, 90, 91, 92, 93, 94, 95, 96, 97] (by decide +kernel) (by decide +kernel)
set_option maxRecDepth 20000 in
theorem gX4_init_X2_init : GoodIn wsX4_init (wsX2_init) := ggX4_init_X2_init
set_option maxRecDepth 20000 in
theorem ggX4_init_X1_init : GoodIn wsX4_init wsX1_init := goodIn_r _ [58, 59, 2, 3, 60, 61, 62, 63, 64, 24, 65, 82, 83, 84, 85, 86] (by decide +kernel) (by decide +kernel)
set_option maxRecDepth 20000 in
theorem gX4_init_X1_init : GoodIn wsX4_init (wsX1_init) := ggX4_init_X1_init
theorem dX4_init_0 : decode cX4_init 0 = .ok (.aload_n 0, 1) := by decide +kernel
theorem dX4_init_1 : decode cX4_init 1 = .ok (.invokespecial 3, 3) := by decide +kernel
theorem dX4_init_4 : decode cX4_init 4 = .ok (.aload_n 0, 1) := by decide +kernel
theorem dX4_init_5 : decode cX4_init 5 = .ok (.new 9, 3) := by decide +kernel
theorem dX4_init_8 : decode cX4_init 8 = .ok (.dup, 1) := by decide +kernel
theorem dX4_init_9 : decode cX4_init 9 = .ok (.invokespecial 11, 3) := by decide +kernel
theorem dX4_init_12 : decode cX4_init 12 = .ok (.putfield 12, 3) := by decide +kernel
theorem dX4_init_15 : decode cX4_init 15 = .ok (.aload_n 0, 1) := by decide +kernel
theorem dX4_init_16 : decode cX4_init 16 = .ok (.new 16, 3) := by decide +kernel
theorem dX4_init_19 : decode cX4_init 19 = .ok (.dup, 1) := by decide +kernel
theorem dX4_init_20 : decode cX4_init 20 = .ok (.invokespecial 18, 3) := by decide +kernel
theorem dX4_init_23 : decode cX4_init 23 = .ok (.putfield 19, 3) := by decide +kernel
theorem dX4_init_26 : decode cX4_init 26 = .ok (.aload_n 0, 1) := by decide +kernel
theorem dX4_init_27 : decode cX4_init 27 = .ok (.iconst 4, 1) := by decide +kernel
theorem dX4_init_28 : decode cX4_init 28 = .ok (.anewarray 23, 3) := by decide +kernel
theorem dX4_init_31 : decode cX4_init 31 = .ok (.putfield 25, 3) := by decide +kernel
theorem dX4_init_34 : decode cX4_init 34 = .ok (.aload_n 0, 1) := by decide +kernel
theorem dX4_init_35 : decode cX4_init 35 = .ok (.new 23, 3) := by decide +kernel
theorem dX4_init_38 : decode cX4_init 38 = .ok (.dup, 1) := by decide +kernel
theorem dX4_init_39 : decode cX4_init 39 = .ok (.invokespecial 29, 3) := by decide +kernel
theorem dX4_init_42 : decode cX4_init 42 = .ok (.putfield 30, 3) := by decide +kernel
theorem dX4_init_45 : decode cX4_init 45 = .ok (.aload_n 0, 1) := by decide +kernel
theorem dX4_init_46 : decode cX4_init 46 = .ok (.iconst 0, 1) := by decide +kernel
theorem dX4_init_47 : decode cX4_init 47 = .ok (.putfield 34, 3) := by decide +kernel
theorem dX4_init_50 : decode cX4_init 50 = .ok (.return_, 1) := by decide +kernel
set_option maxRecDepth 20000 in
theorem ggX4_set_X4_isSettingValue : GoodIn wsX4_set wsX4_isSettingValue := goodIn_r _ [7, 8, 9, 6, 10, 11, 12, 13] (by decide +kernel) (by decide +kernel)
set_option maxRecDepth 20000 in
theorem gX4_set_X4_isSettingValue : GoodIn wsX4_set (va_wsS RX4 38 yX4_isSettingValue wsX4_isSettingValue) := goodIn_app (goodIn_of _ (by decide +kernel)) ggX4_set_X4_isSettingValue
set_option maxRecDepth 20000 in
theorem ggX4_set_X4_save : GoodIn wsX4_set wsX4_save := goodIn_r _ [17, 18, 19, 20, 21, 22, 3, 23, 24, 25, 6, 26, 27, 28, 29, 30, 31, 32, 33, 34, 35, 36, 37, 38, 39, 40, 41, 42, 43, 44, 45, 46, 47, 48, 49, 50, 51, 52, 53, 54, 55, 56, 57, 58, 59, 60, 61, 62, 63, 64, 65, 66, 67, 68, 69, 70, 71, 72, 73, 74, 75, 76, 85, 86, 87, 88, 89, 90, 91, 92, 93, 94, 95, 96, 97, 98, 99, 100, 101, 102, 103, 104, 105] (by decide +kernel) (by decide +kernel)
set_option maxRecDepth 20000 in
theorem gX4_set_X4_save : GoodIn wsX4_set (wsV RX4 49 RX4 yX4_save wsX4_save) := goodIn_app (goodIn_of _ (by decide +kernel)) ggX4_set_X4_save
set_option maxRecDepth 20000 in
theorem ggX4_set_X1_settingOf : GoodIn wsX4_set wsX1_settingOf := goodIn_r _ [80, 34, 35, 90, 91, 92, 93, 94] (by decide +kernel) (by decide +kernel)
set_option maxRecDepth 20000 in
theorem gX4_set_X1_settingOf : GoodIn wsX4_set (wsV RX4 52 RX1 yX1_settingOf wsX1_settingOf) := goodIn_app (goodIn_of _ (by decide +kernel)) ggX4_set_X1_settingOf
set_option maxRecDepth 20000 in
theorem ggX4_set_X1_changeSetting : GoodIn wsX4_set wsX1_changeSetting := goodIn_r _ [84, 34, 35, 90, 91, 92, 93, 94] (by decide +kernel) (by decide +kernel)
set_option maxRecDepth 20000 in
theorem gX4_set_X1_changeSetting : GoodIn wsX4_set (wsV RX4 56 RX1 yX1_changeSetting wsX1_changeSetting) := goodIn_app (goodIn_of _ (by decide +kernel)) ggX4_set_X1_changeSetting
theorem dX4_set_0 : decode cX4_set 0 = .ok (.iload_n 1, 1) := by decide +kernel
theorem dX4_set_1 : decode cX4_set 1 = .ok (.iload_n 2, 1) := by decide +kernel
theorem dX4_set_2 : decode cX4_set 2 = .ok (.invokestatic 38, 3) := by decide +kernel
theorem dX4_set_5 : decode cX4_set 5 = .ok (.ifCond .ne 13, 3) := by decide +kernel
theorem dX4_set_8 : decode cX4_set 8 = .ok (.new 42, 3) := by decide +kernel
theorem dX4_set_11 : decode cX4_set 11 = .ok (.dup, 1) := by decide +kernel
theorem dX4_set_12 : decode cX4_set 12 = .ok (.ldc 44, 2) := by decide +kernel
theorem dX4_set_14 : decode cX4_set 14 = .ok (.invokespecial 46, 3) := by decide +kernel
theorem dX4_set_17 : decode cX4_set 17 = .ok (.athrow, 1) := by decide +kernel
theorem dX4_set_18 : decode cX4_set 18 = .ok (.aload_n 0, 1) := by decide +kernel
theorem dX4_set_19 : decode cX4_set 19 = .ok (.invokevirtual 49, 3) := by decide +kernel
theorem dX4_set_22 : decode cX4_set 22 = .ok (.aload_n 0, 1) := by decide +kernel
theorem dX4_set_23 : decode cX4_set 23 = .ok (.getfield 30, 3) := by decide +kernel
theorem dX4_set_26 : decode cX4_set 26 = .ok (.iload_n 1, 1) := by decide +kernel
theorem dX4_set_27 : decode cX4_set 27 = .ok (.invokevirtual 52, 3) := by decide +kernel
theorem dX4_set_30 : decode cX4_set 30 = .ok (.istore_n 3, 1) := by decide +kernel
theorem dX4_set_31 : decode cX4_set 31 = .ok (.aload_n 0, 1) := by decide +kernel
theorem dX4_set_32 : decode cX4_set 32 = .ok (.getfield 30, 3) := by decide +kernel
theorem dX4_set_35 : decode cX4_set 35 = .ok (.iload_n 1, 1) := by decide +kernel
theorem dX4_set_36 : decode cX4_set 36 = .ok (.iload_n 2, 1) := by decide +kernel
theorem dX4_set_37 : decode cX4_set 37 = .ok (.invokevirtual 56, 3) := by decide +kernel
theorem dX4_set_40 : decode cX4_set 40 = .ok (.iload_n 3, 1) := by decide +kernel
theorem dX4_set_41 : decode cX4_set 41 = .ok (.ireturn, 1) := by decide +kernel
set_option maxRecDepth 20000 in
theorem ggX4_push_X4_requireVersion : GoodIn wsX4_push wsX4_requireVersion := goodIn_ca (goodIn_r _ [10, 11, 12, 5, 13, 14, 15, 16, 17, 18, 152, 153, 154, 155, 156, 157, 158, 159, 160, 161] (by decide +kernel) (by decide +kernel)) (goodIn_sub (fun _ h => List.mem_cons_of_mem _ (List.mem_append_right _ h)) (by decide +kernel))
set_option maxRecDepth 20000 in
theorem gX4_push_X4_requireVersion : GoodIn wsX4_push (wsV RX4 60 RX4 yX4_requireVersion wsX4_requireVersion) := goodIn_app (goodIn_of _ (by decide +kernel)) ggX4_push_X4_requireVersion
set_option maxRecDepth 20000 in
theorem ggX4_push_X1_allows : GoodIn wsX4_push wsX1_allows := goodIn_r _ [22, 23, 24, 25, 16, 26, 18, 27, 28, 29, 30, 31, 32, 33, 34, 35, 36, 37, 38, 39, 40, 41, 42, 43, 44, 45, 46, 47, 48, 49, 50, 51, 52, 53, 54, 55, 56, 57, 9, 58, 59, 60, 61, 62, 157, 158, 159, 160, 161, 162, 163, 164, 165, 166, 167, 168, 169, 170, 171, 172] (by decide +kernel) (by decide +kernel)
set_option maxRecDepth 20000 in
theorem gX4_push_X1_allows : GoodIn wsX4_push (wsV RX4 66 RX1 yX1_allows wsX1_allows) := goodIn_app (goodIn_of _ (by decide +kernel)) ggX4_push_X1_allows
set_option maxRecDepth 20000 in
theorem ggX4_push_X4_save : GoodIn wsX4_push wsX4_save := goodIn_r _ [66, 67, 68, 69, 70, 16, 5, 71, 72, 73, 9, 74, 75, 76, 77, 78, 39, 40, 18, 79, 80, 32, 31, 51, 81, 82, 83, 84, 85, 27, 28, 29, 30, 33, 34, 35, 36, 37, 38, 41, 42, 43, 44, 45, 46, 47, 48, 49, 50, 52, 86, 87, 88, 89, 90, 91, 92, 93, 59, 60, 61, 62, 152, 153, 154, 155, 156, 157, 158, 159, 160, 161, 162, 163, 164, 165, 166, 167, 168, 169, 170, 171, 172] (by decide +kernel) (by decide +kernel)
set_option maxRecDepth 20000 in
theorem gX4_push_X4_save : GoodIn wsX4_push (wsV RX4 49 RX4 yX4_save wsX4_save) := goodIn_app (goodIn_of _ (by decide +kernel)) ggX4_push_X4_save
set_option maxRecDepth 20000 in
theorem ggX4_push_X1_grow : GoodIn wsX4_push wsX1_grow := goodIn_r _ [97, 18, 98, 79, 80, 27, 28, 29, 16, 30, 31, 32, 33, 34, 35, 36, 37, 38, 39, 40, 41, 42, 43, 44, 45, 46, 47, 48, 49, 50, 51, 52, 86, 87, 88, 89, 90, 91, 92, 93, 59, 60, 61, 62, 99, 100, 101, 102, 103, 9, 104, 57, 58, 105, 106, 107, 108, 109, 110, 111, 112, 113, 114, 115, 116, 117, 118, 119, 120, 121, 122, 123, 124, 125, 126, 127, 128, 129, 130, 131, 132, 133, 134, 135, 136, 137, 138, 139, 140, 141, 142, 143, 144, 145, 146, 147, 148, 149, 150, 151, 157, 158, 159, 160, 161, 162, 163, 164, 165, 166, 167, 168, 169, 170, 171, 172] (by decide +kernel) (by decide +kernel)
set_option maxRecDepth 20000 in
theorem gX4_push_X1_grow : GoodIn wsX4_push (wsV RX4 74 RX1 yX1_grow wsX1_grow) := goodIn_app (goodIn_of _ (by decide +kernel)) ggX4_push_X1_grow
theorem dX4_push_0 : decode cX4_push 0 = .ok (.aload_n 0, 1) := by decide +kernel
theorem dX4_push_1 : decode cX4_push 1 = .ok (.iload_n 1, 1) := by decide +kernel
theorem dX4_push_2 : decode cX4_push 2 = .ok (.invokevirtual 60, 3) := by decide +kernel
theorem dX4_push_5 : decode cX4_push 5 = .ok (.iload_n 2, 1) := by decide +kernel
theorem dX4_push_6 : decode cX4_push 6 = .ok (.sipush (-999), 3) := by decide +kernel
theorem dX4_push_9 : decode cX4_push 9 = .ok (.if_icmp .lt 10, 3) := by decide +kernel
theorem dX4_push_12 : decode cX4_push 12 = .ok (.iload_n 2, 1) := by decide +kernel
theorem dX4_push_13 : decode cX4_push 13 = .ok (.sipush 999, 3) := by decide +kernel
theorem dX4_push_16 : decode cX4_push 16 = .ok (.if_icmp .le 13, 3) := by decide +kernel
theorem dX4_push_19 : decode cX4_push 19 = .ok (.new 42, 3) := by decide +kernel
theorem dX4_push_22 : decode cX4_push 22 = .ok (.dup, 1) := by decide +kernel
theorem dX4_push_23 : decode cX4_push 23 = .ok (.ldc 64, 2) := by decide +kernel
theorem dX4_push_25 : decode cX4_push 25 = .ok (.invokespecial 46, 3) := by decide +kernel
theorem dX4_push_28 : decode cX4_push 28 = .ok (.athrow, 1) := by decide +kernel
theorem dX4_push_29 : decode cX4_push 29 = .ok (.iload_n 3, 1) := by decide +kernel
theorem dX4_push_30 : decode cX4_push 30 = .ok (.ifCond .eq 7, 3) := by decide +kernel
theorem dX4_push_33 : decode cX4_push 33 = .ok (.iconst 0, 1) := by decide +kernel
theorem dX4_push_34 : decode cX4_push 34 = .ok (.goto 4, 3) := by decide +kernel
theorem dX4_push_37 : decode cX4_push 37 = .ok (.iconst 1, 1) := by decide +kernel
theorem dX4_push_38 : decode cX4_push 38 = .ok (.istore 4, 2) := by decide +kernel
theorem dX4_push_40 : decode cX4_push 40 = .ok (.aload_n 0, 1) := by decide +kernel
theorem dX4_push_41 : decode cX4_push 41 = .ok (.getfield 30, 3) := by decide +kernel
theorem dX4_push_44 : decode cX4_push 44 = .ok (.iload_n 1, 1) := by decide +kernel
theorem dX4_push_45 : decode cX4_push 45 = .ok (.iload 4, 2) := by decide +kernel
theorem dX4_push_47 : decode cX4_push 47 = .ok (.invokevirtual 66, 3) := by decide +kernel
theorem dX4_push_50 : decode cX4_push 50 = .ok (.ifCond .ne 13, 3) := by decide +kernel
theorem dX4_push_53 : decode cX4_push 53 = .ok (.new 69, 3) := by decide +kernel
theorem dX4_push_56 : decode cX4_push 56 = .ok (.dup, 1) := by decide +kernel
theorem dX4_push_57 : decode cX4_push 57 = .ok (.ldc 71, 2) := by decide +kernel
theorem dX4_push_59 : decode cX4_push 59 = .ok (.invokespecial 73, 3) := by decide +kernel
theorem dX4_push_62 : decode cX4_push 62 = .ok (.athrow, 1) := by decide +kernel
theorem dX4_push_63 : decode cX4_push 63 = .ok (.aload_n 0, 1) := by decide +kernel
theorem dX4_push_64 : decode cX4_push 64 = .ok (.invokevirtual 49, 3) := by decide +kernel
theorem dX4_push_67 : decode cX4_push 67 = .ok (.aload_n 0, 1) := by decide +kernel
theorem dX4_push_68 : decode cX4_push 68 = .ok (.getfield 30, 3) := by decide +kernel
theorem dX4_push_71 : decode cX4_push 71 = .ok (.iload_n 1, 1) := by decide +kernel
theorem dX4_push_72 : decode cX4_push 72 = .ok (.iload 4, 2) := by decide +kernel
theorem dX4_push_74 : decode cX4_push 74 = .ok (.iload_n 2, 1) := by decide +kernel
theorem dX4_push_75 : decode cX4_push 75 = .ok (.invokevirtual 74, 3) := by decide +kernel
theorem dX4_push_78 : decode cX4_push 78 = .ok (.ireturn, 1) := by decide +kernel
set_option maxRecDepth 20000 in
theorem ggX4_pop_X4_requireVersion : GoodIn wsX4_pop wsX4_requireVersion := goodIn_ca (goodIn_r _ [10, 11, 12, 5, 13, 14, 15, 16, 17, 18, 154, 155, 156, 157, 158, 159, 160, 161, 162, 163] (by decide +kernel) (by decide +kernel)) (goodIn_sub (fun _ h => List.mem_cons_of_mem _ (List.mem_append_right _ h)) (by decide +kernel))
set_option maxRecDepth 20000 in
theorem gX4_pop_X4_requireVersion : GoodIn wsX4_pop (wsV RX4 60 RX4 yX4_requireVersion wsX4_requireVersion) := goodIn_app (goodIn_of _ (by decide +kernel)) ggX4_pop_X4_requireVersion
set_option maxRecDepth 20000 in
theorem ggX4_pop_X1_slot : GoodIn wsX4_pop wsX1_slot := goodIn_r _ [22, 23, 24, 25, 26, 27, 28, 29, 30, 31, 32, 33, 34, 35, 36, 37, 38, 39, 40, 41, 42, 43, 44, 159, 160, 161, 162, 163, 164, 165, 166, 167, 168, 169, 170, 171, 172, 173, 174] (by decide +kernel) (by decide +kernel)
set_option maxRecDepth 20000 in
theorem gX4_pop_X1_slot : GoodIn wsX4_pop (wsV RX4 78 RX1 yX1_slot wsX1_slot) := goodIn_app (goodIn_of _ (by decide +kernel)) ggX4_pop_X1_slot
set_option maxRecDepth 20000 in
theorem ggX4_pop_X3_size : GoodIn wsX4_pop wsX3_size := goodIn_r _ [48, 37, 38, 164, 165, 166, 167, 168, 169, 170, 171, 172, 173, 174] (by decide +kernel) (by decide +kernel)
set_option maxRecDepth 20000 in
theorem gX4_pop_X3_size : GoodIn wsX4_pop (wsV RX4 82 RX3 yX3_size wsX3_size) := goodIn_app (goodIn_of _ (by decide +kernel)) ggX4_pop_X3_size
set_option maxRecDepth 20000 in
theorem ggX4_pop_X1_allows : GoodIn wsX4_pop wsX1_allows := goodIn_r _ [52, 53, 54, 55, 16, 56, 18, 57, 20, 21, 22, 23, 24, 25, 26, 27, 28, 29, 30, 31, 32, 33, 34, 35, 36, 37, 38, 39, 40, 41, 42, 43, 44, 58, 59, 60, 61, 62, 9, 63, 64, 46, 47, 48, 159, 160, 161, 162, 163, 164, 165, 166, 167, 168, 169, 170, 171, 172, 173, 174] (by decide +kernel) (by decide +kernel)
set_option maxRecDepth 20000 in
theorem gX4_pop_X1_allows : GoodIn wsX4_pop (wsV RX4 66 RX1 yX1_allows wsX1_allows) := goodIn_app (goodIn_of _ (by decide +kernel)) ggX4_pop_X1_allows
set_option maxRecDepth 20000 in
theorem ggX4_pop_X4_save : GoodIn wsX4_pop wsX4_save := goodIn_r _ [68, 69, 70, 71, 72, 16, 5, 73, 74, 75, 9, 76, 77, 78, 79, 80, 31, 32, 18, 81, 82, 24, 23, 43, 83, 84, 85, 86, 87, 57, 20, 21, 22, 25, 26, 27, 28, 29, 30, 33, 34, 35, 36, 37, 38, 39, 40, 41, 42, 44, 88, 89, 90, 91, 92, 93, 94, 95, 64, 46, 47, 48, 154, 155, 156, 157, 158, 159, 160, 161, 162, 163, 164, 165, 166, 167, 168, 169, 170, 171, 172, 173, 174] (by decide +kernel) (by decide +kernel)
set_option maxRecDepth 20000 in
theorem gX4_pop_X4_save : GoodIn wsX4_pop (wsV RX4 49 RX4 yX4_save wsX4_save) := goodIn_app (goodIn_of _ (by decide +kernel)) ggX4_pop_X4_save
set_option maxRecDepth 20000 in
theorem ggX4_pop_X1_grow : GoodIn wsX4_pop wsX1_grow := goodIn_r _ [99, 18, 100, 81, 82, 57, 20, 21, 16, 22, 23, 24, 25, 26, 27, 28, 29, 30, 31, 32, 33, 34, 35, 36, 37, 38, 39, 40, 41, 42, 43, 44, 88, 89, 90, 91, 92, 93, 94, 95, 64, 46, 47, 48, 101, 102, 103, 104, 105, 9, 106, 62, 63, 107, 108, 109, 110, 111, 112, 113, 114, 115, 116, 117, 118, 119, 120, 121, 122, 123, 124, 125, 126, 127, 128, 129, 130, 131, 132, 133, 134, 135, 136, 137, 138, 139, 140, 141, 142, 143, 144, 145, 146, 147, 148, 149, 150, 151, 152, 153, 159, 160, 161, 162, 163, 164, 165, 166, 167, 168, 169, 170, 171, 172, 173, 174] (by decide +kernel) (by decide +kernel)
set_option maxRecDepth 20000 in
theorem gX4_pop_X1_grow : GoodIn wsX4_pop (wsV RX4 74 RX1 yX1_grow wsX1_grow) := goodIn_app (goodIn_of _ (by decide +kernel)) ggX4_pop_X1_grow
theorem dX4_pop_0 : decode cX4_pop 0 = .ok (.aload_n 0, 1) := by decide +kernel
theorem dX4_pop_1 : decode cX4_pop 1 = .ok (.iload_n 1, 1) := by decide +kernel
theorem dX4_pop_2 : decode cX4_pop 2 = .ok (.invokevirtual 60, 3) := by decide +kernel
theorem dX4_pop_5 : decode cX4_pop 5 = .ok (.aload_n 0, 1) := by decide +kernel
theorem dX4_pop_6 : decode cX4_pop 6 = .ok (.getfield 30, 3) := by decide +kernel
theorem dX4_pop_9 : decode cX4_pop 9 = .ok (.iload_n 1, 1) := by decide +kernel
theorem dX4_pop_10 : decode cX4_pop 10 = .ok (.invokevirtual 78, 3) := by decide +kernel
theorem dX4_pop_13 : decode cX4_pop 13 = .ok (.invokevirtual 82, 3) := by decide +kernel
theorem dX4_pop_16 : decode cX4_pop 16 = .ok (.ifCond .ne 13, 3) := by decide +kernel
theorem dX4_pop_19 : decode cX4_pop 19 = .ok (.new 88, 3) := by decide +kernel
theorem dX4_pop_22 : decode cX4_pop 22 = .ok (.dup, 1) := by decide +kernel
theorem dX4_pop_23 : decode cX4_pop 23 = .ok (.ldc 90, 2) := by decide +kernel
theorem dX4_pop_25 : decode cX4_pop 25 = .ok (.invokespecial 92, 3) := by decide +kernel
theorem dX4_pop_28 : decode cX4_pop 28 = .ok (.athrow, 1) := by decide +kernel
theorem dX4_pop_29 : decode cX4_pop 29 = .ok (.iload_n 2, 1) := by decide +kernel
theorem dX4_pop_30 : decode cX4_pop 30 = .ok (.ifCond .eq 7, 3) := by decide +kernel
theorem dX4_pop_33 : decode cX4_pop 33 = .ok (.iconst 2, 1) := by decide +kernel
theorem dX4_pop_34 : decode cX4_pop 34 = .ok (.goto 4, 3) := by decide +kernel
theorem dX4_pop_37 : decode cX4_pop 37 = .ok (.iconst 3, 1) := by decide +kernel
theorem dX4_pop_38 : decode cX4_pop 38 = .ok (.istore_n 3, 1) := by decide +kernel
theorem dX4_pop_39 : decode cX4_pop 39 = .ok (.aload_n 0, 1) := by decide +kernel
theorem dX4_pop_40 : decode cX4_pop 40 = .ok (.getfield 30, 3) := by decide +kernel
theorem dX4_pop_43 : decode cX4_pop 43 = .ok (.iload_n 1, 1) := by decide +kernel
theorem dX4_pop_44 : decode cX4_pop 44 = .ok (.iload_n 3, 1) := by decide +kernel
theorem dX4_pop_45 : decode cX4_pop 45 = .ok (.invokevirtual 66, 3) := by decide +kernel
theorem dX4_pop_48 : decode cX4_pop 48 = .ok (.ifCond .ne 13, 3) := by decide +kernel
theorem dX4_pop_51 : decode cX4_pop 51 = .ok (.new 69, 3) := by decide +kernel
theorem dX4_pop_54 : decode cX4_pop 54 = .ok (.dup, 1) := by decide +kernel
theorem dX4_pop_55 : decode cX4_pop 55 = .ok (.ldc 93, 2) := by decide +kernel
theorem dX4_pop_57 : decode cX4_pop 57 = .ok (.invokespecial 73, 3) := by decide +kernel
theorem dX4_pop_60 : decode cX4_pop 60 = .ok (.athrow, 1) := by decide +kernel
theorem dX4_pop_61 : decode cX4_pop 61 = .ok (.aload_n 0, 1) := by decide +kernel
theorem dX4_pop_62 : decode cX4_pop 62 = .ok (.invokevirtual 49, 3) := by decide +kernel
theorem dX4_pop_65 : decode cX4_pop 65 = .ok (.aload_n 0, 1) := by decide +kernel
theorem dX4_pop_66 : decode cX4_pop 66 = .ok (.getfield 30, 3) := by decide +kernel
theorem dX4_pop_69 : decode cX4_pop 69 = .ok (.iload_n 1, 1) := by decide +kernel
theorem dX4_pop_70 : decode cX4_pop 70 = .ok (.iload_n 3, 1) := by decide +kernel
theorem dX4_pop_71 : decode cX4_pop 71 = .ok (.iconst 0, 1) := by decide +kernel
theorem dX4_pop_72 : decode cX4_pop 72 = .ok (.invokevirtual 74, 3) := by decide +kernel
theorem dX4_pop_75 : decode cX4_pop 75 = .ok (.ireturn, 1) := by decide +kernel
set_option maxRecDepth 20000 in
theorem ggX4_drop_X4_save : GoodIn wsX4_drop wsX4_save := goodIn_r _ [9, 10, 11, 12, 13, 14, 3, 15, 16, 17, 8, 18, 19, 20, 21, 22, 23, 24, 25, 26, 27, 28, 29, 30, 31, 32, 33, 34, 35, 36, 37, 38, 39, 40, 41, 42, 43, 44, 45, 46, 47, 48, 49, 50, 51, 52, 53, 54, 55, 56, 57, 58, 59, 60, 61, 62, 63, 64, 65, 66, 67, 68, 69, 70, 71, 72, 73, 74, 75, 76, 77, 78, 79, 80, 81, 82, 83, 84, 85, 86, 87, 88, 89] (by decide +kernel) (by decide +kernel)
set_option maxRecDepth 20000 in
theorem gX4_drop_X4_save : GoodIn wsX4_drop (wsV RX4 49 RX4 yX4_save wsX4_save) := goodIn_app (goodIn_of _ (by decide +kernel)) ggX4_drop_X4_save
theorem dX4_drop_0 : decode cX4_drop 0 = .ok (.aload_n 0, 1) := by decide +kernel
theorem dX4_drop_1 : decode cX4_drop 1 = .ok (.getfield 30, 3) := by decide +kernel
theorem dX4_drop_4 : decode cX4_drop 4 = .ok (.getfield 95, 3) := by decide +kernel
theorem dX4_drop_7 : decode cX4_drop 7 = .ok (.iconst 1, 1) := by decide +kernel
theorem dX4_drop_8 : decode cX4_drop 8 = .ok (.if_icmp .gt 13, 3) := by decide +kernel
theorem dX4_drop_11 : decode cX4_drop 11 = .ok (.new 69, 3) := by decide +kernel
theorem dX4_drop_14 : decode cX4_drop 14 = .ok (.dup, 1) := by decide +kernel
theorem dX4_drop_15 : decode cX4_drop 15 = .ok (.ldc 98, 2) := by decide +kernel
theorem dX4_drop_17 : decode cX4_drop 17 = .ok (.invokespecial 73, 3) := by decide +kernel
theorem dX4_drop_20 : decode cX4_drop 20 = .ok (.athrow, 1) := by decide +kernel
theorem dX4_drop_21 : decode cX4_drop 21 = .ok (.aload_n 0, 1) := by decide +kernel
theorem dX4_drop_22 : decode cX4_drop 22 = .ok (.invokevirtual 49, 3) := by decide +kernel
theorem dX4_drop_25 : decode cX4_drop 25 = .ok (.aload_n 0, 1) := by decide +kernel
theorem dX4_drop_26 : decode cX4_drop 26 = .ok (.getfield 30, 3) := by decide +kernel
theorem dX4_drop_29 : decode cX4_drop 29 = .ok (.dup, 1) := by decide +kernel
theorem dX4_drop_30 : decode cX4_drop 30 = .ok (.getfield 95, 3) := by decide +kernel
theorem dX4_drop_33 : decode cX4_drop 33 = .ok (.iconst 1, 1) := by decide +kernel
theorem dX4_drop_34 : decode cX4_drop 34 = .ok (.isub, 1) := by decide +kernel
theorem dX4_drop_35 : decode cX4_drop 35 = .ok (.putfield 95, 3) := by decide +kernel
theorem dX4_drop_38 : decode cX4_drop 38 = .ok (.aload_n 0, 1) := by decide +kernel
theorem dX4_drop_39 : decode cX4_drop 39 = .ok (.getfield 30, 3) := by decide +kernel
theorem dX4_drop_42 : decode cX4_drop 42 = .ok (.getfield 95, 3) := by decide +kernel
theorem dX4_drop_45 : decode cX4_drop 45 = .ok (.ireturn, 1) := by decide +kernel
set_option maxRecDepth 20000 in
theorem ggX4_clear_X4_save : GoodIn wsX4_clear wsX4_save := goodIn_r _ [7, 8, 9, 10, 11, 12, 1, 13, 14, 15, 6, 16, 17, 18, 19, 20, 21, 22, 23, 24, 25, 26, 27, 28, 29, 30, 31, 32, 33, 34, 35, 36, 37, 38, 39, 40, 41, 42, 43, 44, 45, 46, 47, 48, 49, 50, 51, 52, 53, 54, 55, 56, 57, 58, 59, 60, 61, 62, 63, 64, 65, 66, 67, 68, 69, 70, 71, 72, 73, 74, 75, 76, 77, 78, 79, 80, 81, 82, 83, 84, 85, 86, 87] (by decide +kernel) (by decide +kernel)
set_option maxRecDepth 20000 in
theorem gX4_clear_X4_save : GoodIn wsX4_clear (wsV RX4 49 RX4 yX4_save wsX4_save) := goodIn_app (goodIn_of _ (by decide +kernel)) ggX4_clear_X4_save
theorem dX4_clear_0 : decode cX4_clear 0 = .ok (.aload_n 0, 1) := by decide +kernel
theorem dX4_clear_1 : decode cX4_clear 1 = .ok (.invokevirtual 49, 3) := by decide +kernel
theorem dX4_clear_4 : decode cX4_clear 4 = .ok (.aload_n 0, 1) := by decide +kernel
theorem dX4_clear_5 : decode cX4_clear 5 = .ok (.getfield 30, 3) := by decide +kernel
theorem dX4_clear_8 : decode cX4_clear 8 = .ok (.getfield 95, 3) := by decide +kernel
theorem dX4_clear_11 : decode cX4_clear 11 = .ok (.iconst 1, 1) := by decide +kernel
theorem dX4_clear_12 : decode cX4_clear 12 = .ok (.isub, 1) := by decide +kernel
theorem dX4_clear_13 : decode cX4_clear 13 = .ok (.istore_n 1, 1) := by decide +kernel
theorem dX4_clear_14 : decode cX4_clear 14 = .ok (.aload_n 0, 1) := by decide +kernel
theorem dX4_clear_15 : decode cX4_clear 15 = .ok (.getfield 30, 3) := by decide +kernel
theorem dX4_clear_18 : decode cX4_clear 18 = .ok (.iconst 1, 1) := by decide +kernel
theorem dX4_clear_19 : decode cX4_clear 19 = .ok (.putfield 95, 3) := by decide +kernel
theorem dX4_clear_22 : decode cX4_clear 22 = .ok (.iload_n 1, 1) := by decide +kernel
theorem dX4_clear_23 : decode cX4_clear 23 = .ok (.ireturn, 1) := by decide +kernel
set_option maxRecDepth 20000 in
theorem ggX4_version_X4_requireVersion : GoodIn wsX4_version wsX4_requireVersion := goodIn_ca (goodIn_r _ [8, 9, 10, 3, 11, 12, 13, 14, 15, 16, 51, 52, 53, 54, 55, 56, 57, 58, 59, 60] (by decide +kernel) (by decide +kernel)) (goodIn_sub (fun _ h => List.mem_cons_of_mem _ (List.mem_append_right _ h)) (by decide +kernel))
set_option maxRecDepth 20000 in
theorem gX4_version_X4_requireVersion : GoodIn wsX4_version (wsV RX4 60 RX4 yX4_requireVersion wsX4_requireVersion) := goodIn_app (goodIn_of _ (by decide +kernel)) ggX4_version_X4_requireVersion
set_option maxRecDepth 20000 in
theorem ggX4_version_X1_slot : GoodIn wsX4_version wsX1_slot := goodIn_r _ [20, 21, 22, 23, 24, 25, 26, 27, 28, 29, 30, 31, 32, 33, 34, 35, 36, 37, 38, 39, 40, 41, 42, 56, 57, 58, 59, 60, 61, 62, 63, 64, 65, 66, 67, 68, 69, 70, 71] (by decide +kernel) (by decide +kernel)
set_option maxRecDepth 20000 in
theorem gX4_version_X1_slot : GoodIn wsX4_version (wsV RX4 78 RX1 yX1_slot wsX1_slot) := goodIn_app (goodIn_of _ (by decide +kernel)) ggX4_version_X1_slot
set_option maxRecDepth 20000 in
theorem ggX4_version_X3_fact : GoodIn wsX4_version wsX3_fact := goodIn_r _ [46, 31, 35, 36, 37, 38, 39, 40, 32, 34, 47, 48, 49, 24, 50, 61, 62, 63, 64, 65, 66, 67, 68, 69, 70, 71] (by decide +kernel) (by decide +kernel)
set_option maxRecDepth 20000 in
theorem gX4_version_X3_fact : GoodIn wsX4_version (wsV RX4 102 RX3 yX3_fact wsX3_fact) := goodIn_app (goodIn_of _ (by decide +kernel)) ggX4_version_X3_fact
theorem dX4_version_0 : decode cX4_version 0 = .ok (.aload_n 0, 1) := by decide +kernel
theorem dX4_version_1 : decode cX4_version 1 = .ok (.iload_n 1, 1) := by decide +kernel
theorem dX4_version_2 : decode cX4_version 2 = .ok (.invokevirtual 60, 3) := by decide +kernel
theorem dX4_version_5 : decode cX4_version 5 = .ok (.iload_n 2, 1) := by decide +kernel
theorem dX4_version_6 : decode cX4_version 6 = .ok (.ifCond .lt 9, 3) := by decide +kernel
theorem dX4_version_9 : decode cX4_version 9 = .ok (.iload_n 2, 1) := by decide +kernel
theorem dX4_version_10 : decode cX4_version 10 = .ok (.bipush 10, 2) := by decide +kernel
theorem dX4_version_12 : decode cX4_version 12 = .ok (.if_icmp .lt 13, 3) := by decide +kernel
theorem dX4_version_15 : decode cX4_version 15 = .ok (.new 42, 3) := by decide +kernel
theorem dX4_version_18 : decode cX4_version 18 = .ok (.dup, 1) := by decide +kernel
theorem dX4_version_19 : decode cX4_version 19 = .ok (.ldc 100, 2) := by decide +kernel
theorem dX4_version_21 : decode cX4_version 21 = .ok (.invokespecial 46, 3) := by decide +kernel
theorem dX4_version_24 : decode cX4_version 24 = .ok (.athrow, 1) := by decide +kernel
theorem dX4_version_25 : decode cX4_version 25 = .ok (.aload_n 0, 1) := by decide +kernel
theorem dX4_version_26 : decode cX4_version 26 = .ok (.getfield 30, 3) := by decide +kernel
theorem dX4_version_29 : decode cX4_version 29 = .ok (.iload_n 1, 1) := by decide +kernel
theorem dX4_version_30 : decode cX4_version 30 = .ok (.invokevirtual 78, 3) := by decide +kernel
theorem dX4_version_33 : decode cX4_version 33 = .ok (.iload_n 2, 1) := by decide +kernel
theorem dX4_version_34 : decode cX4_version 34 = .ok (.invokevirtual 102, 3) := by decide +kernel
theorem dX4_version_37 : decode cX4_version 37 = .ok (.ireturn, 1) := by decide +kernel
set_option maxRecDepth 20000 in
theorem ggX4_value_X4_requireVersion : GoodIn wsX4_value wsX4_requireVersion := goodIn_ca (goodIn_r _ [9, 10, 11, 3, 12, 13, 14, 15, 16, 17, 44, 45, 46, 47, 48, 60, 61, 62, 63, 64] (by decide +kernel) (by decide +kernel)) (goodIn_sub (fun _ h => List.mem_cons_of_mem _ (List.mem_append_right _ h)) (by decide +kernel))
set_option maxRecDepth 20000 in
theorem gX4_value_X4_requireVersion : GoodIn wsX4_value (wsV RX4 60 RX4 yX4_requireVersion wsX4_requireVersion) := goodIn_app (goodIn_of _ (by decide +kernel)) ggX4_value_X4_requireVersion
set_option maxRecDepth 20000 in
theorem ggX4_value_X1_slot : GoodIn wsX4_value wsX1_slot := goodIn_r _ [21, 22, 23, 24, 25, 26, 27, 28, 29, 30, 31, 32, 33, 34, 35, 36, 37, 38, 39, 40, 41, 42, 43, 60, 61, 62, 63, 64, 49, 50, 51, 52, 53, 54, 55, 56, 57, 58, 59] (by decide +kernel) (by decide +kernel)
set_option maxRecDepth 20000 in
theorem gX4_value_X1_slot : GoodIn wsX4_value (wsV RX4 78 RX1 yX1_slot wsX1_slot) := goodIn_app (goodIn_of _ (by decide +kernel)) ggX4_value_X1_slot
theorem dX4_value_0 : decode cX4_value 0 = .ok (.aload_n 0, 1) := by decide +kernel
theorem dX4_value_1 : decode cX4_value 1 = .ok (.iload_n 1, 1) := by decide +kernel
theorem dX4_value_2 : decode cX4_value 2 = .ok (.invokevirtual 60, 3) := by decide +kernel
theorem dX4_value_5 : decode cX4_value 5 = .ok (.iload_n 1, 1) := by decide +kernel
theorem dX4_value_6 : decode cX4_value 6 = .ok (.ifCond .ne 13, 3) := by decide +kernel
theorem dX4_value_9 : decode cX4_value 9 = .ok (.new 69, 3) := by decide +kernel
theorem dX4_value_12 : decode cX4_value 12 = .ok (.dup, 1) := by decide +kernel
theorem dX4_value_13 : decode cX4_value 13 = .ok (.ldc 105, 2) := by decide +kernel
theorem dX4_value_15 : decode cX4_value 15 = .ok (.invokespecial 73, 3) := by decide +kernel
theorem dX4_value_18 : decode cX4_value 18 = .ok (.athrow, 1) := by decide +kernel
theorem dX4_value_19 : decode cX4_value 19 = .ok (.aload_n 0, 1) := by decide +kernel
theorem dX4_value_20 : decode cX4_value 20 = .ok (.getfield 30, 3) := by decide +kernel
theorem dX4_value_23 : decode cX4_value 23 = .ok (.iload_n 1, 1) := by decide +kernel
theorem dX4_value_24 : decode cX4_value 24 = .ok (.invokevirtual 78, 3) := by decide +kernel
theorem dX4_value_27 : decode cX4_value 27 = .ok (.getfield 107, 3) := by decide +kernel
theorem dX4_value_30 : decode cX4_value 30 = .ok (.ireturn, 1) := by decide +kernel
set_option maxRecDepth 20000 in
theorem ggX4_at_X4_requirePlace : GoodIn wsX4_at wsX4_requirePlace := goodIn_ca (goodIn_r _ [6, 7, 8, 1, 9, 10, 11, 12, 13, 14, 15, 16, 17, 18, 19, 20, 21, 22, 23, 24, 25, 26, 27, 28, 29, 30, 31, 32, 33, 34, 35, 36, 37, 38, 39, 40, 41, 42, 43, 44, 45, 46, 47, 48, 56, 57, 58, 59, 60, 61, 62, 63, 64, 65, 66, 67, 68, 69, 70, 71, 72, 73, 74, 75, 76] (by decide +kernel) (by decide +kernel)) (goodIn_sub (fun _ h => List.mem_cons_of_mem _ (List.mem_append_right _ h)) (by decide +kernel))
set_option maxRecDepth 20000 in
theorem gX4_at_X4_requirePlace : GoodIn wsX4_at (wsV RX4 110 RX4 yX4_requirePlace wsX4_requirePlace) := goodIn_app (goodIn_of _ (by decide +kernel)) ggX4_at_X4_requirePlace
set_option maxRecDepth 20000 in
theorem ggX4_at_X1_slot : GoodIn wsX4_at wsX1_slot := goodIn_r _ [22, 23, 24, 25, 26, 27, 28, 29, 30, 31, 32, 33, 34, 35, 36, 37, 38, 39, 40, 41, 42, 43, 44, 61, 62, 63, 64, 65, 66, 67, 68, 69, 70, 71, 72, 73, 74, 75, 76] (by decide +kernel) (by decide +kernel)
set_option maxRecDepth 20000 in
theorem gX4_at_X1_slot : GoodIn wsX4_at (wsV RX4 78 RX1 yX1_slot wsX1_slot) := goodIn_app (goodIn_of _ (by decide +kernel)) ggX4_at_X1_slot
set_option maxRecDepth 20000 in
theorem ggX4_at_X3_look : GoodIn wsX4_at wsX3_look := goodIn_r _ [53, 44, 54, 5, 55, 66, 67, 68, 69, 70, 71, 72, 73, 74, 75, 76] (by decide +kernel) (by decide +kernel)
set_option maxRecDepth 20000 in
theorem gX4_at_X3_look : GoodIn wsX4_at (wsV RX4 113 RX3 yX3_look wsX3_look) := goodIn_app (goodIn_of _ (by decide +kernel)) ggX4_at_X3_look
theorem dX4_at_0 : decode cX4_at 0 = .ok (.aload_n 0, 1) := by decide +kernel
theorem dX4_at_1 : decode cX4_at 1 = .ok (.iload_n 1, 1) := by decide +kernel
theorem dX4_at_2 : decode cX4_at 2 = .ok (.iload_n 2, 1) := by decide +kernel
theorem dX4_at_3 : decode cX4_at 3 = .ok (.invokevirtual 110, 3) := by decide +kernel
theorem dX4_at_6 : decode cX4_at 6 = .ok (.aload_n 0, 1) := by decide +kernel
theorem dX4_at_7 : decode cX4_at 7 = .ok (.getfield 30, 3) := by decide +kernel
theorem dX4_at_10 : decode cX4_at 10 = .ok (.iload_n 1, 1) := by decide +kernel
theorem dX4_at_11 : decode cX4_at 11 = .ok (.invokevirtual 78, 3) := by decide +kernel
theorem dX4_at_14 : decode cX4_at 14 = .ok (.iload_n 2, 1) := by decide +kernel
theorem dX4_at_15 : decode cX4_at 15 = .ok (.invokevirtual 113, 3) := by decide +kernel
theorem dX4_at_18 : decode cX4_at 18 = .ok (.ireturn, 1) := by decide +kernel
set_option maxRecDepth 20000 in
theorem ggX4_steps_X4_requirePlace : GoodIn wsX4_steps wsX4_requirePlace := goodIn_ca (goodIn_r _ [7, 8, 9, 1, 10, 11, 12, 13, 14, 15, 16, 17, 18, 19, 20, 21, 22, 23, 24, 25, 26, 27, 28, 29, 30, 31, 32, 33, 34, 35, 36, 37, 38, 39, 40, 41, 42, 43, 44, 45, 46, 47, 48, 49, 52, 53, 54, 55, 56, 68, 69, 70, 71, 72, 57, 58, 59, 60, 61, 62, 63, 64, 65, 66, 67] (by decide +kernel) (by decide +kernel)) (goodIn_sub (fun _ h => List.mem_cons_of_mem _ (List.mem_append_right _ h)) (by decide +kernel))
set_option maxRecDepth 20000 in
theorem gX4_steps_X4_requirePlace : GoodIn wsX4_steps (wsV RX4 110 RX4 yX4_requirePlace wsX4_requirePlace) := goodIn_app (goodIn_of _ (by decide +kernel)) ggX4_steps_X4_requirePlace
set_option maxRecDepth 20000 in
theorem ggX4_steps_X1_slot : GoodIn wsX4_steps wsX1_slot := goodIn_r _ [23, 24, 25, 26, 27, 28, 29, 30, 31, 32, 33, 34, 35, 36, 37, 38, 39, 40, 41, 42, 43, 44, 45, 68, 69, 70, 71, 72, 57, 58, 59, 60, 61, 62, 63, 64, 65, 66, 67] (by decide +kernel) (by decide +kernel)
set_option maxRecDepth 20000 in
theorem gX4_steps_X1_slot : GoodIn wsX4_steps (wsV RX4 78 RX1 yX1_slot wsX1_slot) := goodIn_app (goodIn_of _ (by decide +kernel)) ggX4_steps_X1_slot
set_option maxRecDepth 20000 in
theorem ggX4_steps_X3_size : GoodIn wsX4_steps wsX3_size := goodIn_r _ [49, 38, 39, 57, 58, 59, 60, 61, 62, 63, 64, 65, 66, 67] (by decide +kernel) (by decide +kernel)
set_option maxRecDepth 20000 in
theorem gX4_steps_X3_size : GoodIn wsX4_steps (wsV RX4 82 RX3 yX3_size wsX3_size) := goodIn_app (goodIn_of _ (by decide +kernel)) ggX4_steps_X3_size
theorem dX4_steps_0 : decode cX4_steps 0 = .ok (.aload_n 0, 1) := by decide +kernel
theorem dX4_steps_1 : decode cX4_steps 1 = .ok (.iload_n 1, 1) := by decide +kernel
theorem dX4_steps_2 : decode cX4_steps 2 = .ok (.iload_n 2, 1) := by decide +kernel
theorem dX4_steps_3 : decode cX4_steps 3 = .ok (.invokevirtual 110, 3) := by decide +kernel
theorem dX4_steps_6 : decode cX4_steps 6 = .ok (.aload_n 0, 1) := by decide +kernel
theorem dX4_steps_7 : decode cX4_steps 7 = .ok (.getfield 30, 3) := by decide +kernel
theorem dX4_steps_10 : decode cX4_steps 10 = .ok (.iload_n 1, 1) := by decide +kernel
theorem dX4_steps_11 : decode cX4_steps 11 = .ok (.invokevirtual 78, 3) := by decide +kernel
theorem dX4_steps_14 : decode cX4_steps 14 = .ok (.astore_n 3, 1) := by decide +kernel
theorem dX4_steps_15 : decode cX4_steps 15 = .ok (.iload_n 2, 1) := by decide +kernel
theorem dX4_steps_16 : decode cX4_steps 16 = .ok (.aload_n 3, 1) := by decide +kernel
theorem dX4_steps_17 : decode cX4_steps 17 = .ok (.getfield 116, 3) := by decide +kernel
theorem dX4_steps_20 : decode cX4_steps 20 = .ok (.if_icmp .ge 9, 3) := by decide +kernel
theorem dX4_steps_23 : decode cX4_steps 23 = .ok (.iload_n 2, 1) := by decide +kernel
theorem dX4_steps_24 : decode cX4_steps 24 = .ok (.iconst 1, 1) := by decide +kernel
theorem dX4_steps_25 : decode cX4_steps 25 = .ok (.iadd, 1) := by decide +kernel
theorem dX4_steps_26 : decode cX4_steps 26 = .ok (.goto 9, 3) := by decide +kernel
theorem dX4_steps_29 : decode cX4_steps 29 = .ok (.aload_n 3, 1) := by decide +kernel
theorem dX4_steps_30 : decode cX4_steps 30 = .ok (.invokevirtual 82, 3) := by decide +kernel
theorem dX4_steps_33 : decode cX4_steps 33 = .ok (.iload_n 2, 1) := by decide +kernel
theorem dX4_steps_34 : decode cX4_steps 34 = .ok (.isub, 1) := by decide +kernel
theorem dX4_steps_35 : decode cX4_steps 35 = .ok (.ireturn, 1) := by decide +kernel
set_option maxRecDepth 20000 in
theorem ggX4_count_X1_total : GoodIn wsX4_count wsX1_total := goodIn_r _ [8, 9, 10, 11, 12, 7, 13, 14, 15, 16, 17, 18, 19, 20, 21, 22, 23, 24, 25, 26, 27, 28, 29, 30, 31, 32, 33, 34, 35, 36, 37, 38, 39, 40, 41, 42, 43, 44, 45, 46, 47, 48, 49, 50, 51, 52, 53, 54, 55, 56, 57, 58, 59, 60, 61, 62, 63, 64, 65, 66, 67, 68, 69, 70, 71, 72, 73, 74, 75, 76, 77, 78, 79, 85, 86, 87, 88, 89, 90, 91, 92, 93, 94, 95, 96, 97, 98, 99, 100] (by decide +kernel) (by decide +kernel)
set_option maxRecDepth 20000 in
theorem gX4_count_X1_total : GoodIn wsX4_count (wsV RX4 121 RX1 yX1_total wsX1_total) := goodIn_app (goodIn_of _ (by decide +kernel)) ggX4_count_X1_total
theorem dX4_count_0 : decode cX4_count 0 = .ok (.iload_n 1, 1) := by decide +kernel
theorem dX4_count_1 : decode cX4_count 1 = .ok (.ifCond .lt 9, 3) := by decide +kernel
theorem dX4_count_4 : decode cX4_count 4 = .ok (.iload_n 1, 1) := by decide +kernel
theorem dX4_count_5 : decode cX4_count 5 = .ok (.bipush 8, 2) := by decide +kernel
theorem dX4_count_7 : decode cX4_count 7 = .ok (.if_icmp .lt 13, 3) := by decide +kernel
theorem dX4_count_10 : decode cX4_count 10 = .ok (.new 42, 3) := by decide +kernel
theorem dX4_count_13 : decode cX4_count 13 = .ok (.dup, 1) := by decide +kernel
theorem dX4_count_14 : decode cX4_count 14 = .ok (.ldc 119, 2) := by decide +kernel
theorem dX4_count_16 : decode cX4_count 16 = .ok (.invokespecial 46, 3) := by decide +kernel
theorem dX4_count_19 : decode cX4_count 19 = .ok (.athrow, 1) := by decide +kernel
theorem dX4_count_20 : decode cX4_count 20 = .ok (.aload_n 0, 1) := by decide +kernel
theorem dX4_count_21 : decode cX4_count 21 = .ok (.getfield 30, 3) := by decide +kernel
theorem dX4_count_24 : decode cX4_count 24 = .ok (.iload_n 1, 1) := by decide +kernel
theorem dX4_count_25 : decode cX4_count 25 = .ok (.invokevirtual 121, 3) := by decide +kernel
theorem dX4_count_28 : decode cX4_count 28 = .ok (.ireturn, 1) := by decide +kernel
set_option maxRecDepth 20000 in
theorem ggX4_setting_X1_settingOf : GoodIn wsX4_setting wsX1_settingOf := goodIn_r _ [8, 9, 10, 16, 17, 18, 19, 20] (by decide +kernel) (by decide +kernel)
set_option maxRecDepth 20000 in
theorem gX4_setting_X1_settingOf : GoodIn wsX4_setting (wsV RX4 52 RX1 yX1_settingOf wsX1_settingOf) := goodIn_app (goodIn_of _ (by decide +kernel)) ggX4_setting_X1_settingOf
theorem dX4_setting_0 : decode cX4_setting 0 = .ok (.iload_n 1, 1) := by decide +kernel
theorem dX4_setting_1 : decode cX4_setting 1 = .ok (.ifCond .eq 18, 3) := by decide +kernel
theorem dX4_setting_4 : decode cX4_setting 4 = .ok (.iload_n 1, 1) := by decide +kernel
theorem dX4_setting_5 : decode cX4_setting 5 = .ok (.iconst 1, 1) := by decide +kernel
theorem dX4_setting_6 : decode cX4_setting 6 = .ok (.if_icmp .eq 13, 3) := by decide +kernel
theorem dX4_setting_9 : decode cX4_setting 9 = .ok (.new 42, 3) := by decide +kernel
theorem dX4_setting_12 : decode cX4_setting 12 = .ok (.dup, 1) := by decide +kernel
theorem dX4_setting_13 : decode cX4_setting 13 = .ok (.ldc 124, 2) := by decide +kernel
theorem dX4_setting_15 : decode cX4_setting 15 = .ok (.invokespecial 46, 3) := by decide +kernel
theorem dX4_setting_18 : decode cX4_setting 18 = .ok (.athrow, 1) := by decide +kernel
theorem dX4_setting_19 : decode cX4_setting 19 = .ok (.aload_n 0, 1) := by decide +kernel
theorem dX4_setting_20 : decode cX4_setting 20 = .ok (.getfield 30, 3) := by decide +kernel
theorem dX4_setting_23 : decode cX4_setting 23 = .ok (.iload_n 1, 1) := by decide +kernel
theorem dX4_setting_24 : decode cX4_setting 24 = .ok (.invokevirtual 52, 3) := by decide +kernel
theorem dX4_setting_27 : decode cX4_setting 27 = .ok (.ireturn, 1) := by decide +kernel
set_option maxRecDepth 20000 in
theorem ggX4_common_X4_requireVersion : GoodIn wsX4_common wsX4_requireVersion := goodIn_ca (goodIn_r _ [6, 7, 8, 1, 9, 10, 11, 12, 13, 14, 46, 47, 48, 49, 50, 51, 52, 53, 54, 55] (by decide +kernel) (by decide +kernel)) (goodIn_sub (fun _ h => List.mem_cons_of_mem _ (List.mem_append_right _ h)) (by decide +kernel))
set_option maxRecDepth 20000 in
theorem gX4_common_X4_requireVersion : GoodIn wsX4_common (wsV RX4 60 RX4 yX4_requireVersion wsX4_requireVersion) := goodIn_app (goodIn_of _ (by decide +kernel)) ggX4_common_X4_requireVersion
set_option maxRecDepth 20000 in
theorem ggX4_common_X1_meeting : GoodIn wsX4_common wsX1_meeting := goodIn_r _ [18, 19, 20, 21, 22, 12, 23, 24, 25, 26, 27, 28, 29, 30, 31, 32, 33, 34, 35, 36, 37, 38, 39, 40, 41, 42, 43, 44, 45, 56, 57, 58, 59, 60, 61, 62, 63, 64, 65, 66, 51, 52, 53, 54, 55] (by decide +kernel) (by decide +kernel)
set_option maxRecDepth 20000 in
theorem gX4_common_X1_meeting : GoodIn wsX4_common (wsV RX4 126 RX1 yX1_meeting wsX1_meeting) := goodIn_app (goodIn_of _ (by decide +kernel)) ggX4_common_X1_meeting
theorem dX4_common_0 : decode cX4_common 0 = .ok (.aload_n 0, 1) := by decide +kernel
theorem dX4_common_1 : decode cX4_common 1 = .ok (.iload_n 1, 1) := by decide +kernel
theorem dX4_common_2 : decode cX4_common 2 = .ok (.invokevirtual 60, 3) := by decide +kernel
theorem dX4_common_5 : decode cX4_common 5 = .ok (.aload_n 0, 1) := by decide +kernel
theorem dX4_common_6 : decode cX4_common 6 = .ok (.iload_n 2, 1) := by decide +kernel
theorem dX4_common_7 : decode cX4_common 7 = .ok (.invokevirtual 60, 3) := by decide +kernel
theorem dX4_common_10 : decode cX4_common 10 = .ok (.aload_n 0, 1) := by decide +kernel
theorem dX4_common_11 : decode cX4_common 11 = .ok (.getfield 30, 3) := by decide +kernel
theorem dX4_common_14 : decode cX4_common 14 = .ok (.iload_n 1, 1) := by decide +kernel
theorem dX4_common_15 : decode cX4_common 15 = .ok (.iload_n 2, 1) := by decide +kernel
theorem dX4_common_16 : decode cX4_common 16 = .ok (.invokevirtual 126, 3) := by decide +kernel
theorem dX4_common_19 : decode cX4_common 19 = .ok (.ireturn, 1) := by decide +kernel
set_option maxRecDepth 20000 in
theorem ggX4_same_X4_requireVersion : GoodIn wsX4_same wsX4_requireVersion := goodIn_ca (goodIn_r _ [6, 7, 8, 1, 9, 10, 11, 12, 13, 14, 55, 56, 57, 58, 59, 60, 61, 62, 63, 64] (by decide +kernel) (by decide +kernel)) (goodIn_sub (fun _ h => List.mem_cons_of_mem _ (List.mem_append_right _ h)) (by decide +kernel))
set_option maxRecDepth 20000 in
theorem gX4_same_X4_requireVersion : GoodIn wsX4_same (wsV RX4 60 RX4 yX4_requireVersion wsX4_requireVersion) := goodIn_app (goodIn_of _ (by decide +kernel)) ggX4_same_X4_requireVersion
set_option maxRecDepth 20000 in
theorem ggX4_same_X1_slot : GoodIn wsX4_same wsX1_slot := goodIn_r _ [18, 19, 20, 21, 22, 23, 24, 25, 26, 27, 28, 29, 30, 31, 32, 33, 34, 35, 36, 37, 38, 39, 40, 60, 61, 62, 63, 64, 65, 66, 67, 68, 69, 70, 71, 72, 73, 74, 75] (by decide +kernel) (by decide +kernel)
set_option maxRecDepth 20000 in
theorem gX4_same_X1_slot : GoodIn wsX4_same (wsV RX4 78 RX1 yX1_slot wsX1_slot) := goodIn_app (goodIn_of _ (by decide +kernel)) ggX4_same_X1_slot
set_option maxRecDepth 20000 in
theorem ggX4_same_X3_hasRowOf : GoodIn wsX4_same wsX3_hasRowOf := goodIn_r _ [44, 45, 46, 47, 22, 48, 33, 34, 49, 50, 51, 52, 40, 53, 5, 54, 65, 66, 67, 68, 69, 70, 71, 72, 73, 74, 75] (by decide +kernel) (by decide +kernel)
set_option maxRecDepth 20000 in
theorem gX4_same_X3_hasRowOf : GoodIn wsX4_same (wsV RX4 130 RX3 yX3_hasRowOf wsX3_hasRowOf) := goodIn_app (goodIn_of _ (by decide +kernel)) ggX4_same_X3_hasRowOf
theorem dX4_same_0 : decode cX4_same 0 = .ok (.aload_n 0, 1) := by decide +kernel
theorem dX4_same_1 : decode cX4_same 1 = .ok (.iload_n 1, 1) := by decide +kernel
theorem dX4_same_2 : decode cX4_same 2 = .ok (.invokevirtual 60, 3) := by decide +kernel
theorem dX4_same_5 : decode cX4_same 5 = .ok (.aload_n 0, 1) := by decide +kernel
theorem dX4_same_6 : decode cX4_same 6 = .ok (.iload_n 2, 1) := by decide +kernel
theorem dX4_same_7 : decode cX4_same 7 = .ok (.invokevirtual 60, 3) := by decide +kernel
theorem dX4_same_10 : decode cX4_same 10 = .ok (.aload_n 0, 1) := by decide +kernel
theorem dX4_same_11 : decode cX4_same 11 = .ok (.getfield 30, 3) := by decide +kernel
theorem dX4_same_14 : decode cX4_same 14 = .ok (.iload_n 1, 1) := by decide +kernel
theorem dX4_same_15 : decode cX4_same 15 = .ok (.invokevirtual 78, 3) := by decide +kernel
theorem dX4_same_18 : decode cX4_same 18 = .ok (.aload_n 0, 1) := by decide +kernel
theorem dX4_same_19 : decode cX4_same 19 = .ok (.getfield 30, 3) := by decide +kernel
theorem dX4_same_22 : decode cX4_same 22 = .ok (.iload_n 2, 1) := by decide +kernel
theorem dX4_same_23 : decode cX4_same 23 = .ok (.invokevirtual 78, 3) := by decide +kernel
theorem dX4_same_26 : decode cX4_same 26 = .ok (.invokevirtual 130, 3) := by decide +kernel
theorem dX4_same_29 : decode cX4_same 29 = .ok (.ireturn, 1) := by decide +kernel
set_option maxRecDepth 20000 in
theorem ggX4_firstLike_X4_requireVersion : GoodIn wsX4_firstLike wsX4_requireVersion := goodIn_ca (goodIn_r _ [6, 7, 8, 1, 9, 10, 11, 12, 13, 14, 59, 60, 61, 62, 63, 64, 65, 66, 67, 68] (by decide +kernel) (by decide +kernel)) (goodIn_sub (fun _ h => List.mem_cons_of_mem _ (List.mem_append_right _ h)) (by decide +kernel))
set_option maxRecDepth 20000 in
theorem gX4_firstLike_X4_requireVersion : GoodIn wsX4_firstLike (wsV RX4 60 RX4 yX4_requireVersion wsX4_requireVersion) := goodIn_app (goodIn_of _ (by decide +kernel)) ggX4_firstLike_X4_requireVersion
set_option maxRecDepth 20000 in
theorem ggX4_firstLike_X1_firstWithRowOf : GoodIn wsX4_firstLike wsX1_firstWithRowOf := goodIn_r _ [18, 19, 20, 21, 12, 22, 23, 24, 25, 26, 27, 28, 29, 30, 31, 32, 33, 34, 35, 36, 37, 38, 39, 40, 41, 42, 43, 44, 45, 46, 47, 48, 49, 50, 51, 52, 53, 54, 55, 56, 57, 5, 58, 64, 65, 66, 67, 68, 69, 70, 71, 72, 73, 74, 75, 76, 77, 78, 79] (by decide +kernel) (by decide +kernel)
set_option maxRecDepth 20000 in
theorem gX4_firstLike_X1_firstWithRowOf : GoodIn wsX4_firstLike (wsV RX4 134 RX1 yX1_firstWithRowOf wsX1_firstWithRowOf) := goodIn_app (goodIn_of _ (by decide +kernel)) ggX4_firstLike_X1_firstWithRowOf
theorem dX4_firstLike_0 : decode cX4_firstLike 0 = .ok (.aload_n 0, 1) := by decide +kernel
theorem dX4_firstLike_1 : decode cX4_firstLike 1 = .ok (.iload_n 1, 1) := by decide +kernel
theorem dX4_firstLike_2 : decode cX4_firstLike 2 = .ok (.invokevirtual 60, 3) := by decide +kernel
theorem dX4_firstLike_5 : decode cX4_firstLike 5 = .ok (.aload_n 0, 1) := by decide +kernel
theorem dX4_firstLike_6 : decode cX4_firstLike 6 = .ok (.getfield 30, 3) := by decide +kernel
theorem dX4_firstLike_9 : decode cX4_firstLike 9 = .ok (.iload_n 1, 1) := by decide +kernel
theorem dX4_firstLike_10 : decode cX4_firstLike 10 = .ok (.invokevirtual 134, 3) := by decide +kernel
theorem dX4_firstLike_13 : decode cX4_firstLike 13 = .ok (.ireturn, 1) := by decide +kernel
set_option maxRecDepth 20000 in
theorem ggX4_worst_X4_requireVersion : GoodIn wsX4_worst wsX4_requireVersion := goodIn_ca (goodIn_r _ [6, 7, 8, 1, 9, 10, 11, 12, 13, 14, 51, 52, 53, 54, 55, 56, 57, 58, 59, 60] (by decide +kernel) (by decide +kernel)) (goodIn_sub (fun _ h => List.mem_cons_of_mem _ (List.mem_append_right _ h)) (by decide +kernel))
set_option maxRecDepth 20000 in
theorem gX4_worst_X4_requireVersion : GoodIn wsX4_worst (wsV RX4 60 RX4 yX4_requireVersion wsX4_requireVersion) := goodIn_app (goodIn_of _ (by decide +kernel)) ggX4_worst_X4_requireVersion
set_option maxRecDepth 20000 in
theorem ggX4_worst_X1_greatestCostOnWay : GoodIn wsX4_worst wsX1_greatestCostOnWay := goodIn_r _ [18, 19, 20, 21, 22, 23, 24, 25, 26, 27, 12, 28, 29, 30, 31, 32, 33, 34, 35, 36, 37, 38, 39, 40, 41, 42, 43, 44, 45, 46, 47, 48, 49, 50, 61, 62, 63, 64, 65, 66, 67, 68, 69, 70, 71, 56, 57, 58, 59, 60] (by decide +kernel) (by decide +kernel)
set_option maxRecDepth 20000 in
theorem gX4_worst_X1_greatestCostOnWay : GoodIn wsX4_worst (wsV RX4 137 RX1 yX1_greatestCostOnWay wsX1_greatestCostOnWay) := goodIn_app (goodIn_of _ (by decide +kernel)) ggX4_worst_X1_greatestCostOnWay
theorem dX4_worst_0 : decode cX4_worst 0 = .ok (.aload_n 0, 1) := by decide +kernel
theorem dX4_worst_1 : decode cX4_worst 1 = .ok (.iload_n 1, 1) := by decide +kernel
theorem dX4_worst_2 : decode cX4_worst 2 = .ok (.invokevirtual 60, 3) := by decide +kernel
theorem dX4_worst_5 : decode cX4_worst 5 = .ok (.aload_n 0, 1) := by decide +kernel
theorem dX4_worst_6 : decode cX4_worst 6 = .ok (.getfield 30, 3) := by decide +kernel
theorem dX4_worst_9 : decode cX4_worst 9 = .ok (.iload_n 1, 1) := by decide +kernel
theorem dX4_worst_10 : decode cX4_worst 10 = .ok (.invokevirtual 137, 3) := by decide +kernel
theorem dX4_worst_13 : decode cX4_worst 13 = .ok (.ireturn, 1) := by decide +kernel
set_option maxRecDepth 20000 in
theorem ggX4_mean_X4_requireVersion : GoodIn wsX4_mean wsX4_requireVersion := goodIn_ca (goodIn_r _ [7, 8, 9, 1, 10, 11, 12, 13, 14, 15, 49, 50, 51, 52, 53, 65, 66, 67, 68, 69] (by decide +kernel) (by decide +kernel)) (goodIn_sub (fun _ h => List.mem_cons_of_mem _ (List.mem_append_right _ h)) (by decide +kernel))
set_option maxRecDepth 20000 in
theorem gX4_mean_X4_requireVersion : GoodIn wsX4_mean (wsV RX4 60 RX4 yX4_requireVersion wsX4_requireVersion) := goodIn_app (goodIn_of _ (by decide +kernel)) ggX4_mean_X4_requireVersion
set_option maxRecDepth 20000 in
theorem ggX4_mean_X1_slot : GoodIn wsX4_mean wsX1_slot := goodIn_r _ [19, 20, 21, 22, 23, 24, 25, 26, 27, 28, 29, 30, 31, 32, 33, 34, 35, 36, 37, 38, 39, 40, 41, 65, 66, 67, 68, 69, 54, 55, 56, 57, 58, 59, 60, 61, 62, 63, 64] (by decide +kernel) (by decide +kernel)
set_option maxRecDepth 20000 in
theorem gX4_mean_X1_slot : GoodIn wsX4_mean (wsV RX4 78 RX1 yX1_slot wsX1_slot) := goodIn_app (goodIn_of _ (by decide +kernel)) ggX4_mean_X1_slot
set_option maxRecDepth 20000 in
theorem ggX4_mean_X1_sumOfCostsOnWay : GoodIn wsX4_mean wsX1_sumOfCostsOnWay := goodIn_r _ [45, 46, 47, 48, 17, 18, 13, 19, 20, 21, 22, 23, 24, 25, 26, 27, 28, 29, 30, 31, 32, 33, 34, 35, 36, 37, 38, 39, 40, 41, 54, 55, 56, 57, 58, 59, 60, 61, 62, 63, 64, 65, 66, 67, 68, 69] (by decide +kernel) (by decide +kernel)
set_option maxRecDepth 20000 in
theorem gX4_mean_X1_sumOfCostsOnWay : GoodIn wsX4_mean (wsV RX4 143 RX1 yX1_sumOfCostsOnWay wsX1_sumOfCostsOnWay) := goodIn_app (goodIn_of _ (by decide +kernel)) ggX4_mean_X1_sumOfCostsOnWay
theorem dX4_mean_0 : decode cX4_mean 0 = .ok (.aload_n 0, 1) := by decide +kernel
theorem dX4_mean_1 : decode cX4_mean 1 = .ok (.iload_n 1, 1) := by decide +kernel
theorem dX4_mean_2 : decode cX4_mean 2 = .ok (.invokevirtual 60, 3) := by decide +kernel
theorem dX4_mean_5 : decode cX4_mean 5 = .ok (.aload_n 0, 1) := by decide +kernel
theorem dX4_mean_6 : decode cX4_mean 6 = .ok (.getfield 30, 3) := by decide +kernel
theorem dX4_mean_9 : decode cX4_mean 9 = .ok (.iload_n 1, 1) := by decide +kernel
theorem dX4_mean_10 : decode cX4_mean 10 = .ok (.invokevirtual 78, 3) := by decide +kernel
theorem dX4_mean_13 : decode cX4_mean 13 = .ok (.getfield 140, 3) := by decide +kernel
theorem dX4_mean_16 : decode cX4_mean 16 = .ok (.istore_n 2, 1) := by decide +kernel
theorem dX4_mean_17 : decode cX4_mean 17 = .ok (.iload_n 2, 1) := by decide +kernel
theorem dX4_mean_18 : decode cX4_mean 18 = .ok (.ifCond .gt 5, 3) := by decide +kernel
theorem dX4_mean_21 : decode cX4_mean 21 = .ok (.dconst 0, 1) := by decide +kernel
theorem dX4_mean_22 : decode cX4_mean 22 = .ok (.dreturn, 1) := by decide +kernel
theorem dX4_mean_23 : decode cX4_mean 23 = .ok (.aload_n 0, 1) := by decide +kernel
theorem dX4_mean_24 : decode cX4_mean 24 = .ok (.getfield 30, 3) := by decide +kernel
theorem dX4_mean_27 : decode cX4_mean 27 = .ok (.iload_n 1, 1) := by decide +kernel
theorem dX4_mean_28 : decode cX4_mean 28 = .ok (.invokevirtual 143, 3) := by decide +kernel
theorem dX4_mean_31 : decode cX4_mean 31 = .ok (.i2d, 1) := by decide +kernel
theorem dX4_mean_32 : decode cX4_mean 32 = .ok (.iload_n 2, 1) := by decide +kernel
theorem dX4_mean_33 : decode cX4_mean 33 = .ok (.i2d, 1) := by decide +kernel
theorem dX4_mean_34 : decode cX4_mean 34 = .ok (.ddiv, 1) := by decide +kernel
theorem dX4_mean_35 : decode cX4_mean 35 = .ok (.dreturn, 1) := by decide +kernel
set_option maxRecDepth 20000 in
theorem ggX4_append_X0_extend : GoodIn wsX4_append wsX0_extend := goodIn_r _ [11, 12, 13, 14, 15, 16, 22, 23, 24, 25, 26, 27, 28, 29] (by decide +kernel) (by decide +kernel)
set_option maxRecDepth 20000 in
theorem gX4_append_X0_extend : GoodIn wsX4_append (wsV RX4 153 RX0 yX0_extend wsX0_extend) := goodIn_app (goodIn_of _ (by decide +kernel)) ggX4_append_X0_extend
theorem dX4_append_0 : decode cX4_append 0 = .ok (.iload_n 1, 1) := by decide +kernel
theorem dX4_append_1 : decode cX4_append 1 = .ok (.ifCond .lt 9, 3) := by decide +kernel
theorem dX4_append_4 : decode cX4_append 4 = .ok (.iload_n 1, 1) := by decide +kernel
theorem dX4_append_5 : decode cX4_append 5 = .ok (.bipush 127, 2) := by decide +kernel
theorem dX4_append_7 : decode cX4_append 7 = .ok (.if_icmp .le 13, 3) := by decide +kernel
theorem dX4_append_10 : decode cX4_append 10 = .ok (.new 42, 3) := by decide +kernel
theorem dX4_append_13 : decode cX4_append 13 = .ok (.dup, 1) := by decide +kernel
theorem dX4_append_14 : decode cX4_append 14 = .ok (.ldc 146, 2) := by decide +kernel
theorem dX4_append_16 : decode cX4_append 16 = .ok (.invokespecial 46, 3) := by decide +kernel
theorem dX4_append_19 : decode cX4_append 19 = .ok (.athrow, 1) := by decide +kernel
theorem dX4_append_20 : decode cX4_append 20 = .ok (.aload_n 0, 1) := by decide +kernel
theorem dX4_append_21 : decode cX4_append 21 = .ok (.getfield 12, 3) := by decide +kernel
theorem dX4_append_24 : decode cX4_append 24 = .ok (.getfield 148, 3) := by decide +kernel
theorem dX4_append_27 : decode cX4_append 27 = .ok (.bipush 100, 2) := by decide +kernel
theorem dX4_append_29 : decode cX4_append 29 = .ok (.if_icmp .lt 13, 3) := by decide +kernel
theorem dX4_append_32 : decode cX4_append 32 = .ok (.new 69, 3) := by decide +kernel
theorem dX4_append_35 : decode cX4_append 35 = .ok (.dup, 1) := by decide +kernel
theorem dX4_append_36 : decode cX4_append 36 = .ok (.ldc 151, 2) := by decide +kernel
theorem dX4_append_38 : decode cX4_append 38 = .ok (.invokespecial 73, 3) := by decide +kernel
theorem dX4_append_41 : decode cX4_append 41 = .ok (.athrow, 1) := by decide +kernel
theorem dX4_append_42 : decode cX4_append 42 = .ok (.aload_n 0, 1) := by decide +kernel
theorem dX4_append_43 : decode cX4_append 43 = .ok (.getfield 12, 3) := by decide +kernel
theorem dX4_append_46 : decode cX4_append 46 = .ok (.iload_n 1, 1) := by decide +kernel
theorem dX4_append_47 : decode cX4_append 47 = .ok (.invokevirtual 153, 3) := by decide +kernel
theorem dX4_append_50 : decode cX4_append 50 = .ok (.aload_n 0, 1) := by decide +kernel
theorem dX4_append_51 : decode cX4_append 51 = .ok (.getfield 12, 3) := by decide +kernel
theorem dX4_append_54 : decode cX4_append 54 = .ok (.getfield 148, 3) := by decide +kernel
theorem dX4_append_57 : decode cX4_append 57 = .ok (.ireturn, 1) := by decide +kernel
theorem dX4_clearText_0 : decode cX4_clearText 0 = .ok (.aload_n 0, 1) := by decide +kernel
theorem dX4_clearText_1 : decode cX4_clearText 1 = .ok (.getfield 12, 3) := by decide +kernel
theorem dX4_clearText_4 : decode cX4_clearText 4 = .ok (.getfield 148, 3) := by decide +kernel
theorem dX4_clearText_7 : decode cX4_clearText 7 = .ok (.istore_n 1, 1) := by decide +kernel
theorem dX4_clearText_8 : decode cX4_clearText 8 = .ok (.aload_n 0, 1) := by decide +kernel
theorem dX4_clearText_9 : decode cX4_clearText 9 = .ok (.getfield 12, 3) := by decide +kernel
theorem dX4_clearText_12 : decode cX4_clearText 12 = .ok (.iconst 0, 1) := by decide +kernel
theorem dX4_clearText_13 : decode cX4_clearText 13 = .ok (.putfield 148, 3) := by decide +kernel
theorem dX4_clearText_16 : decode cX4_clearText 16 = .ok (.iload_n 1, 1) := by decide +kernel
theorem dX4_clearText_17 : decode cX4_clearText 17 = .ok (.ireturn, 1) := by decide +kernel
set_option maxRecDepth 20000 in
theorem ggX4_run_X4_requireVersion : GoodIn wsX4_run wsX4_requireVersion := goodIn_ca (goodIn_r _ [7, 8, 9, 2, 10, 11, 12, 13, 14, 15, 187, 188, 189, 190, 191, 192, 193, 194, 195, 196] (by decide +kernel) (by decide +kernel)) (goodIn_sub (fun _ h => List.mem_cons_of_mem _ (List.mem_append_right _ h)) (by decide +kernel))
set_option maxRecDepth 20000 in
theorem gX4_run_X4_requireVersion : GoodIn wsX4_run (wsV RX4 60 RX4 yX4_requireVersion wsX4_requireVersion) := goodIn_app (goodIn_of _ (by decide +kernel)) ggX4_run_X4_requireVersion
set_option maxRecDepth 20000 in
theorem ggX4_run_X0_read : GoodIn wsX4_run wsX0_read := goodIn_r _ [20, 21, 22, 23, 24, 6, 25, 26, 27, 28, 19, 29, 30, 31, 32, 33, 34, 35, 36, 37, 38, 39, 40, 41, 42, 43, 44, 197, 198, 199, 200, 201, 202, 203, 204] (by decide +kernel) (by decide +kernel)
set_option maxRecDepth 20000 in
theorem gX4_run_X0_read : GoodIn wsX4_run (wsV RX4 156 RX0 yX0_read wsX0_read) := goodIn_app (goodIn_of _ (by decide +kernel)) ggX4_run_X0_read
set_option maxRecDepth 20000 in
theorem ggX4_run_X4_save : GoodIn wsX4_run wsX4_save := goodIn_r _ [48, 49, 50, 51, 52, 13, 2, 53, 54, 55, 6, 56, 57, 58, 59, 60, 61, 62, 15, 63, 64, 65, 66, 67, 68, 69, 70, 71, 72, 73, 74, 75, 76, 77, 78, 79, 80, 81, 82, 83, 84, 85, 86, 87, 88, 89, 90, 91, 92, 93, 94, 95, 96, 97, 98, 99, 100, 101, 102, 103, 104, 105, 187, 188, 189, 190, 191, 192, 193, 194, 195, 196, 205, 206, 207, 208, 209, 210, 211, 212, 213, 214, 215] (by decide +kernel) (by decide +kernel)
set_option maxRecDepth 20000 in
theorem gX4_run_X4_save : GoodIn wsX4_run (wsV RX4 49 RX4 yX4_save wsX4_save) := goodIn_app (goodIn_of _ (by decide +kernel)) ggX4_run_X4_save
set_option maxRecDepth 20000 in
theorem ggX4_run_X1_growBy : GoodIn wsX4_run wsX1_growBy := goodIn_r _ [109, 110, 111, 112, 113, 19, 114, 41, 24, 6, 25, 115, 116, 117, 13, 118, 119, 120, 121, 122, 15, 73, 74, 75, 76, 66, 65, 77, 78, 79, 80, 81, 82, 61, 62, 83, 84, 85, 86, 87, 88, 89, 90, 91, 92, 67, 93, 123, 124, 125, 126, 127, 128, 102, 103, 104, 105, 129, 130, 131, 132, 42, 133, 134, 135, 136, 137, 63, 64, 94, 95, 96, 97, 98, 99, 100, 101, 138, 139, 140, 141, 142, 143, 144, 145, 146, 147, 148, 149, 150, 151, 43, 44, 152, 153, 154, 155, 156, 157, 158, 159, 160, 161, 162, 163, 164, 165, 166, 167, 168, 169, 170, 171, 172, 173, 174, 175, 176, 177, 178, 179, 180, 181, 182, 183, 184, 185, 186, 197, 198, 199, 200, 201, 202, 203, 204, 192, 193, 194, 195, 196, 205, 206, 207, 208, 209, 210, 211, 212, 213, 214, 215] (by decide +kernel) (by decide +kernel)
set_option maxRecDepth 20000 in
theorem gX4_run_X1_growBy : GoodIn wsX4_run (wsV RX4 159 RX1 yX1_growBy wsX1_growBy) := goodIn_app (goodIn_of _ (by decide +kernel)) ggX4_run_X1_growBy
theorem dX4_run_0 : decode cX4_run 0 = .ok (.aload_n 0, 1) := by decide +kernel
theorem dX4_run_1 : decode cX4_run 1 = .ok (.iload_n 1, 1) := by decide +kernel
theorem dX4_run_2 : decode cX4_run 2 = .ok (.invokevirtual 60, 3) := by decide +kernel
theorem dX4_run_5 : decode cX4_run 5 = .ok (.aload_n 0, 1) := by decide +kernel
theorem dX4_run_6 : decode cX4_run 6 = .ok (.getfield 12, 3) := by decide +kernel
theorem dX4_run_9 : decode cX4_run 9 = .ok (.invokevirtual 156, 3) := by decide +kernel
theorem dX4_run_12 : decode cX4_run 12 = .ok (.istore_n 2, 1) := by decide +kernel
theorem dX4_run_13 : decode cX4_run 13 = .ok (.iload_n 2, 1) := by decide +kernel
theorem dX4_run_14 : decode cX4_run 14 = .ok (.iconst (-1), 1) := by decide +kernel
theorem dX4_run_15 : decode cX4_run 15 = .ok (.if_icmp .eq 8, 3) := by decide +kernel
theorem dX4_run_18 : decode cX4_run 18 = .ok (.bipush (-10), 2) := by decide +kernel
theorem dX4_run_20 : decode cX4_run 20 = .ok (.iload_n 2, 1) := by decide +kernel
theorem dX4_run_21 : decode cX4_run 21 = .ok (.isub, 1) := by decide +kernel
theorem dX4_run_22 : decode cX4_run 22 = .ok (.ireturn, 1) := by decide +kernel
theorem dX4_run_23 : decode cX4_run 23 = .ok (.aload_n 0, 1) := by decide +kernel
theorem dX4_run_24 : decode cX4_run 24 = .ok (.invokevirtual 49, 3) := by decide +kernel
theorem dX4_run_27 : decode cX4_run 27 = .ok (.aload_n 0, 1) := by decide +kernel
theorem dX4_run_28 : decode cX4_run 28 = .ok (.getfield 30, 3) := by decide +kernel
theorem dX4_run_31 : decode cX4_run 31 = .ok (.aload_n 0, 1) := by decide +kernel
theorem dX4_run_32 : decode cX4_run 32 = .ok (.getfield 12, 3) := by decide +kernel
theorem dX4_run_35 : decode cX4_run 35 = .ok (.iload_n 1, 1) := by decide +kernel
theorem dX4_run_36 : decode cX4_run 36 = .ok (.invokevirtual 159, 3) := by decide +kernel
theorem dX4_run_39 : decode cX4_run 39 = .ok (.ireturn, 1) := by decide +kernel
set_option maxRecDepth 20000 in
theorem ggX4_stalls_X4_requireVersion : GoodIn wsX4_stalls wsX4_requireVersion := goodIn_ca (goodIn_r _ [9, 10, 11, 3, 12, 13, 14, 15, 16, 17, 180, 181, 182, 183, 184, 188, 189, 190, 191, 192] (by decide +kernel) (by decide +kernel)) (goodIn_sub (fun _ h => List.mem_cons_of_mem _ (List.mem_append_left _ (List.mem_append_left _ (List.mem_append_right _ h)))) (by decide +kernel))
set_option maxRecDepth 20000 in
theorem gX4_stalls_X4_requireVersion : GoodIn wsX4_stalls (wsV RX4 60 RX4 yX4_requireVersion wsX4_requireVersion) := goodIn_app (goodIn_of _ (by decide +kernel)) ggX4_stalls_X4_requireVersion
set_option maxRecDepth 20000 in
theorem ggX4_stalls_X4_requireRate : GoodIn wsX4_stalls wsX4_requireRate := goodIn_ca (goodIn_r _ [20, 21, 22, 23, 24, 8, 25] (by decide +kernel) (by decide +kernel)) (goodIn_sub (fun _ h => List.mem_cons_of_mem _ (List.mem_append_left _ (List.mem_append_right _ h))) (by decide +kernel))
set_option maxRecDepth 20000 in
theorem gX4_stalls_X4_requireRate : GoodIn wsX4_stalls (va_wsS RX4 163 yX4_requireRate wsX4_requireRate) := goodIn_app (goodIn_of _ (by decide +kernel)) ggX4_stalls_X4_requireRate
set_option maxRecDepth 20000 in
theorem ggX4_stalls_X4_requireReadableText : GoodIn wsX4_stalls wsX4_requireReadableText := goodIn_ca (goodIn_r _ [29, 30, 31, 2, 32, 33, 34, 35, 36, 37, 38, 39, 40, 8, 41, 42, 43, 44, 45, 46, 47, 48, 49, 50, 51, 52, 53, 54, 55, 56, 57, 58, 59, 60, 180, 181, 182, 183, 184, 193, 194, 195, 196, 197, 198, 199, 200] (by decide +kernel) (by decide +kernel)) (goodIn_sub (fun _ h => List.mem_cons_of_mem _ (List.mem_append_right _ h)) (by decide +kernel))
set_option maxRecDepth 20000 in
theorem gX4_stalls_X4_requireReadableText : GoodIn wsX4_stalls (wsV RX4 166 RX4 yX4_requireReadableText wsX4_requireReadableText) := goodIn_app (goodIn_of _ (by decide +kernel)) ggX4_stalls_X4_requireReadableText
set_option maxRecDepth 20000 in
theorem ggX4_stalls_X2_play : GoodIn wsX4_stalls wsX2_play := goodIn_r _ [65, 66, 67, 68, 69, 70, 71, 72, 73, 74, 75, 76, 77, 78, 79, 80, 81, 82, 15, 83, 84, 85, 86, 87, 88, 89, 90, 91, 92, 93, 94, 95, 96, 97, 98, 99, 100, 101, 102, 103, 104, 105, 106, 107, 108, 109, 110, 111, 112, 113, 114, 115, 116, 117, 118, 119, 120, 121, 17, 122, 123, 124, 35, 125, 57, 40, 8, 41, 126, 127, 128, 129, 130, 131, 132, 133, 134, 135, 58, 136, 137, 138, 139, 140, 141, 142, 143, 144, 145, 146, 147, 148, 149, 59, 60, 150, 151, 152, 153, 154, 155, 156, 157, 158, 159, 160, 161, 162, 163, 164, 165, 166, 167, 168, 169, 170, 171, 172, 173, 174, 175, 176, 177, 178, 179, 185, 186, 187, 193, 194, 195, 196, 197, 198, 199, 200, 188, 189, 190, 191, 192, 201, 202, 203, 204, 205, 206, 207, 208, 209, 210, 211] (by decide +kernel) (by decide +kernel)
set_option maxRecDepth 20000 in
theorem gX4_stalls_X2_play : GoodIn wsX4_stalls (wsV RX4 169 RX2 yX2_play wsX2_play) := goodIn_app (goodIn_of _ (by decide +kernel)) ggX4_stalls_X2_play
theorem dX4_stalls_0 : decode cX4_stalls 0 = .ok (.aload_n 0, 1) := by decide +kernel
theorem dX4_stalls_1 : decode cX4_stalls 1 = .ok (.iload_n 1, 1) := by decide +kernel
theorem dX4_stalls_2 : decode cX4_stalls 2 = .ok (.invokevirtual 60, 3) := by decide +kernel
theorem dX4_stalls_5 : decode cX4_stalls 5 = .ok (.iload_n 2, 1) := by decide +kernel
theorem dX4_stalls_6 : decode cX4_stalls 6 = .ok (.invokestatic 163, 3) := by decide +kernel
theorem dX4_stalls_9 : decode cX4_stalls 9 = .ok (.aload_n 0, 1) := by decide +kernel
theorem dX4_stalls_10 : decode cX4_stalls 10 = .ok (.invokevirtual 166, 3) := by decide +kernel
theorem dX4_stalls_13 : decode cX4_stalls 13 = .ok (.aload_n 0, 1) := by decide +kernel
theorem dX4_stalls_14 : decode cX4_stalls 14 = .ok (.getfield 19, 3) := by decide +kernel
theorem dX4_stalls_17 : decode cX4_stalls 17 = .ok (.aload_n 0, 1) := by decide +kernel
theorem dX4_stalls_18 : decode cX4_stalls 18 = .ok (.getfield 12, 3) := by decide +kernel
theorem dX4_stalls_21 : decode cX4_stalls 21 = .ok (.aload_n 0, 1) := by decide +kernel
theorem dX4_stalls_22 : decode cX4_stalls 22 = .ok (.getfield 30, 3) := by decide +kernel
theorem dX4_stalls_25 : decode cX4_stalls 25 = .ok (.iload_n 1, 1) := by decide +kernel
theorem dX4_stalls_26 : decode cX4_stalls 26 = .ok (.iload_n 2, 1) := by decide +kernel
theorem dX4_stalls_27 : decode cX4_stalls 27 = .ok (.invokevirtual 169, 3) := by decide +kernel
theorem dX4_stalls_30 : decode cX4_stalls 30 = .ok (.aload_n 0, 1) := by decide +kernel
theorem dX4_stalls_31 : decode cX4_stalls 31 = .ok (.getfield 19, 3) := by decide +kernel
theorem dX4_stalls_34 : decode cX4_stalls 34 = .ok (.getfield 173, 3) := by decide +kernel
theorem dX4_stalls_37 : decode cX4_stalls 37 = .ok (.ireturn, 1) := by decide +kernel
set_option maxRecDepth 20000 in
theorem ggX4_worstWith_X4_requireVersion : GoodIn wsX4_worstWith wsX4_requireVersion := goodIn_ca (goodIn_r _ [9, 10, 11, 3, 12, 13, 14, 15, 16, 17, 180, 181, 182, 183, 184, 188, 189, 190, 191, 192] (by decide +kernel) (by decide +kernel)) (goodIn_sub (fun _ h => List.mem_cons_of_mem _ (List.mem_append_left _ (List.mem_append_left _ (List.mem_append_right _ h)))) (by decide +kernel))
set_option maxRecDepth 20000 in
theorem gX4_worstWith_X4_requireVersion : GoodIn wsX4_worstWith (wsV RX4 60 RX4 yX4_requireVersion wsX4_requireVersion) := goodIn_app (goodIn_of _ (by decide +kernel)) ggX4_worstWith_X4_requireVersion
set_option maxRecDepth 20000 in
theorem ggX4_worstWith_X4_requireRate : GoodIn wsX4_worstWith wsX4_requireRate := goodIn_ca (goodIn_r _ [20, 21, 22, 23, 24, 8, 25] (by decide +kernel) (by decide +kernel)) (goodIn_sub (fun _ h => List.mem_cons_of_mem _ (List.mem_append_left _ (List.mem_append_right _ h))) (by decide +kernel))
set_option maxRecDepth 20000 in
theorem gX4_worstWith_X4_requireRate : GoodIn wsX4_worstWith (va_wsS RX4 163 yX4_requireRate wsX4_requireRate) := goodIn_app (goodIn_of _ (by decide +kernel)) ggX4_worstWith_X4_requireRate
set_option maxRecDepth 20000 in
theorem ggX4_worstWith_X4_requireReadableText : GoodIn wsX4_worstWith wsX4_requireReadableText := goodIn_ca (goodIn_r _ [29, 30, 31, 2, 32, 33, 34, 35, 36, 37, 38, 39, 40, 8, 41, 42, 43, 44, 45, 46, 47, 48, 49, 50, 51, 52, 53, 54, 55, 56, 57, 58, 59, 60, 180, 181, 182, 183, 184, 193, 194, 195, 196, 197, 198, 199, 200] (by decide +kernel) (by decide +kernel)) (goodIn_sub (fun _ h => List.mem_cons_of_mem _ (List.mem_append_right _ h)) (by decide +kernel))
set_option maxRecDepth 20000 in
theorem gX4_worstWith_X4_requireReadableText : GoodIn wsX4_worstWith (wsV RX4 166 RX4 yX4_requireReadableText wsX4_requireReadableText) := goodIn_app (goodIn_of _ (by decide +kernel)) ggX4_worstWith_X4_requireReadableText
set_option maxRecDepth 20000 in
theorem ggX4_worstWith_X2_play : GoodIn wsX4_worstWith wsX2_play := goodIn_r _ [65, 66, 67, 68, 69, 70, 71, 72, 73, 74, 75, 76, 77, 78, 79, 80, 81, 82, 15, 83, 84, 85, 86, 87, 88, 89, 90, 91, 92, 93, 94, 95, 96, 97, 98, 99, 100, 101, 102, 103, 104, 105, 106, 107, 108, 109, 110, 111, 112, 113, 114, 115, 116, 117, 118, 119, 120, 121, 17, 122, 123, 124, 35, 125, 57, 40, 8, 41, 126, 127, 128, 129, 130, 131, 132, 133, 134, 135, 58, 136, 137, 138, 139, 140, 141, 142, 143, 144, 145, 146, 147, 148, 149, 59, 60, 150, 151, 152, 153, 154, 155, 156, 157, 158, 159, 160, 161, 162, 163, 164, 165, 166, 167, 168, 169, 170, 171, 172, 173, 174, 175, 176, 177, 178, 179, 185, 186, 187, 193, 194, 195, 196, 197, 198, 199, 200, 188, 189, 190, 191, 192, 201, 202, 203, 204, 205, 206, 207, 208, 209, 210, 211] (by decide +kernel) (by decide +kernel)
set_option maxRecDepth 20000 in
theorem gX4_worstWith_X2_play : GoodIn wsX4_worstWith (wsV RX4 169 RX2 yX2_play wsX2_play) := goodIn_app (goodIn_of _ (by decide +kernel)) ggX4_worstWith_X2_play
theorem dX4_worstWith_0 : decode cX4_worstWith 0 = .ok (.aload_n 0, 1) := by decide +kernel
theorem dX4_worstWith_1 : decode cX4_worstWith 1 = .ok (.iload_n 1, 1) := by decide +kernel
theorem dX4_worstWith_2 : decode cX4_worstWith 2 = .ok (.invokevirtual 60, 3) := by decide +kernel
theorem dX4_worstWith_5 : decode cX4_worstWith 5 = .ok (.iload_n 2, 1) := by decide +kernel
theorem dX4_worstWith_6 : decode cX4_worstWith 6 = .ok (.invokestatic 163, 3) := by decide +kernel
theorem dX4_worstWith_9 : decode cX4_worstWith 9 = .ok (.aload_n 0, 1) := by decide +kernel
theorem dX4_worstWith_10 : decode cX4_worstWith 10 = .ok (.invokevirtual 166, 3) := by decide +kernel
theorem dX4_worstWith_13 : decode cX4_worstWith 13 = .ok (.aload_n 0, 1) := by decide +kernel
theorem dX4_worstWith_14 : decode cX4_worstWith 14 = .ok (.getfield 19, 3) := by decide +kernel
theorem dX4_worstWith_17 : decode cX4_worstWith 17 = .ok (.aload_n 0, 1) := by decide +kernel
theorem dX4_worstWith_18 : decode cX4_worstWith 18 = .ok (.getfield 12, 3) := by decide +kernel
theorem dX4_worstWith_21 : decode cX4_worstWith 21 = .ok (.aload_n 0, 1) := by decide +kernel
theorem dX4_worstWith_22 : decode cX4_worstWith 22 = .ok (.getfield 30, 3) := by decide +kernel
theorem dX4_worstWith_25 : decode cX4_worstWith 25 = .ok (.iload_n 1, 1) := by decide +kernel
theorem dX4_worstWith_26 : decode cX4_worstWith 26 = .ok (.iload_n 2, 1) := by decide +kernel
theorem dX4_worstWith_27 : decode cX4_worstWith 27 = .ok (.invokevirtual 169, 3) := by decide +kernel
theorem dX4_worstWith_30 : decode cX4_worstWith 30 = .ok (.aload_n 0, 1) := by decide +kernel
theorem dX4_worstWith_31 : decode cX4_worstWith 31 = .ok (.getfield 19, 3) := by decide +kernel
theorem dX4_worstWith_34 : decode cX4_worstWith 34 = .ok (.getfield 176, 3) := by decide +kernel
theorem dX4_worstWith_37 : decode cX4_worstWith 37 = .ok (.ireturn, 1) := by decide +kernel
set_option maxRecDepth 20000 in
theorem ggX4_leastRate_X4_requireVersion : GoodIn wsX4_leastRate wsX4_requireVersion := goodIn_ca (goodIn_r _ [9, 10, 11, 3, 12, 13, 14, 15, 16, 17, 172, 173, 174, 175, 176, 180, 181, 182, 183, 184] (by decide +kernel) (by decide +kernel)) (goodIn_sub (fun _ h => List.mem_cons_of_mem _ (List.mem_append_left _ (List.mem_append_right _ h))) (by decide +kernel))
set_option maxRecDepth 20000 in
theorem gX4_leastRate_X4_requireVersion : GoodIn wsX4_leastRate (wsV RX4 60 RX4 yX4_requireVersion wsX4_requireVersion) := goodIn_app (goodIn_of _ (by decide +kernel)) ggX4_leastRate_X4_requireVersion
set_option maxRecDepth 20000 in
theorem ggX4_leastRate_X4_requireReadableText : GoodIn wsX4_leastRate wsX4_requireReadableText := goodIn_ca (goodIn_r _ [21, 22, 23, 2, 24, 25, 26, 27, 28, 29, 30, 31, 32, 8, 33, 34, 35, 36, 37, 38, 39, 40, 41, 42, 43, 44, 45, 46, 47, 48, 49, 50, 51, 52, 172, 173, 174, 175, 176, 185, 186, 187, 188, 189, 190, 191, 192] (by decide +kernel) (by decide +kernel)) (goodIn_sub (fun _ h => List.mem_cons_of_mem _ (List.mem_append_right _ h)) (by decide +kernel))
set_option maxRecDepth 20000 in
theorem gX4_leastRate_X4_requireReadableText : GoodIn wsX4_leastRate (wsV RX4 166 RX4 yX4_requireReadableText wsX4_requireReadableText) := goodIn_app (goodIn_of _ (by decide +kernel)) ggX4_leastRate_X4_requireReadableText
set_option maxRecDepth 20000 in
theorem ggX4_leastRate_X2_play : GoodIn wsX4_leastRate wsX2_play := goodIn_r _ [57, 58, 59, 60, 61, 62, 63, 64, 65, 66, 67, 68, 69, 70, 71, 72, 73, 74, 15, 75, 76, 77, 78, 79, 80, 81, 82, 83, 84, 85, 86, 87, 88, 89, 90, 91, 92, 93, 94, 95, 96, 97, 98, 99, 100, 101, 102, 103, 104, 105, 106, 107, 108, 109, 110, 111, 112, 113, 17, 114, 115, 116, 27, 117, 49, 32, 8, 33, 118, 119, 120, 121, 122, 123, 124, 125, 126, 127, 50, 128, 129, 130, 131, 132, 133, 134, 135, 136, 137, 138, 139, 140, 141, 51, 52, 142, 143, 144, 145, 146, 147, 148, 149, 150, 151, 152, 153, 154, 155, 156, 157, 158, 159, 160, 161, 162, 163, 164, 165, 166, 167, 168, 169, 170, 171, 177, 178, 179, 185, 186, 187, 188, 189, 190, 191, 192, 180, 181, 182, 183, 184, 193, 194, 195, 196, 197, 198, 199, 200, 201, 202, 203] (by decide +kernel) (by decide +kernel)
set_option maxRecDepth 20000 in
theorem gX4_leastRate_X2_play : GoodIn wsX4_leastRate (wsV RX4 169 RX2 yX2_play wsX2_play) := goodIn_app (goodIn_of _ (by decide +kernel)) ggX4_leastRate_X2_play
theorem dX4_leastRate_0 : decode cX4_leastRate 0 = .ok (.aload_n 0, 1) := by decide +kernel
theorem dX4_leastRate_1 : decode cX4_leastRate 1 = .ok (.iload_n 1, 1) := by decide +kernel
theorem dX4_leastRate_2 : decode cX4_leastRate 2 = .ok (.invokevirtual 60, 3) := by decide +kernel
theorem dX4_leastRate_5 : decode cX4_leastRate 5 = .ok (.aload_n 0, 1) := by decide +kernel
theorem dX4_leastRate_6 : decode cX4_leastRate 6 = .ok (.invokevirtual 166, 3) := by decide +kernel
theorem dX4_leastRate_9 : decode cX4_leastRate 9 = .ok (.iconst 1, 1) := by decide +kernel
theorem dX4_leastRate_10 : decode cX4_leastRate 10 = .ok (.istore_n 2, 1) := by decide +kernel
theorem dX4_leastRate_11 : decode cX4_leastRate 11 = .ok (.iload_n 2, 1) := by decide +kernel
theorem dX4_leastRate_12 : decode cX4_leastRate 12 = .ok (.bipush 9, 2) := by decide +kernel
theorem dX4_leastRate_14 : decode cX4_leastRate 14 = .ok (.if_icmp .gt 38, 3) := by decide +kernel
theorem dX4_leastRate_17 : decode cX4_leastRate 17 = .ok (.aload_n 0, 1) := by decide +kernel
theorem dX4_leastRate_18 : decode cX4_leastRate 18 = .ok (.getfield 19, 3) := by decide +kernel
theorem dX4_leastRate_21 : decode cX4_leastRate 21 = .ok (.aload_n 0, 1) := by decide +kernel
theorem dX4_leastRate_22 : decode cX4_leastRate 22 = .ok (.getfield 12, 3) := by decide +kernel
theorem dX4_leastRate_25 : decode cX4_leastRate 25 = .ok (.aload_n 0, 1) := by decide +kernel
theorem dX4_leastRate_26 : decode cX4_leastRate 26 = .ok (.getfield 30, 3) := by decide +kernel
theorem dX4_leastRate_29 : decode cX4_leastRate 29 = .ok (.iload_n 1, 1) := by decide +kernel
theorem dX4_leastRate_30 : decode cX4_leastRate 30 = .ok (.iload_n 2, 1) := by decide +kernel
theorem dX4_leastRate_31 : decode cX4_leastRate 31 = .ok (.invokevirtual 169, 3) := by decide +kernel
theorem dX4_leastRate_34 : decode cX4_leastRate 34 = .ok (.aload_n 0, 1) := by decide +kernel
theorem dX4_leastRate_35 : decode cX4_leastRate 35 = .ok (.getfield 19, 3) := by decide +kernel
theorem dX4_leastRate_38 : decode cX4_leastRate 38 = .ok (.getfield 173, 3) := by decide +kernel
theorem dX4_leastRate_41 : decode cX4_leastRate 41 = .ok (.ifCond .ne 5, 3) := by decide +kernel
theorem dX4_leastRate_44 : decode cX4_leastRate 44 = .ok (.iload_n 2, 1) := by decide +kernel
theorem dX4_leastRate_45 : decode cX4_leastRate 45 = .ok (.ireturn, 1) := by decide +kernel
theorem dX4_leastRate_46 : decode cX4_leastRate 46 = .ok (.iinc 2 1, 3) := by decide +kernel
theorem dX4_leastRate_49 : decode cX4_leastRate 49 = .ok (.goto (-38), 3) := by decide +kernel
theorem dX4_leastRate_52 : decode cX4_leastRate 52 = .ok (.iconst (-1), 1) := by decide +kernel
theorem dX4_leastRate_53 : decode cX4_leastRate 53 = .ok (.ireturn, 1) := by decide +kernel
theorem dX4_undo_0 : decode cX4_undo 0 = .ok (.aload_n 0, 1) := by decide +kernel
theorem dX4_undo_1 : decode cX4_undo 1 = .ok (.getfield 34, 3) := by decide +kernel
theorem dX4_undo_4 : decode cX4_undo 4 = .ok (.iconst 1, 1) := by decide +kernel
theorem dX4_undo_5 : decode cX4_undo 5 = .ok (.isub, 1) := by decide +kernel
theorem dX4_undo_6 : decode cX4_undo 6 = .ok (.istore_n 1, 1) := by decide +kernel
theorem dX4_undo_7 : decode cX4_undo 7 = .ok (.iload_n 1, 1) := by decide +kernel
theorem dX4_undo_8 : decode cX4_undo 8 = .ok (.ifCond .lt 12, 3) := by decide +kernel
theorem dX4_undo_11 : decode cX4_undo 11 = .ok (.iload_n 1, 1) := by decide +kernel
theorem dX4_undo_12 : decode cX4_undo 12 = .ok (.aload_n 0, 1) := by decide +kernel
theorem dX4_undo_13 : decode cX4_undo 13 = .ok (.getfield 25, 3) := by decide +kernel
theorem dX4_undo_16 : decode cX4_undo 16 = .ok (.arraylength, 1) := by decide +kernel
theorem dX4_undo_17 : decode cX4_undo 17 = .ok (.if_icmp .lt 7, 3) := by decide +kernel
theorem dX4_undo_20 : decode cX4_undo 20 = .ok (.aconst_null, 1) := by decide +kernel
theorem dX4_undo_21 : decode cX4_undo 21 = .ok (.goto 9, 3) := by decide +kernel
theorem dX4_undo_24 : decode cX4_undo 24 = .ok (.aload_n 0, 1) := by decide +kernel
theorem dX4_undo_25 : decode cX4_undo 25 = .ok (.getfield 25, 3) := by decide +kernel
theorem dX4_undo_28 : decode cX4_undo 28 = .ok (.iload_n 1, 1) := by decide +kernel
theorem dX4_undo_29 : decode cX4_undo 29 = .ok (.aaload, 1) := by decide +kernel
theorem dX4_undo_30 : decode cX4_undo 30 = .ok (.astore_n 2, 1) := by decide +kernel
theorem dX4_undo_31 : decode cX4_undo 31 = .ok (.aload_n 2, 1) := by decide +kernel
theorem dX4_undo_32 : decode cX4_undo 32 = .ok (.ifnonnull 13, 3) := by decide +kernel
theorem dX4_undo_35 : decode cX4_undo 35 = .ok (.new 69, 3) := by decide +kernel
theorem dX4_undo_38 : decode cX4_undo 38 = .ok (.dup, 1) := by decide +kernel
theorem dX4_undo_39 : decode cX4_undo 39 = .ok (.ldc 179, 2) := by decide +kernel
theorem dX4_undo_41 : decode cX4_undo 41 = .ok (.invokespecial 73, 3) := by decide +kernel
theorem dX4_undo_44 : decode cX4_undo 44 = .ok (.athrow, 1) := by decide +kernel
theorem dX4_undo_45 : decode cX4_undo 45 = .ok (.aload_n 0, 1) := by decide +kernel
theorem dX4_undo_46 : decode cX4_undo 46 = .ok (.getfield 25, 3) := by decide +kernel
theorem dX4_undo_49 : decode cX4_undo 49 = .ok (.iload_n 1, 1) := by decide +kernel
theorem dX4_undo_50 : decode cX4_undo 50 = .ok (.aload_n 0, 1) := by decide +kernel
theorem dX4_undo_51 : decode cX4_undo 51 = .ok (.getfield 30, 3) := by decide +kernel
theorem dX4_undo_54 : decode cX4_undo 54 = .ok (.aastore, 1) := by decide +kernel
theorem dX4_undo_55 : decode cX4_undo 55 = .ok (.aload_n 0, 1) := by decide +kernel
theorem dX4_undo_56 : decode cX4_undo 56 = .ok (.aload_n 2, 1) := by decide +kernel
theorem dX4_undo_57 : decode cX4_undo 57 = .ok (.putfield 30, 3) := by decide +kernel
theorem dX4_undo_60 : decode cX4_undo 60 = .ok (.aload_n 0, 1) := by decide +kernel
theorem dX4_undo_61 : decode cX4_undo 61 = .ok (.iload_n 1, 1) := by decide +kernel
theorem dX4_undo_62 : decode cX4_undo 62 = .ok (.putfield 34, 3) := by decide +kernel
theorem dX4_undo_65 : decode cX4_undo 65 = .ok (.iload_n 1, 1) := by decide +kernel
theorem dX4_undo_66 : decode cX4_undo 66 = .ok (.ireturn, 1) := by decide +kernel
set_option maxRecDepth 20000 in
theorem ggX4_digest_X4_mixed : GoodIn wsX4_digest wsX4_mixed := goodIn_r _ [10, 11] (by decide +kernel) (by decide +kernel)
set_option maxRecDepth 20000 in
theorem gX4_digest_X4_mixed : GoodIn wsX4_digest (va_wsS RX4 183 yX4_mixed wsX4_mixed) := goodIn_app (goodIn_of _ (by decide +kernel)) ggX4_digest_X4_mixed
set_option maxRecDepth 20000 in
theorem ggX4_digest_X1_total : GoodIn wsX4_digest wsX1_total := goodIn_r _ [16, 17, 18, 19, 20, 15, 21, 22, 23, 24, 9, 25, 26, 27, 28, 29, 30, 31, 32, 33, 34, 35, 36, 37, 38, 39, 40, 41, 42, 43, 44, 45, 46, 47, 48, 49, 50, 51, 52, 53, 54, 55, 56, 57, 58, 59, 60, 61, 62, 63, 64, 65, 66, 67, 68, 69, 70, 71, 72, 73, 74, 75, 76, 77, 78, 79, 80, 81, 82, 83, 84, 85, 86, 116, 117, 118, 119, 120, 121, 122, 123, 124, 125, 126, 127, 128, 129, 130, 131] (by decide +kernel) (by decide +kernel)
set_option maxRecDepth 20000 in
theorem gX4_digest_X1_total : GoodIn wsX4_digest (wsV RX4 121 RX1 yX1_total wsX1_total) := goodIn_app (goodIn_of _ (by decide +kernel)) ggX4_digest_X1_total
set_option maxRecDepth 20000 in
theorem ggX4_digest_X1_settingOf : GoodIn wsX4_digest wsX1_settingOf := goodIn_r _ [90, 91, 92, 116, 117, 118, 119, 120] (by decide +kernel) (by decide +kernel)
set_option maxRecDepth 20000 in
theorem gX4_digest_X1_settingOf : GoodIn wsX4_digest (wsV RX4 52 RX1 yX1_settingOf wsX1_settingOf) := goodIn_app (goodIn_of _ (by decide +kernel)) ggX4_digest_X1_settingOf
set_option maxRecDepth 20000 in
theorem ggX4_digest_X1_slot : GoodIn wsX4_digest wsX1_slot := goodIn_r _ [29, 30, 31, 32, 33, 34, 35, 36, 37, 38, 39, 40, 41, 42, 43, 44, 45, 46, 47, 48, 49, 50, 51, 116, 117, 118, 119, 120, 121, 122, 123, 124, 125, 126, 127, 128, 129, 130, 131] (by decide +kernel) (by decide +kernel)
set_option maxRecDepth 20000 in
theorem gX4_digest_X1_slot : GoodIn wsX4_digest (wsV RX4 78 RX1 yX1_slot wsX1_slot) := goodIn_app (goodIn_of _ (by decide +kernel)) ggX4_digest_X1_slot
set_option maxRecDepth 20000 in
theorem ggX4_digest_X4_mixedWith : GoodIn wsX4_digest wsX4_mixedWith := goodIn_r _ [96, 97, 63, 64, 33, 65, 40, 44, 45, 46, 47, 48, 49, 41, 43, 66, 67, 68, 69, 7, 8, 9, 10, 11, 98, 99, 100, 101, 102, 51, 52, 53, 121, 122, 123, 124, 125, 126, 127, 128, 129, 130, 131] (by decide +kernel) (by decide +kernel)
set_option maxRecDepth 20000 in
theorem gX4_digest_X4_mixedWith : GoodIn wsX4_digest (va_wsS RX4 187 yX4_mixedWith wsX4_mixedWith) := goodIn_app (goodIn_of _ (by decide +kernel)) ggX4_digest_X4_mixedWith
theorem dX4_digest_0 : decode cX4_digest 0 = .ok (.ldc2_w 181, 3) := by decide +kernel
theorem dX4_digest_3 : decode cX4_digest 3 = .ok (.aload_n 0, 1) := by decide +kernel
theorem dX4_digest_4 : decode cX4_digest 4 = .ok (.getfield 12, 3) := by decide +kernel
theorem dX4_digest_7 : decode cX4_digest 7 = .ok (.getfield 148, 3) := by decide +kernel
theorem dX4_digest_10 : decode cX4_digest 10 = .ok (.invokestatic 183, 3) := by decide +kernel
theorem dX4_digest_13 : decode cX4_digest 13 = .ok (.lstore_n 1, 1) := by decide +kernel
theorem dX4_digest_14 : decode cX4_digest 14 = .ok (.iconst 0, 1) := by decide +kernel
theorem dX4_digest_15 : decode cX4_digest 15 = .ok (.istore_n 3, 1) := by decide +kernel
theorem dX4_digest_16 : decode cX4_digest 16 = .ok (.iload_n 3, 1) := by decide +kernel
theorem dX4_digest_17 : decode cX4_digest 17 = .ok (.bipush 8, 2) := by decide +kernel
theorem dX4_digest_19 : decode cX4_digest 19 = .ok (.if_icmp .ge 22, 3) := by decide +kernel
theorem dX4_digest_22 : decode cX4_digest 22 = .ok (.lload_n 1, 1) := by decide +kernel
theorem dX4_digest_23 : decode cX4_digest 23 = .ok (.aload_n 0, 1) := by decide +kernel
theorem dX4_digest_24 : decode cX4_digest 24 = .ok (.getfield 30, 3) := by decide +kernel
theorem dX4_digest_27 : decode cX4_digest 27 = .ok (.iload_n 3, 1) := by decide +kernel
theorem dX4_digest_28 : decode cX4_digest 28 = .ok (.invokevirtual 121, 3) := by decide +kernel
theorem dX4_digest_31 : decode cX4_digest 31 = .ok (.invokestatic 183, 3) := by decide +kernel
theorem dX4_digest_34 : decode cX4_digest 34 = .ok (.lstore_n 1, 1) := by decide +kernel
theorem dX4_digest_35 : decode cX4_digest 35 = .ok (.iinc 3 1, 3) := by decide +kernel
theorem dX4_digest_38 : decode cX4_digest 38 = .ok (.goto (-22), 3) := by decide +kernel
theorem dX4_digest_41 : decode cX4_digest 41 = .ok (.lload_n 1, 1) := by decide +kernel
theorem dX4_digest_42 : decode cX4_digest 42 = .ok (.aload_n 0, 1) := by decide +kernel
theorem dX4_digest_43 : decode cX4_digest 43 = .ok (.getfield 30, 3) := by decide +kernel
theorem dX4_digest_46 : decode cX4_digest 46 = .ok (.iconst 0, 1) := by decide +kernel
theorem dX4_digest_47 : decode cX4_digest 47 = .ok (.invokevirtual 52, 3) := by decide +kernel
theorem dX4_digest_50 : decode cX4_digest 50 = .ok (.invokestatic 183, 3) := by decide +kernel
theorem dX4_digest_53 : decode cX4_digest 53 = .ok (.lstore_n 1, 1) := by decide +kernel
theorem dX4_digest_54 : decode cX4_digest 54 = .ok (.lload_n 1, 1) := by decide +kernel
theorem dX4_digest_55 : decode cX4_digest 55 = .ok (.aload_n 0, 1) := by decide +kernel
theorem dX4_digest_56 : decode cX4_digest 56 = .ok (.getfield 30, 3) := by decide +kernel
theorem dX4_digest_59 : decode cX4_digest 59 = .ok (.iconst 1, 1) := by decide +kernel
theorem dX4_digest_60 : decode cX4_digest 60 = .ok (.invokevirtual 52, 3) := by decide +kernel
theorem dX4_digest_63 : decode cX4_digest 63 = .ok (.invokestatic 183, 3) := by decide +kernel
theorem dX4_digest_66 : decode cX4_digest 66 = .ok (.lstore_n 1, 1) := by decide +kernel
theorem dX4_digest_67 : decode cX4_digest 67 = .ok (.iconst 0, 1) := by decide +kernel
theorem dX4_digest_68 : decode cX4_digest 68 = .ok (.istore_n 3, 1) := by decide +kernel
theorem dX4_digest_69 : decode cX4_digest 69 = .ok (.iload_n 3, 1) := by decide +kernel
theorem dX4_digest_70 : decode cX4_digest 70 = .ok (.aload_n 0, 1) := by decide +kernel
theorem dX4_digest_71 : decode cX4_digest 71 = .ok (.getfield 30, 3) := by decide +kernel
theorem dX4_digest_74 : decode cX4_digest 74 = .ok (.getfield 95, 3) := by decide +kernel
theorem dX4_digest_77 : decode cX4_digest 77 = .ok (.if_icmp .ge 22, 3) := by decide +kernel
theorem dX4_digest_80 : decode cX4_digest 80 = .ok (.lload_n 1, 1) := by decide +kernel
theorem dX4_digest_81 : decode cX4_digest 81 = .ok (.aload_n 0, 1) := by decide +kernel
theorem dX4_digest_82 : decode cX4_digest 82 = .ok (.getfield 30, 3) := by decide +kernel
theorem dX4_digest_85 : decode cX4_digest 85 = .ok (.iload_n 3, 1) := by decide +kernel
theorem dX4_digest_86 : decode cX4_digest 86 = .ok (.invokevirtual 78, 3) := by decide +kernel
theorem dX4_digest_89 : decode cX4_digest 89 = .ok (.invokestatic 187, 3) := by decide +kernel
theorem dX4_digest_92 : decode cX4_digest 92 = .ok (.lstore_n 1, 1) := by decide +kernel
theorem dX4_digest_93 : decode cX4_digest 93 = .ok (.iinc 3 1, 3) := by decide +kernel
theorem dX4_digest_96 : decode cX4_digest 96 = .ok (.goto (-27), 3) := by decide +kernel
theorem dX4_digest_99 : decode cX4_digest 99 = .ok (.lload_n 1, 1) := by decide +kernel
theorem dX4_digest_100 : decode cX4_digest 100 = .ok (.aload_n 0, 1) := by decide +kernel
theorem dX4_digest_101 : decode cX4_digest 101 = .ok (.getfield 34, 3) := by decide +kernel
theorem dX4_digest_104 : decode cX4_digest 104 = .ok (.invokestatic 183, 3) := by decide +kernel
theorem dX4_digest_107 : decode cX4_digest 107 = .ok (.lreturn, 1) := by decide +kernel
set_option maxRecDepth 20000 in
theorem ggX4_requireVersion_X1_has : GoodIn wsX4_requireVersion wsX1_has := goodIn_r _ [8, 9, 15, 16, 17, 18, 19] (by decide +kernel) (by decide +kernel)
set_option maxRecDepth 20000 in
theorem gX4_requireVersion_X1_has : GoodIn wsX4_requireVersion (wsV RX4 191 RX1 yX1_has wsX1_has) := goodIn_app (goodIn_of _ (by decide +kernel)) ggX4_requireVersion_X1_has
theorem dX4_requireVersion_0 : decode cX4_requireVersion 0 = .ok (.aload_n 0, 1) := by decide +kernel
theorem dX4_requireVersion_1 : decode cX4_requireVersion 1 = .ok (.getfield 30, 3) := by decide +kernel
theorem dX4_requireVersion_4 : decode cX4_requireVersion 4 = .ok (.iload_n 1, 1) := by decide +kernel
theorem dX4_requireVersion_5 : decode cX4_requireVersion 5 = .ok (.invokevirtual 191, 3) := by decide +kernel
theorem dX4_requireVersion_8 : decode cX4_requireVersion 8 = .ok (.ifCond .ne 13, 3) := by decide +kernel
theorem dX4_requireVersion_11 : decode cX4_requireVersion 11 = .ok (.new 195, 3) := by decide +kernel
theorem dX4_requireVersion_14 : decode cX4_requireVersion 14 = .ok (.dup, 1) := by decide +kernel
theorem dX4_requireVersion_15 : decode cX4_requireVersion 15 = .ok (.ldc 197, 2) := by decide +kernel
theorem dX4_requireVersion_17 : decode cX4_requireVersion 17 = .ok (.invokespecial 199, 3) := by decide +kernel
theorem dX4_requireVersion_20 : decode cX4_requireVersion 20 = .ok (.athrow, 1) := by decide +kernel
theorem dX4_requireVersion_21 : decode cX4_requireVersion 21 = .ok (.return_, 1) := by decide +kernel
set_option maxRecDepth 20000 in
theorem ggX4_requirePlace_X1_hasPlace : GoodIn wsX4_requirePlace wsX1_hasPlace := goodIn_r _ [8, 9, 10, 11, 7, 12, 13, 14, 15, 16, 17, 18, 19, 20, 21, 22, 23, 24, 25, 26, 27, 28, 29, 30, 31, 32, 33, 34, 35, 36, 37, 38, 39, 40, 41, 42, 43, 49, 50, 51, 52, 53, 54, 55, 56, 57, 58, 59, 60, 61, 62, 63, 64] (by decide +kernel) (by decide +kernel)
set_option maxRecDepth 20000 in
theorem gX4_requirePlace_X1_hasPlace : GoodIn wsX4_requirePlace (wsV RX4 200 RX1 yX1_hasPlace wsX1_hasPlace) := goodIn_app (goodIn_of _ (by decide +kernel)) ggX4_requirePlace_X1_hasPlace
theorem dX4_requirePlace_0 : decode cX4_requirePlace 0 = .ok (.aload_n 0, 1) := by decide +kernel
theorem dX4_requirePlace_1 : decode cX4_requirePlace 1 = .ok (.getfield 30, 3) := by decide +kernel
theorem dX4_requirePlace_4 : decode cX4_requirePlace 4 = .ok (.iload_n 1, 1) := by decide +kernel
theorem dX4_requirePlace_5 : decode cX4_requirePlace 5 = .ok (.iload_n 2, 1) := by decide +kernel
theorem dX4_requirePlace_6 : decode cX4_requirePlace 6 = .ok (.invokevirtual 200, 3) := by decide +kernel
theorem dX4_requirePlace_9 : decode cX4_requirePlace 9 = .ok (.ifCond .ne 13, 3) := by decide +kernel
theorem dX4_requirePlace_12 : decode cX4_requirePlace 12 = .ok (.new 195, 3) := by decide +kernel
theorem dX4_requirePlace_15 : decode cX4_requirePlace 15 = .ok (.dup, 1) := by decide +kernel
theorem dX4_requirePlace_16 : decode cX4_requirePlace 16 = .ok (.ldc 203, 2) := by decide +kernel
theorem dX4_requirePlace_18 : decode cX4_requirePlace 18 = .ok (.invokespecial 199, 3) := by decide +kernel
theorem dX4_requirePlace_21 : decode cX4_requirePlace 21 = .ok (.athrow, 1) := by decide +kernel
theorem dX4_requirePlace_22 : decode cX4_requirePlace 22 = .ok (.return_, 1) := by decide +kernel
set_option maxRecDepth 20000 in
theorem ggX4_requireRate_X4_isRate : GoodIn wsX4_requireRate wsX4_isRate := goodIn_r _ [6] (by decide +kernel) (by decide +kernel)
set_option maxRecDepth 20000 in
theorem gX4_requireRate_X4_isRate : GoodIn wsX4_requireRate (va_wsS RX4 205 yX4_isRate wsX4_isRate) := goodIn_app (goodIn_of _ (by decide +kernel)) ggX4_requireRate_X4_isRate
theorem dX4_requireRate_0 : decode cX4_requireRate 0 = .ok (.iload_n 0, 1) := by decide +kernel
theorem dX4_requireRate_1 : decode cX4_requireRate 1 = .ok (.invokestatic 205, 3) := by decide +kernel
theorem dX4_requireRate_4 : decode cX4_requireRate 4 = .ok (.ifCond .ne 13, 3) := by decide +kernel
theorem dX4_requireRate_7 : decode cX4_requireRate 7 = .ok (.new 42, 3) := by decide +kernel
theorem dX4_requireRate_10 : decode cX4_requireRate 10 = .ok (.dup, 1) := by decide +kernel
theorem dX4_requireRate_11 : decode cX4_requireRate 11 = .ok (.ldc 208, 2) := by decide +kernel
theorem dX4_requireRate_13 : decode cX4_requireRate 13 = .ok (.invokespecial 46, 3) := by decide +kernel
theorem dX4_requireRate_16 : decode cX4_requireRate 16 = .ok (.athrow, 1) := by decide +kernel
theorem dX4_requireRate_17 : decode cX4_requireRate 17 = .ok (.return_, 1) := by decide +kernel
set_option maxRecDepth 20000 in
theorem ggX4_requireReadableText_X0_read : GoodIn wsX4_requireReadableText wsX0_read := goodIn_r _ [8, 9, 10, 11, 12, 13, 14, 15, 16, 17, 7, 18, 19, 20, 21, 22, 23, 24, 25, 26, 27, 28, 29, 30, 31, 32, 33, 39, 40, 41, 42, 43, 44, 45, 46] (by decide +kernel) (by decide +kernel)
set_option maxRecDepth 20000 in
theorem gX4_requireReadableText_X0_read : GoodIn wsX4_requireReadableText (wsV RX4 156 RX0 yX0_read wsX0_read) := goodIn_app (goodIn_of _ (by decide +kernel)) ggX4_requireReadableText_X0_read
theorem dX4_requireReadableText_0 : decode cX4_requireReadableText 0 = .ok (.aload_n 0, 1) := by decide +kernel
theorem dX4_requireReadableText_1 : decode cX4_requireReadableText 1 = .ok (.getfield 12, 3) := by decide +kernel
theorem dX4_requireReadableText_4 : decode cX4_requireReadableText 4 = .ok (.invokevirtual 156, 3) := by decide +kernel
theorem dX4_requireReadableText_7 : decode cX4_requireReadableText 7 = .ok (.iconst (-1), 1) := by decide +kernel
theorem dX4_requireReadableText_8 : decode cX4_requireReadableText 8 = .ok (.if_icmp .eq 13, 3) := by decide +kernel
theorem dX4_requireReadableText_11 : decode cX4_requireReadableText 11 = .ok (.new 69, 3) := by decide +kernel
theorem dX4_requireReadableText_14 : decode cX4_requireReadableText 14 = .ok (.dup, 1) := by decide +kernel
theorem dX4_requireReadableText_15 : decode cX4_requireReadableText 15 = .ok (.ldc 210, 2) := by decide +kernel
theorem dX4_requireReadableText_17 : decode cX4_requireReadableText 17 = .ok (.invokespecial 73, 3) := by decide +kernel
theorem dX4_requireReadableText_20 : decode cX4_requireReadableText 20 = .ok (.athrow, 1) := by decide +kernel
theorem dX4_requireReadableText_21 : decode cX4_requireReadableText 21 = .ok (.return_, 1) := by decide +kernel
theorem dX4_isRate_0 : decode cX4_isRate 0 = .ok (.iload_n 0, 1) := by decide +kernel
theorem dX4_isRate_1 : decode cX4_isRate 1 = .ok (.iconst 1, 1) := by decide +kernel
theorem dX4_isRate_2 : decode cX4_isRate 2 = .ok (.if_icmp .lt 13, 3) := by decide +kernel
theorem dX4_isRate_5 : decode cX4_isRate 5 = .ok (.iload_n 0, 1) := by decide +kernel
theorem dX4_isRate_6 : decode cX4_isRate 6 = .ok (.bipush 9, 2) := by decide +kernel
theorem dX4_isRate_8 : decode cX4_isRate 8 = .ok (.if_icmp .gt 7, 3) := by decide +kernel
theorem dX4_isRate_11 : decode cX4_isRate 11 = .ok (.iconst 1, 1) := by decide +kernel
theorem dX4_isRate_12 : decode cX4_isRate 12 = .ok (.goto 4, 3) := by decide +kernel
theorem dX4_isRate_15 : decode cX4_isRate 15 = .ok (.iconst 0, 1) := by decide +kernel
theorem dX4_isRate_16 : decode cX4_isRate 16 = .ok (.ireturn, 1) := by decide +kernel
theorem dX4_isRatio_0 : decode cX4_isRatio 0 = .ok (.iload_n 0, 1) := by decide +kernel
theorem dX4_isRatio_1 : decode cX4_isRatio 1 = .ok (.iconst 2, 1) := by decide +kernel
theorem dX4_isRatio_2 : decode cX4_isRatio 2 = .ok (.if_icmp .lt 12, 3) := by decide +kernel
theorem dX4_isRatio_5 : decode cX4_isRatio 5 = .ok (.iload_n 0, 1) := by decide +kernel
theorem dX4_isRatio_6 : decode cX4_isRatio 6 = .ok (.iconst 5, 1) := by decide +kernel
theorem dX4_isRatio_7 : decode cX4_isRatio 7 = .ok (.if_icmp .gt 7, 3) := by decide +kernel
theorem dX4_isRatio_10 : decode cX4_isRatio 10 = .ok (.iconst 1, 1) := by decide +kernel
theorem dX4_isRatio_11 : decode cX4_isRatio 11 = .ok (.goto 4, 3) := by decide +kernel
theorem dX4_isRatio_14 : decode cX4_isRatio 14 = .ok (.iconst 0, 1) := by decide +kernel
theorem dX4_isRatio_15 : decode cX4_isRatio 15 = .ok (.ireturn, 1) := by decide +kernel
set_option maxRecDepth 20000 in
theorem ggX4_isSettingValue_X4_isRate : GoodIn wsX4_isSettingValue wsX4_isRate := goodIn_r _ [4] (by decide +kernel) (by decide +kernel)
set_option maxRecDepth 20000 in
theorem gX4_isSettingValue_X4_isRate : GoodIn wsX4_isSettingValue (va_wsS RX4 205 yX4_isRate wsX4_isRate) := goodIn_app (goodIn_of _ (by decide +kernel)) ggX4_isSettingValue_X4_isRate
set_option maxRecDepth 20000 in
theorem ggX4_isSettingValue_X4_isRatio : GoodIn wsX4_isSettingValue wsX4_isRatio := goodIn_r _ [7] (by decide +kernel) (by decide +kernel)
set_option maxRecDepth 20000 in
theorem gX4_isSettingValue_X4_isRatio : GoodIn wsX4_isSettingValue (va_wsS RX4 212 yX4_isRatio wsX4_isRatio) := goodIn_app (goodIn_of _ (by decide +kernel)) ggX4_isSettingValue_X4_isRatio
theorem dX4_isSettingValue_0 : decode cX4_isSettingValue 0 = .ok (.iload_n 0, 1) := by decide +kernel
theorem dX4_isSettingValue_1 : decode cX4_isSettingValue 1 = .ok (.ifCond .ne 10, 3) := by decide +kernel
theorem dX4_isSettingValue_4 : decode cX4_isSettingValue 4 = .ok (.iload_n 1, 1) := by decide +kernel
theorem dX4_isSettingValue_5 : decode cX4_isSettingValue 5 = .ok (.invokestatic 205, 3) := by decide +kernel
theorem dX4_isSettingValue_8 : decode cX4_isSettingValue 8 = .ok (.ifCond .ne 15, 3) := by decide +kernel
theorem dX4_isSettingValue_11 : decode cX4_isSettingValue 11 = .ok (.iload_n 0, 1) := by decide +kernel
theorem dX4_isSettingValue_12 : decode cX4_isSettingValue 12 = .ok (.iconst 1, 1) := by decide +kernel
theorem dX4_isSettingValue_13 : decode cX4_isSettingValue 13 = .ok (.if_icmp .ne 14, 3) := by decide +kernel
theorem dX4_isSettingValue_16 : decode cX4_isSettingValue 16 = .ok (.iload_n 1, 1) := by decide +kernel
theorem dX4_isSettingValue_17 : decode cX4_isSettingValue 17 = .ok (.invokestatic 212, 3) := by decide +kernel
theorem dX4_isSettingValue_20 : decode cX4_isSettingValue 20 = .ok (.ifCond .eq 7, 3) := by decide +kernel
theorem dX4_isSettingValue_23 : decode cX4_isSettingValue 23 = .ok (.iconst 1, 1) := by decide +kernel
theorem dX4_isSettingValue_24 : decode cX4_isSettingValue 24 = .ok (.goto 4, 3) := by decide +kernel
theorem dX4_isSettingValue_27 : decode cX4_isSettingValue 27 = .ok (.iconst 0, 1) := by decide +kernel
theorem dX4_isSettingValue_28 : decode cX4_isSettingValue 28 = .ok (.ireturn, 1) := by decide +kernel
theorem dX4_isPush_0 : decode cX4_isPush 0 = .ok (.iload_n 0, 1) := by decide +kernel
theorem dX4_isPush_1 : decode cX4_isPush 1 = .ok (.ifCond .eq 8, 3) := by decide +kernel
theorem dX4_isPush_4 : decode cX4_isPush 4 = .ok (.iload_n 0, 1) := by decide +kernel
theorem dX4_isPush_5 : decode cX4_isPush 5 = .ok (.iconst 1, 1) := by decide +kernel
theorem dX4_isPush_6 : decode cX4_isPush 6 = .ok (.if_icmp .ne 7, 3) := by decide +kernel
theorem dX4_isPush_9 : decode cX4_isPush 9 = .ok (.iconst 1, 1) := by decide +kernel
theorem dX4_isPush_10 : decode cX4_isPush 10 = .ok (.goto 4, 3) := by decide +kernel
theorem dX4_isPush_13 : decode cX4_isPush 13 = .ok (.iconst 0, 1) := by decide +kernel
theorem dX4_isPush_14 : decode cX4_isPush 14 = .ok (.ireturn, 1) := by decide +kernel
theorem dX4_isAtFront_0 : decode cX4_isAtFront 0 = .ok (.iload_n 0, 1) := by decide +kernel
theorem dX4_isAtFront_1 : decode cX4_isAtFront 1 = .ok (.ifCond .eq 8, 3) := by decide +kernel
theorem dX4_isAtFront_4 : decode cX4_isAtFront 4 = .ok (.iload_n 0, 1) := by decide +kernel
theorem dX4_isAtFront_5 : decode cX4_isAtFront 5 = .ok (.iconst 2, 1) := by decide +kernel
theorem dX4_isAtFront_6 : decode cX4_isAtFront 6 = .ok (.if_icmp .ne 7, 3) := by decide +kernel
theorem dX4_isAtFront_9 : decode cX4_isAtFront 9 = .ok (.iconst 1, 1) := by decide +kernel
theorem dX4_isAtFront_10 : decode cX4_isAtFront 10 = .ok (.goto 4, 3) := by decide +kernel
theorem dX4_isAtFront_13 : decode cX4_isAtFront 13 = .ok (.iconst 0, 1) := by decide +kernel
theorem dX4_isAtFront_14 : decode cX4_isAtFront 14 = .ok (.ireturn, 1) := by decide +kernel
theorem dX4_cell_0 : decode cX4_cell 0 = .ok (.iload_n 1, 1) := by decide +kernel
theorem dX4_cell_1 : decode cX4_cell 1 = .ok (.ifCond .lt 15, 3) := by decide +kernel
theorem dX4_cell_4 : decode cX4_cell 4 = .ok (.iload_n 1, 1) := by decide +kernel
theorem dX4_cell_5 : decode cX4_cell 5 = .ok (.aload_n 0, 1) := by decide +kernel
theorem dX4_cell_6 : decode cX4_cell 6 = .ok (.arraylength, 1) := by decide +kernel
theorem dX4_cell_7 : decode cX4_cell 7 = .ok (.if_icmp .ge 9, 3) := by decide +kernel
theorem dX4_cell_10 : decode cX4_cell 10 = .ok (.aload_n 0, 1) := by decide +kernel
theorem dX4_cell_11 : decode cX4_cell 11 = .ok (.iload_n 1, 1) := by decide +kernel
theorem dX4_cell_12 : decode cX4_cell 12 = .ok (.iaload, 1) := by decide +kernel
theorem dX4_cell_13 : decode cX4_cell 13 = .ok (.goto 4, 3) := by decide +kernel
theorem dX4_cell_16 : decode cX4_cell 16 = .ok (.iconst 0, 1) := by decide +kernel
theorem dX4_cell_17 : decode cX4_cell 17 = .ok (.ireturn, 1) := by decide +kernel
theorem dX4_fill_0 : decode cX4_fill 0 = .ok (.iload_n 1, 1) := by decide +kernel
theorem dX4_fill_1 : decode cX4_fill 1 = .ok (.ifCond .lt 13, 3) := by decide +kernel
theorem dX4_fill_4 : decode cX4_fill 4 = .ok (.iload_n 1, 1) := by decide +kernel
theorem dX4_fill_5 : decode cX4_fill 5 = .ok (.aload_n 0, 1) := by decide +kernel
theorem dX4_fill_6 : decode cX4_fill 6 = .ok (.arraylength, 1) := by decide +kernel
theorem dX4_fill_7 : decode cX4_fill 7 = .ok (.if_icmp .ge 7, 3) := by decide +kernel
theorem dX4_fill_10 : decode cX4_fill 10 = .ok (.aload_n 0, 1) := by decide +kernel
theorem dX4_fill_11 : decode cX4_fill 11 = .ok (.iload_n 1, 1) := by decide +kernel
theorem dX4_fill_12 : decode cX4_fill 12 = .ok (.iload_n 2, 1) := by decide +kernel
theorem dX4_fill_13 : decode cX4_fill 13 = .ok (.iastore, 1) := by decide +kernel
theorem dX4_fill_14 : decode cX4_fill 14 = .ok (.return_, 1) := by decide +kernel
theorem dX4_mixed_0 : decode cX4_mixed 0 = .ok (.ldc2_w 215, 3) := by decide +kernel
theorem dX4_mixed_3 : decode cX4_mixed 3 = .ok (.lload_n 0, 1) := by decide +kernel
theorem dX4_mixed_4 : decode cX4_mixed 4 = .ok (.lmul, 1) := by decide +kernel
theorem dX4_mixed_5 : decode cX4_mixed 5 = .ok (.iload_n 2, 1) := by decide +kernel
theorem dX4_mixed_6 : decode cX4_mixed 6 = .ok (.i2l, 1) := by decide +kernel
theorem dX4_mixed_7 : decode cX4_mixed 7 = .ok (.ladd, 1) := by decide +kernel
theorem dX4_mixed_8 : decode cX4_mixed 8 = .ok (.lreturn, 1) := by decide +kernel
set_option maxRecDepth 20000 in
theorem ggX4_mixedWith_X3_fact : GoodIn wsX4_mixedWith wsX3_fact := goodIn_r _ [5, 6, 7, 8, 9, 10, 11, 12, 13, 14, 15, 16, 17, 4, 18, 32, 33, 34, 35, 36, 37, 38, 39, 40, 41, 42] (by decide +kernel) (by decide +kernel)
set_option maxRecDepth 20000 in
theorem gX4_mixedWith_X3_fact : GoodIn wsX4_mixedWith (wsV RX4 102 RX3 yX3_fact wsX3_fact) := goodIn_app (goodIn_of _ (by decide +kernel)) ggX4_mixedWith_X3_fact
set_option maxRecDepth 20000 in
theorem ggX4_mixedWith_X4_mixed : GoodIn wsX4_mixedWith wsX4_mixed := goodIn_r _ [22, 23] (by decide +kernel) (by decide +kernel)
set_option maxRecDepth 20000 in
theorem gX4_mixedWith_X4_mixed : GoodIn wsX4_mixedWith (va_wsS RX4 183 yX4_mixed wsX4_mixed) := goodIn_app (goodIn_of _ (by decide +kernel)) ggX4_mixedWith_X4_mixed
set_option maxRecDepth 20000 in
theorem ggX4_mixedWith_X3_size : GoodIn wsX4_mixedWith wsX3_size := goodIn_r _ [18, 7, 8, 32, 33, 34, 35, 36, 37, 38, 39, 40, 41, 42] (by decide +kernel) (by decide +kernel)
set_option maxRecDepth 20000 in
theorem gX4_mixedWith_X3_size : GoodIn wsX4_mixedWith (wsV RX4 82 RX3 yX3_size wsX3_size) := goodIn_app (goodIn_of _ (by decide +kernel)) ggX4_mixedWith_X3_size
set_option maxRecDepth 20000 in
theorem ggX4_mixedWith_X3_look : GoodIn wsX4_mixedWith wsX3_look := goodIn_r _ [28, 29, 30, 21, 31, 32, 33, 34, 35, 36, 37, 38, 39, 40, 41, 42] (by decide +kernel) (by decide +kernel)
set_option maxRecDepth 20000 in
theorem gX4_mixedWith_X3_look : GoodIn wsX4_mixedWith (wsV RX4 113 RX3 yX3_look wsX3_look) := goodIn_app (goodIn_of _ (by decide +kernel)) ggX4_mixedWith_X3_look
theorem dX4_mixedWith_0 : decode cX4_mixedWith 0 = .ok (.lload_n 0, 1) := by decide +kernel
theorem dX4_mixedWith_1 : decode cX4_mixedWith 1 = .ok (.lstore_n 3, 1) := by decide +kernel
theorem dX4_mixedWith_2 : decode cX4_mixedWith 2 = .ok (.iconst 0, 1) := by decide +kernel
theorem dX4_mixedWith_3 : decode cX4_mixedWith 3 = .ok (.istore 5, 2) := by decide +kernel
theorem dX4_mixedWith_5 : decode cX4_mixedWith 5 = .ok (.iload 5, 2) := by decide +kernel
theorem dX4_mixedWith_7 : decode cX4_mixedWith 7 = .ok (.bipush 10, 2) := by decide +kernel
theorem dX4_mixedWith_9 : decode cX4_mixedWith 9 = .ok (.if_icmp .ge 20, 3) := by decide +kernel
theorem dX4_mixedWith_12 : decode cX4_mixedWith 12 = .ok (.lload_n 3, 1) := by decide +kernel
theorem dX4_mixedWith_13 : decode cX4_mixedWith 13 = .ok (.aload_n 2, 1) := by decide +kernel
theorem dX4_mixedWith_14 : decode cX4_mixedWith 14 = .ok (.iload 5, 2) := by decide +kernel
theorem dX4_mixedWith_16 : decode cX4_mixedWith 16 = .ok (.invokevirtual 102, 3) := by decide +kernel
theorem dX4_mixedWith_19 : decode cX4_mixedWith 19 = .ok (.invokestatic 183, 3) := by decide +kernel
theorem dX4_mixedWith_22 : decode cX4_mixedWith 22 = .ok (.lstore_n 3, 1) := by decide +kernel
theorem dX4_mixedWith_23 : decode cX4_mixedWith 23 = .ok (.iinc 5 1, 3) := by decide +kernel
theorem dX4_mixedWith_26 : decode cX4_mixedWith 26 = .ok (.goto (-21), 3) := by decide +kernel
theorem dX4_mixedWith_29 : decode cX4_mixedWith 29 = .ok (.aload_n 2, 1) := by decide +kernel
theorem dX4_mixedWith_30 : decode cX4_mixedWith 30 = .ok (.invokevirtual 82, 3) := by decide +kernel
theorem dX4_mixedWith_33 : decode cX4_mixedWith 33 = .ok (.istore 5, 2) := by decide +kernel
theorem dX4_mixedWith_35 : decode cX4_mixedWith 35 = .ok (.iconst 0, 1) := by decide +kernel
theorem dX4_mixedWith_36 : decode cX4_mixedWith 36 = .ok (.istore 6, 2) := by decide +kernel
theorem dX4_mixedWith_38 : decode cX4_mixedWith 38 = .ok (.iload 6, 2) := by decide +kernel
theorem dX4_mixedWith_40 : decode cX4_mixedWith 40 = .ok (.iload 5, 2) := by decide +kernel
theorem dX4_mixedWith_42 : decode cX4_mixedWith 42 = .ok (.if_icmp .ge 20, 3) := by decide +kernel
theorem dX4_mixedWith_45 : decode cX4_mixedWith 45 = .ok (.lload_n 3, 1) := by decide +kernel
theorem dX4_mixedWith_46 : decode cX4_mixedWith 46 = .ok (.aload_n 2, 1) := by decide +kernel
theorem dX4_mixedWith_47 : decode cX4_mixedWith 47 = .ok (.iload 6, 2) := by decide +kernel
theorem dX4_mixedWith_49 : decode cX4_mixedWith 49 = .ok (.invokevirtual 113, 3) := by decide +kernel
theorem dX4_mixedWith_52 : decode cX4_mixedWith 52 = .ok (.invokestatic 183, 3) := by decide +kernel
theorem dX4_mixedWith_55 : decode cX4_mixedWith 55 = .ok (.lstore_n 3, 1) := by decide +kernel
theorem dX4_mixedWith_56 : decode cX4_mixedWith 56 = .ok (.iinc 6 1, 3) := by decide +kernel
theorem dX4_mixedWith_59 : decode cX4_mixedWith 59 = .ok (.goto (-21), 3) := by decide +kernel
theorem dX4_mixedWith_62 : decode cX4_mixedWith 62 = .ok (.lload_n 3, 1) := by decide +kernel
theorem dX4_mixedWith_63 : decode cX4_mixedWith 63 = .ok (.lreturn, 1) := by decide +kernel
set_option maxRecDepth 20000 in
theorem ggX4_save_X4_moveOldestSavedToEnd : GoodIn wsX4_save wsX4_moveOldestSavedToEnd := goodIn_r _ [11, 2, 62, 63, 64, 65, 66] (by decide +kernel) (by decide +kernel)
set_option maxRecDepth 20000 in
theorem gX4_save_X4_moveOldestSavedToEnd : GoodIn wsX4_save (wsV RX4 217 RX4 yX4_moveOldestSavedToEnd wsX4_moveOldestSavedToEnd) := goodIn_app (goodIn_of _ (by decide +kernel)) ggX4_save_X4_moveOldestSavedToEnd
set_option maxRecDepth 20000 in
theorem ggX4_save_X1_init : GoodIn wsX4_save wsX1_init := goodIn_r _ [14, 15, 16, 17, 18, 19, 20, 21, 22, 23, 24, 67, 68, 69, 70, 71] (by decide +kernel) (by decide +kernel)
set_option maxRecDepth 20000 in
theorem gX4_save_X1_init : GoodIn wsX4_save (wsX1_init) := ggX4_save_X1_init
set_option maxRecDepth 20000 in
theorem ggX4_save_X1_copyFrom : GoodIn wsX4_save wsX1_copyFrom := goodIn_r _ [28, 18, 19, 20, 29, 30, 31, 5, 32, 22, 21, 33, 34, 35, 36, 37, 38, 16, 17, 39, 40, 41, 42, 43, 44, 45, 46, 47, 48, 23, 49, 50, 51, 52, 53, 54, 55, 56, 57, 58, 59, 60, 61, 67, 68, 69, 70, 71, 72, 73, 74, 75, 76, 77, 78, 79, 80, 81, 82] (by decide +kernel) (by decide +kernel)
set_option maxRecDepth 20000 in
theorem gX4_save_X1_copyFrom : GoodIn wsX4_save (wsV RX4 220 RX1 yX1_copyFrom wsX1_copyFrom) := goodIn_app (goodIn_of _ (by decide +kernel)) ggX4_save_X1_copyFrom
theorem dX4_save_0 : decode cX4_save 0 = .ok (.aload_n 0, 1) := by decide +kernel
theorem dX4_save_1 : decode cX4_save 1 = .ok (.getfield 34, 3) := by decide +kernel
theorem dX4_save_4 : decode cX4_save 4 = .ok (.iconst 4, 1) := by decide +kernel
theorem dX4_save_5 : decode cX4_save 5 = .ok (.if_icmp .lt 12, 3) := by decide +kernel
theorem dX4_save_8 : decode cX4_save 8 = .ok (.aload_n 0, 1) := by decide +kernel
theorem dX4_save_9 : decode cX4_save 9 = .ok (.invokevirtual 217, 3) := by decide +kernel
theorem dX4_save_12 : decode cX4_save 12 = .ok (.aload_n 0, 1) := by decide +kernel
theorem dX4_save_13 : decode cX4_save 13 = .ok (.iconst 3, 1) := by decide +kernel
theorem dX4_save_14 : decode cX4_save 14 = .ok (.putfield 34, 3) := by decide +kernel
theorem dX4_save_17 : decode cX4_save 17 = .ok (.aload_n 0, 1) := by decide +kernel
theorem dX4_save_18 : decode cX4_save 18 = .ok (.getfield 34, 3) := by decide +kernel
theorem dX4_save_21 : decode cX4_save 21 = .ok (.ifCond .lt 15, 3) := by decide +kernel
theorem dX4_save_24 : decode cX4_save 24 = .ok (.aload_n 0, 1) := by decide +kernel
theorem dX4_save_25 : decode cX4_save 25 = .ok (.getfield 34, 3) := by decide +kernel
theorem dX4_save_28 : decode cX4_save 28 = .ok (.aload_n 0, 1) := by decide +kernel
theorem dX4_save_29 : decode cX4_save 29 = .ok (.getfield 25, 3) := by decide +kernel
theorem dX4_save_32 : decode cX4_save 32 = .ok (.arraylength, 1) := by decide +kernel
theorem dX4_save_33 : decode cX4_save 33 = .ok (.if_icmp .lt 4, 3) := by decide +kernel
theorem dX4_save_36 : decode cX4_save 36 = .ok (.return_, 1) := by decide +kernel
theorem dX4_save_37 : decode cX4_save 37 = .ok (.aload_n 0, 1) := by decide +kernel
theorem dX4_save_38 : decode cX4_save 38 = .ok (.getfield 25, 3) := by decide +kernel
theorem dX4_save_41 : decode cX4_save 41 = .ok (.aload_n 0, 1) := by decide +kernel
theorem dX4_save_42 : decode cX4_save 42 = .ok (.getfield 34, 3) := by decide +kernel
theorem dX4_save_45 : decode cX4_save 45 = .ok (.aaload, 1) := by decide +kernel
theorem dX4_save_46 : decode cX4_save 46 = .ok (.astore_n 1, 1) := by decide +kernel
theorem dX4_save_47 : decode cX4_save 47 = .ok (.aload_n 1, 1) := by decide +kernel
theorem dX4_save_48 : decode cX4_save 48 = .ok (.ifnonnull 21, 3) := by decide +kernel
theorem dX4_save_51 : decode cX4_save 51 = .ok (.new 23, 3) := by decide +kernel
theorem dX4_save_54 : decode cX4_save 54 = .ok (.dup, 1) := by decide +kernel
theorem dX4_save_55 : decode cX4_save 55 = .ok (.invokespecial 29, 3) := by decide +kernel
theorem dX4_save_58 : decode cX4_save 58 = .ok (.astore_n 1, 1) := by decide +kernel
theorem dX4_save_59 : decode cX4_save 59 = .ok (.aload_n 0, 1) := by decide +kernel
theorem dX4_save_60 : decode cX4_save 60 = .ok (.getfield 25, 3) := by decide +kernel
theorem dX4_save_63 : decode cX4_save 63 = .ok (.aload_n 0, 1) := by decide +kernel
theorem dX4_save_64 : decode cX4_save 64 = .ok (.getfield 34, 3) := by decide +kernel
theorem dX4_save_67 : decode cX4_save 67 = .ok (.aload_n 1, 1) := by decide +kernel
theorem dX4_save_68 : decode cX4_save 68 = .ok (.aastore, 1) := by decide +kernel
theorem dX4_save_69 : decode cX4_save 69 = .ok (.aload_n 1, 1) := by decide +kernel
theorem dX4_save_70 : decode cX4_save 70 = .ok (.aload_n 0, 1) := by decide +kernel
theorem dX4_save_71 : decode cX4_save 71 = .ok (.getfield 30, 3) := by decide +kernel
theorem dX4_save_74 : decode cX4_save 74 = .ok (.invokevirtual 220, 3) := by decide +kernel
theorem dX4_save_77 : decode cX4_save 77 = .ok (.aload_n 0, 1) := by decide +kernel
theorem dX4_save_78 : decode cX4_save 78 = .ok (.dup, 1) := by decide +kernel
theorem dX4_save_79 : decode cX4_save 79 = .ok (.getfield 34, 3) := by decide +kernel
theorem dX4_save_82 : decode cX4_save 82 = .ok (.iconst 1, 1) := by decide +kernel
theorem dX4_save_83 : decode cX4_save 83 = .ok (.iadd, 1) := by decide +kernel
theorem dX4_save_84 : decode cX4_save 84 = .ok (.putfield 34, 3) := by decide +kernel
theorem dX4_save_87 : decode cX4_save 87 = .ok (.return_, 1) := by decide +kernel
theorem dX4_moveOldestSavedToEnd_0 : decode cX4_moveOldestSavedToEnd 0 = .ok (.iconst 1, 1) := by decide +kernel
theorem dX4_moveOldestSavedToEnd_1 : decode cX4_moveOldestSavedToEnd 1 = .ok (.istore_n 1, 1) := by decide +kernel
theorem dX4_moveOldestSavedToEnd_2 : decode cX4_moveOldestSavedToEnd 2 = .ok (.iload_n 1, 1) := by decide +kernel
theorem dX4_moveOldestSavedToEnd_3 : decode cX4_moveOldestSavedToEnd 3 = .ok (.aload_n 0, 1) := by decide +kernel
theorem dX4_moveOldestSavedToEnd_4 : decode cX4_moveOldestSavedToEnd 4 = .ok (.getfield 25, 3) := by decide +kernel
theorem dX4_moveOldestSavedToEnd_7 : decode cX4_moveOldestSavedToEnd 7 = .ok (.arraylength, 1) := by decide +kernel
theorem dX4_moveOldestSavedToEnd_8 : decode cX4_moveOldestSavedToEnd 8 = .ok (.if_icmp .ge 39, 3) := by decide +kernel
theorem dX4_moveOldestSavedToEnd_11 : decode cX4_moveOldestSavedToEnd 11 = .ok (.aload_n 0, 1) := by decide +kernel
theorem dX4_moveOldestSavedToEnd_12 : decode cX4_moveOldestSavedToEnd 12 = .ok (.getfield 25, 3) := by decide +kernel
theorem dX4_moveOldestSavedToEnd_15 : decode cX4_moveOldestSavedToEnd 15 = .ok (.iload_n 1, 1) := by decide +kernel
theorem dX4_moveOldestSavedToEnd_16 : decode cX4_moveOldestSavedToEnd 16 = .ok (.iconst 1, 1) := by decide +kernel
theorem dX4_moveOldestSavedToEnd_17 : decode cX4_moveOldestSavedToEnd 17 = .ok (.isub, 1) := by decide +kernel
theorem dX4_moveOldestSavedToEnd_18 : decode cX4_moveOldestSavedToEnd 18 = .ok (.aaload, 1) := by decide +kernel
theorem dX4_moveOldestSavedToEnd_19 : decode cX4_moveOldestSavedToEnd 19 = .ok (.astore_n 2, 1) := by decide +kernel
theorem dX4_moveOldestSavedToEnd_20 : decode cX4_moveOldestSavedToEnd 20 = .ok (.aload_n 0, 1) := by decide +kernel
theorem dX4_moveOldestSavedToEnd_21 : decode cX4_moveOldestSavedToEnd 21 = .ok (.getfield 25, 3) := by decide +kernel
theorem dX4_moveOldestSavedToEnd_24 : decode cX4_moveOldestSavedToEnd 24 = .ok (.iload_n 1, 1) := by decide +kernel
theorem dX4_moveOldestSavedToEnd_25 : decode cX4_moveOldestSavedToEnd 25 = .ok (.iconst 1, 1) := by decide +kernel
theorem dX4_moveOldestSavedToEnd_26 : decode cX4_moveOldestSavedToEnd 26 = .ok (.isub, 1) := by decide +kernel
theorem dX4_moveOldestSavedToEnd_27 : decode cX4_moveOldestSavedToEnd 27 = .ok (.aload_n 0, 1) := by decide +kernel
theorem dX4_moveOldestSavedToEnd_28 : decode cX4_moveOldestSavedToEnd 28 = .ok (.getfield 25, 3) := by decide +kernel
theorem dX4_moveOldestSavedToEnd_31 : decode cX4_moveOldestSavedToEnd 31 = .ok (.iload_n 1, 1) := by decide +kernel
theorem dX4_moveOldestSavedToEnd_32 : decode cX4_moveOldestSavedToEnd 32 = .ok (.aaload, 1) := by decide +kernel
theorem dX4_moveOldestSavedToEnd_33 : decode cX4_moveOldestSavedToEnd 33 = .ok (.aastore, 1) := by decide +kernel
theorem dX4_moveOldestSavedToEnd_34 : decode cX4_moveOldestSavedToEnd 34 = .ok (.aload_n 0, 1) := by decide +kernel
theorem dX4_moveOldestSavedToEnd_35 : decode cX4_moveOldestSavedToEnd 35 = .ok (.getfield 25, 3) := by decide +kernel
theorem dX4_moveOldestSavedToEnd_38 : decode cX4_moveOldestSavedToEnd 38 = .ok (.iload_n 1, 1) := by decide +kernel
theorem dX4_moveOldestSavedToEnd_39 : decode cX4_moveOldestSavedToEnd 39 = .ok (.aload_n 2, 1) := by decide +kernel
theorem dX4_moveOldestSavedToEnd_40 : decode cX4_moveOldestSavedToEnd 40 = .ok (.aastore, 1) := by decide +kernel
theorem dX4_moveOldestSavedToEnd_41 : decode cX4_moveOldestSavedToEnd 41 = .ok (.iinc 1 1, 3) := by decide +kernel
theorem dX4_moveOldestSavedToEnd_44 : decode cX4_moveOldestSavedToEnd 44 = .ok (.goto (-42), 3) := by decide +kernel
theorem dX4_moveOldestSavedToEnd_47 : decode cX4_moveOldestSavedToEnd 47 = .ok (.return_, 1) := by decide +kernel
theorem dJ9_max_7cf53_0 : decode cJ9_max_7cf53 0 = .ok (.iload_n 0, 1) := by decide +kernel
theorem dJ9_max_7cf53_1 : decode cJ9_max_7cf53 1 = .ok (.iload_n 1, 1) := by decide +kernel
theorem dJ9_max_7cf53_2 : decode cJ9_max_7cf53 2 = .ok (.if_icmp .lt 7, 3) := by decide +kernel
theorem dJ9_max_7cf53_5 : decode cJ9_max_7cf53 5 = .ok (.iload_n 0, 1) := by decide +kernel
theorem dJ9_max_7cf53_6 : decode cJ9_max_7cf53 6 = .ok (.goto 4, 3) := by decide +kernel
theorem dJ9_max_7cf53_9 : decode cJ9_max_7cf53 9 = .ok (.iload_n 1, 1) := by decide +kernel
theorem dJ9_max_7cf53_10 : decode cJ9_max_7cf53 10 = .ok (.ireturn, 1) := by decide +kernel
theorem dJ9_min_7cf53_0 : decode cJ9_min_7cf53 0 = .ok (.iload_n 0, 1) := by decide +kernel
theorem dJ9_min_7cf53_1 : decode cJ9_min_7cf53 1 = .ok (.iload_n 1, 1) := by decide +kernel
theorem dJ9_min_7cf53_2 : decode cJ9_min_7cf53 2 = .ok (.if_icmp .gt 7, 3) := by decide +kernel
theorem dJ9_min_7cf53_5 : decode cJ9_min_7cf53 5 = .ok (.iload_n 0, 1) := by decide +kernel
theorem dJ9_min_7cf53_6 : decode cJ9_min_7cf53 6 = .ok (.goto 4, 3) := by decide +kernel
theorem dJ9_min_7cf53_9 : decode cJ9_min_7cf53 9 = .ok (.iload_n 1, 1) := by decide +kernel
theorem dJ9_min_7cf53_10 : decode cJ9_min_7cf53 10 = .ok (.ireturn, 1) := by decide +kernel
