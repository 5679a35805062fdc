set_option maxRecDepth 20000 in
theorem ggX1_init_X6_fillRow : GoodIn wsX1_init wsX6_fillRow := goodIn_r _ [16] (by decide +kernel) (by decide +kernel)
set_option maxRecDepth 20000 in
theorem gX1_init_X6_fillRow_n39 : GoodIn wsX1_init (wsX6_fillRow) := ggX1_init_X6_fillRow
theorem dX1_init_0 : decode cX1_init 0 = .ok (.aload_n 0, 1) := by decide +kernel
theorem dX1_init_1 : decode cX1_init 1 = .ok (.invokespecial 3, 3) := by decide +kernel
theorem dX1_init_4 : decode cX1_init 4 = .ok (.aload_n 0, 1) := by decide +kernel
theorem dX1_init_5 : decode cX1_init 5 = .ok (.bipush 32, 2) := by decide +kernel
theorem dX1_init_7 : decode cX1_init 7 = .ok (.newarray .int, 2) := by decide +kernel
theorem dX1_init_9 : decode cX1_init 9 = .ok (.putfield 9, 3) := by decide +kernel
theorem dX1_init_12 : decode cX1_init 12 = .ok (.aload_n 0, 1) := by decide +kernel
theorem dX1_init_13 : decode cX1_init 13 = .ok (.bipush 32, 2) := by decide +kernel
theorem dX1_init_15 : decode cX1_init 15 = .ok (.newarray .int, 2) := by decide +kernel
theorem dX1_init_17 : decode cX1_init 17 = .ok (.putfield 15, 3) := by decide +kernel
theorem dX1_init_20 : decode cX1_init 20 = .ok (.aload_n 0, 1) := by decide +kernel
theorem dX1_init_21 : decode cX1_init 21 = .ok (.bipush 32, 2) := by decide +kernel
theorem dX1_init_23 : decode cX1_init 23 = .ok (.newarray .int, 2) := by decide +kernel
theorem dX1_init_25 : decode cX1_init 25 = .ok (.putfield 18, 3) := by decide +kernel
theorem dX1_init_28 : decode cX1_init 28 = .ok (.aload_n 0, 1) := by decide +kernel
theorem dX1_init_29 : decode cX1_init 29 = .ok (.bipush 32, 2) := by decide +kernel
theorem dX1_init_31 : decode cX1_init 31 = .ok (.newarray .int, 2) := by decide +kernel
theorem dX1_init_33 : decode cX1_init 33 = .ok (.putfield 21, 3) := by decide +kernel
theorem dX1_init_36 : decode cX1_init 36 = .ok (.aload_n 0, 1) := by decide +kernel
theorem dX1_init_37 : decode cX1_init 37 = .ok (.bipush 32, 2) := by decide +kernel
theorem dX1_init_39 : decode cX1_init 39 = .ok (.newarray .int, 2) := by decide +kernel
theorem dX1_init_41 : decode cX1_init 41 = .ok (.putfield 24, 3) := by decide +kernel
theorem dX1_init_44 : decode cX1_init 44 = .ok (.aload_n 0, 1) := by decide +kernel
theorem dX1_init_45 : decode cX1_init 45 = .ok (.bipush 32, 2) := by decide +kernel
theorem dX1_init_47 : decode cX1_init 47 = .ok (.newarray .int, 2) := by decide +kernel
theorem dX1_init_49 : decode cX1_init 49 = .ok (.putfield 27, 3) := by decide +kernel
theorem dX1_init_52 : decode cX1_init 52 = .ok (.aload_n 0, 1) := by decide +kernel
theorem dX1_init_53 : decode cX1_init 53 = .ok (.sipush 160, 3) := by decide +kernel
theorem dX1_init_56 : decode cX1_init 56 = .ok (.newarray .int, 2) := by decide +kernel
theorem dX1_init_58 : decode cX1_init 58 = .ok (.putfield 30, 3) := by decide +kernel
theorem dX1_init_61 : decode cX1_init 61 = .ok (.aload_n 0, 1) := by decide +kernel
theorem dX1_init_62 : decode cX1_init 62 = .ok (.sipush 160, 3) := by decide +kernel
theorem dX1_init_65 : decode cX1_init 65 = .ok (.newarray .int, 2) := by decide +kernel
theorem dX1_init_67 : decode cX1_init 67 = .ok (.putfield 33, 3) := by decide +kernel
theorem dX1_init_70 : decode cX1_init 70 = .ok (.aload_n 0, 1) := by decide +kernel
theorem dX1_init_71 : decode cX1_init 71 = .ok (.sipush 192, 3) := by decide +kernel
theorem dX1_init_74 : decode cX1_init 74 = .ok (.newarray .int, 2) := by decide +kernel
theorem dX1_init_76 : decode cX1_init 76 = .ok (.putfield 36, 3) := by decide +kernel
theorem dX1_init_79 : decode cX1_init 79 = .ok (.aload_n 0, 1) := by decide +kernel
theorem dX1_init_80 : decode cX1_init 80 = .ok (.getfield 15, 3) := by decide +kernel
theorem dX1_init_83 : decode cX1_init 83 = .ok (.sipush (-1000), 3) := by decide +kernel
theorem dX1_init_86 : decode cX1_init 86 = .ok (.invokestatic 39, 3) := by decide +kernel
theorem dX1_init_89 : decode cX1_init 89 = .ok (.aload_n 0, 1) := by decide +kernel
theorem dX1_init_90 : decode cX1_init 90 = .ok (.getfield 18, 3) := by decide +kernel
theorem dX1_init_93 : decode cX1_init 93 = .ok (.sipush (-1000), 3) := by decide +kernel
theorem dX1_init_96 : decode cX1_init 96 = .ok (.invokestatic 39, 3) := by decide +kernel
theorem dX1_init_99 : decode cX1_init 99 = .ok (.aload_n 0, 1) := by decide +kernel
theorem dX1_init_100 : decode cX1_init 100 = .ok (.getfield 21, 3) := by decide +kernel
theorem dX1_init_103 : decode cX1_init 103 = .ok (.sipush (-1000), 3) := by decide +kernel
theorem dX1_init_106 : decode cX1_init 106 = .ok (.invokestatic 39, 3) := by decide +kernel
theorem dX1_init_109 : decode cX1_init 109 = .ok (.return_, 1) := by decide +kernel
set_option maxRecDepth 20000 in
theorem ggX1_copyFrom_X6_copyRow : GoodIn wsX1_copyFrom wsX6_copyRow := goodIn_r _ [12] (by decide +kernel) (by decide +kernel)
set_option maxRecDepth 20000 in
theorem gX1_copyFrom_X6_copyRow_n43 : GoodIn wsX1_copyFrom (wsX6_copyRow) := ggX1_copyFrom_X6_copyRow
theorem dX1_copyFrom_0 : decode cX1_copyFrom 0 = .ok (.aload_n 1, 1) := by decide +kernel
theorem dX1_copyFrom_1 : decode cX1_copyFrom 1 = .ok (.getfield 9, 3) := by decide +kernel
theorem dX1_copyFrom_4 : decode cX1_copyFrom 4 = .ok (.aload_n 0, 1) := by decide +kernel
theorem dX1_copyFrom_5 : decode cX1_copyFrom 5 = .ok (.getfield 9, 3) := by decide +kernel
theorem dX1_copyFrom_8 : decode cX1_copyFrom 8 = .ok (.invokestatic 43, 3) := by decide +kernel
theorem dX1_copyFrom_11 : decode cX1_copyFrom 11 = .ok (.aload_n 1, 1) := by decide +kernel
theorem dX1_copyFrom_12 : decode cX1_copyFrom 12 = .ok (.getfield 15, 3) := by decide +kernel
theorem dX1_copyFrom_15 : decode cX1_copyFrom 15 = .ok (.aload_n 0, 1) := by decide +kernel
theorem dX1_copyFrom_16 : decode cX1_copyFrom 16 = .ok (.getfield 15, 3) := by decide +kernel
theorem dX1_copyFrom_19 : decode cX1_copyFrom 19 = .ok (.invokestatic 43, 3) := by decide +kernel
theorem dX1_copyFrom_22 : decode cX1_copyFrom 22 = .ok (.aload_n 1, 1) := by decide +kernel
theorem dX1_copyFrom_23 : decode cX1_copyFrom 23 = .ok (.getfield 18, 3) := by decide +kernel
theorem dX1_copyFrom_26 : decode cX1_copyFrom 26 = .ok (.aload_n 0, 1) := by decide +kernel
theorem dX1_copyFrom_27 : decode cX1_copyFrom 27 = .ok (.getfield 18, 3) := by decide +kernel
theorem dX1_copyFrom_30 : decode cX1_copyFrom 30 = .ok (.invokestatic 43, 3) := by decide +kernel
theorem dX1_copyFrom_33 : decode cX1_copyFrom 33 = .ok (.aload_n 1, 1) := by decide +kernel
theorem dX1_copyFrom_34 : decode cX1_copyFrom 34 = .ok (.getfield 21, 3) := by decide +kernel
theorem dX1_copyFrom_37 : decode cX1_copyFrom 37 = .ok (.aload_n 0, 1) := by decide +kernel
theorem dX1_copyFrom_38 : decode cX1_copyFrom 38 = .ok (.getfield 21, 3) := by decide +kernel
theorem dX1_copyFrom_41 : decode cX1_copyFrom 41 = .ok (.invokestatic 43, 3) := by decide +kernel
theorem dX1_copyFrom_44 : decode cX1_copyFrom 44 = .ok (.aload_n 1, 1) := by decide +kernel
theorem dX1_copyFrom_45 : decode cX1_copyFrom 45 = .ok (.getfield 24, 3) := by decide +kernel
theorem dX1_copyFrom_48 : decode cX1_copyFrom 48 = .ok (.aload_n 0, 1) := by decide +kernel
theorem dX1_copyFrom_49 : decode cX1_copyFrom 49 = .ok (.getfield 24, 3) := by decide +kernel
theorem dX1_copyFrom_52 : decode cX1_copyFrom 52 = .ok (.invokestatic 43, 3) := by decide +kernel
theorem dX1_copyFrom_55 : decode cX1_copyFrom 55 = .ok (.aload_n 1, 1) := by decide +kernel
theorem dX1_copyFrom_56 : decode cX1_copyFrom 56 = .ok (.getfield 27, 3) := by decide +kernel
theorem dX1_copyFrom_59 : decode cX1_copyFrom 59 = .ok (.aload_n 0, 1) := by decide +kernel
theorem dX1_copyFrom_60 : decode cX1_copyFrom 60 = .ok (.getfield 27, 3) := by decide +kernel
theorem dX1_copyFrom_63 : decode cX1_copyFrom 63 = .ok (.invokestatic 43, 3) := by decide +kernel
theorem dX1_copyFrom_66 : decode cX1_copyFrom 66 = .ok (.aload_n 1, 1) := by decide +kernel
theorem dX1_copyFrom_67 : decode cX1_copyFrom 67 = .ok (.getfield 30, 3) := by decide +kernel
theorem dX1_copyFrom_70 : decode cX1_copyFrom 70 = .ok (.aload_n 0, 1) := by decide +kernel
theorem dX1_copyFrom_71 : decode cX1_copyFrom 71 = .ok (.getfield 30, 3) := by decide +kernel
theorem dX1_copyFrom_74 : decode cX1_copyFrom 74 = .ok (.invokestatic 43, 3) := by decide +kernel
theorem dX1_copyFrom_77 : decode cX1_copyFrom 77 = .ok (.aload_n 1, 1) := by decide +kernel
theorem dX1_copyFrom_78 : decode cX1_copyFrom 78 = .ok (.getfield 33, 3) := by decide +kernel
theorem dX1_copyFrom_81 : decode cX1_copyFrom 81 = .ok (.aload_n 0, 1) := by decide +kernel
theorem dX1_copyFrom_82 : decode cX1_copyFrom 82 = .ok (.getfield 33, 3) := by decide +kernel
theorem dX1_copyFrom_85 : decode cX1_copyFrom 85 = .ok (.invokestatic 43, 3) := by decide +kernel
theorem dX1_copyFrom_88 : decode cX1_copyFrom 88 = .ok (.aload_n 1, 1) := by decide +kernel
theorem dX1_copyFrom_89 : decode cX1_copyFrom 89 = .ok (.getfield 36, 3) := by decide +kernel
theorem dX1_copyFrom_92 : decode cX1_copyFrom 92 = .ok (.aload_n 0, 1) := by decide +kernel
theorem dX1_copyFrom_93 : decode cX1_copyFrom 93 = .ok (.getfield 36, 3) := by decide +kernel
theorem dX1_copyFrom_96 : decode cX1_copyFrom 96 = .ok (.invokestatic 43, 3) := by decide +kernel
theorem dX1_copyFrom_99 : decode cX1_copyFrom 99 = .ok (.return_, 1) := by decide +kernel
theorem dX1_sizeOf_0 : decode cX1_sizeOf 0 = .ok (.iload_n 1, 1) := by decide +kernel
theorem dX1_sizeOf_1 : decode cX1_sizeOf 1 = .ok (.ifCond .lt 21, 3) := by decide +kernel
theorem dX1_sizeOf_4 : decode cX1_sizeOf 4 = .ok (.iload_n 1, 1) := by decide +kernel
theorem dX1_sizeOf_5 : decode cX1_sizeOf 5 = .ok (.aload_n 0, 1) := by decide +kernel
theorem dX1_sizeOf_6 : decode cX1_sizeOf 6 = .ok (.getfield 18, 3) := by decide +kernel
theorem dX1_sizeOf_9 : decode cX1_sizeOf 9 = .ok (.arraylength, 1) := by decide +kernel
theorem dX1_sizeOf_10 : decode cX1_sizeOf 10 = .ok (.if_icmp .ge 12, 3) := by decide +kernel
theorem dX1_sizeOf_13 : decode cX1_sizeOf 13 = .ok (.aload_n 0, 1) := by decide +kernel
theorem dX1_sizeOf_14 : decode cX1_sizeOf 14 = .ok (.getfield 18, 3) := by decide +kernel
theorem dX1_sizeOf_17 : decode cX1_sizeOf 17 = .ok (.iload_n 1, 1) := by decide +kernel
theorem dX1_sizeOf_18 : decode cX1_sizeOf 18 = .ok (.iaload, 1) := by decide +kernel
theorem dX1_sizeOf_19 : decode cX1_sizeOf 19 = .ok (.goto 6, 3) := by decide +kernel
theorem dX1_sizeOf_22 : decode cX1_sizeOf 22 = .ok (.sipush (-1000), 3) := by decide +kernel
theorem dX1_sizeOf_25 : decode cX1_sizeOf 25 = .ok (.ireturn, 1) := by decide +kernel
theorem dX1_isFresh_0 : decode cX1_isFresh 0 = .ok (.iload_n 1, 1) := by decide +kernel
theorem dX1_isFresh_1 : decode cX1_isFresh 1 = .ok (.ifCond .lt 26, 3) := by decide +kernel
theorem dX1_isFresh_4 : decode cX1_isFresh 4 = .ok (.iload_n 1, 1) := by decide +kernel
theorem dX1_isFresh_5 : decode cX1_isFresh 5 = .ok (.aload_n 0, 1) := by decide +kernel
theorem dX1_isFresh_6 : decode cX1_isFresh 6 = .ok (.getfield 24, 3) := by decide +kernel
theorem dX1_isFresh_9 : decode cX1_isFresh 9 = .ok (.arraylength, 1) := by decide +kernel
theorem dX1_isFresh_10 : decode cX1_isFresh 10 = .ok (.if_icmp .ge 17, 3) := by decide +kernel
theorem dX1_isFresh_13 : decode cX1_isFresh 13 = .ok (.aload_n 0, 1) := by decide +kernel
theorem dX1_isFresh_14 : decode cX1_isFresh 14 = .ok (.getfield 24, 3) := by decide +kernel
theorem dX1_isFresh_17 : decode cX1_isFresh 17 = .ok (.iload_n 1, 1) := by decide +kernel
theorem dX1_isFresh_18 : decode cX1_isFresh 18 = .ok (.iaload, 1) := by decide +kernel
theorem dX1_isFresh_19 : decode cX1_isFresh 19 = .ok (.iconst 1, 1) := by decide +kernel
theorem dX1_isFresh_20 : decode cX1_isFresh 20 = .ok (.if_icmp .ne 7, 3) := by decide +kernel
theorem dX1_isFresh_23 : decode cX1_isFresh 23 = .ok (.iconst 1, 1) := by decide +kernel
theorem dX1_isFresh_24 : decode cX1_isFresh 24 = .ok (.goto 4, 3) := by decide +kernel
theorem dX1_isFresh_27 : decode cX1_isFresh 27 = .ok (.iconst 0, 1) := by decide +kernel
theorem dX1_isFresh_28 : decode cX1_isFresh 28 = .ok (.ireturn, 1) := by decide +kernel
set_option maxRecDepth 20000 in
theorem ggX1_part_X6_cell : GoodIn wsX1_part wsX6_cell := goodIn_r _ [8] (by decide +kernel) (by decide +kernel)
set_option maxRecDepth 20000 in
theorem gX1_part_X6_cell_n47 : GoodIn wsX1_part (wsX6_cell) := ggX1_part_X6_cell
set_option maxRecDepth 20000 in
theorem ggX1_part_X1_canBeDug : GoodIn wsX1_part wsX1_canBeDug := goodIn_r _ [13, 1, 4, 16, 17, 18, 19, 20, 21, 22, 23, 24] (by decide +kernel) (by decide +kernel)
set_option maxRecDepth 20000 in
theorem gX1_part_X1_canBeDug : GoodIn wsX1_part (wsV RX1 51 RX1 yX1_canBeDug wsX1_canBeDug) := goodIn_app (goodIn_of _ (by decide +kernel)) ggX1_part_X1_canBeDug
set_option maxRecDepth 20000 in
theorem ggX1_part_X6_one : GoodIn wsX1_part wsX6_one := goodIn_r _ [15] (by decide +kernel) (by decide +kernel)
set_option maxRecDepth 20000 in
theorem gX1_part_X6_one_n55 : GoodIn wsX1_part (wsX6_one) := ggX1_part_X6_one
theorem dX1_part_0 : decode cX1_part 0 = .ok (.iload_n 2, 1) := by decide +kernel
theorem dX1_part_1 : decode cX1_part 1 = .ok (.tableswitch 94 0 5 #[39, 48, 57, 66, 75, 85], 39) := by decide +kernel
theorem dX1_part_40 : decode cX1_part 40 = .ok (.aload_n 0, 1) := by decide +kernel
theorem dX1_part_41 : decode cX1_part 41 = .ok (.getfield 9, 3) := by decide +kernel
theorem dX1_part_44 : decode cX1_part 44 = .ok (.iload_n 1, 1) := by decide +kernel
theorem dX1_part_45 : decode cX1_part 45 = .ok (.invokestatic 47, 3) := by decide +kernel
theorem dX1_part_48 : decode cX1_part 48 = .ok (.ireturn, 1) := by decide +kernel
theorem dX1_part_49 : decode cX1_part 49 = .ok (.aload_n 0, 1) := by decide +kernel
theorem dX1_part_50 : decode cX1_part 50 = .ok (.getfield 15, 3) := by decide +kernel
theorem dX1_part_53 : decode cX1_part 53 = .ok (.iload_n 1, 1) := by decide +kernel
theorem dX1_part_54 : decode cX1_part 54 = .ok (.invokestatic 47, 3) := by decide +kernel
theorem dX1_part_57 : decode cX1_part 57 = .ok (.ireturn, 1) := by decide +kernel
theorem dX1_part_58 : decode cX1_part 58 = .ok (.aload_n 0, 1) := by decide +kernel
theorem dX1_part_59 : decode cX1_part 59 = .ok (.getfield 18, 3) := by decide +kernel
theorem dX1_part_62 : decode cX1_part 62 = .ok (.iload_n 1, 1) := by decide +kernel
theorem dX1_part_63 : decode cX1_part 63 = .ok (.invokestatic 47, 3) := by decide +kernel
theorem dX1_part_66 : decode cX1_part 66 = .ok (.ireturn, 1) := by decide +kernel
theorem dX1_part_67 : decode cX1_part 67 = .ok (.aload_n 0, 1) := by decide +kernel
theorem dX1_part_68 : decode cX1_part 68 = .ok (.getfield 21, 3) := by decide +kernel
theorem dX1_part_71 : decode cX1_part 71 = .ok (.iload_n 1, 1) := by decide +kernel
theorem dX1_part_72 : decode cX1_part 72 = .ok (.invokestatic 47, 3) := by decide +kernel
theorem dX1_part_75 : decode cX1_part 75 = .ok (.ireturn, 1) := by decide +kernel
theorem dX1_part_76 : decode cX1_part 76 = .ok (.aload_n 0, 1) := by decide +kernel
theorem dX1_part_77 : decode cX1_part 77 = .ok (.iload_n 1, 1) := by decide +kernel
theorem dX1_part_78 : decode cX1_part 78 = .ok (.iload_n 3, 1) := by decide +kernel
theorem dX1_part_79 : decode cX1_part 79 = .ok (.invokevirtual 51, 3) := by decide +kernel
theorem dX1_part_82 : decode cX1_part 82 = .ok (.invokestatic 55, 3) := by decide +kernel
theorem dX1_part_85 : decode cX1_part 85 = .ok (.ireturn, 1) := by decide +kernel
theorem dX1_part_86 : decode cX1_part 86 = .ok (.aload_n 0, 1) := by decide +kernel
theorem dX1_part_87 : decode cX1_part 87 = .ok (.getfield 24, 3) := by decide +kernel
theorem dX1_part_90 : decode cX1_part 90 = .ok (.iload_n 1, 1) := by decide +kernel
theorem dX1_part_91 : decode cX1_part 91 = .ok (.invokestatic 47, 3) := by decide +kernel
theorem dX1_part_94 : decode cX1_part 94 = .ok (.ireturn, 1) := by decide +kernel
theorem dX1_part_95 : decode cX1_part 95 = .ok (.sipush (-1000), 3) := by decide +kernel
theorem dX1_part_98 : decode cX1_part 98 = .ok (.ireturn, 1) := by decide +kernel
set_option maxRecDepth 20000 in
theorem ggX1_countInState_X6_one : GoodIn wsX1_countInState wsX6_one := goodIn_r _ [4] (by decide +kernel) (by decide +kernel)
set_option maxRecDepth 20000 in
theorem gX1_countInState_X6_one_n55 : GoodIn wsX1_countInState (wsX6_one) := ggX1_countInState_X6_one
theorem dX1_countInState_0 : decode cX1_countInState 0 = .ok (.iconst 0, 1) := by decide +kernel
theorem dX1_countInState_1 : decode cX1_countInState 1 = .ok (.istore_n 2, 1) := by decide +kernel
theorem dX1_countInState_2 : decode cX1_countInState 2 = .ok (.iconst 0, 1) := by decide +kernel
theorem dX1_countInState_3 : decode cX1_countInState 3 = .ok (.istore_n 3, 1) := by decide +kernel
theorem dX1_countInState_4 : decode cX1_countInState 4 = .ok (.iload_n 3, 1) := by decide +kernel
theorem dX1_countInState_5 : decode cX1_countInState 5 = .ok (.bipush 32, 2) := by decide +kernel
theorem dX1_countInState_7 : decode cX1_countInState 7 = .ok (.if_icmp .ge 30, 3) := by decide +kernel
theorem dX1_countInState_10 : decode cX1_countInState 10 = .ok (.iload_n 2, 1) := by decide +kernel
theorem dX1_countInState_11 : decode cX1_countInState 11 = .ok (.aload_n 0, 1) := by decide +kernel
theorem dX1_countInState_12 : decode cX1_countInState 12 = .ok (.getfield 9, 3) := by decide +kernel
theorem dX1_countInState_15 : decode cX1_countInState 15 = .ok (.iload_n 3, 1) := by decide +kernel
theorem dX1_countInState_16 : decode cX1_countInState 16 = .ok (.iaload, 1) := by decide +kernel
theorem dX1_countInState_17 : decode cX1_countInState 17 = .ok (.iload_n 1, 1) := by decide +kernel
theorem dX1_countInState_18 : decode cX1_countInState 18 = .ok (.if_icmp .ne 7, 3) := by decide +kernel
theorem dX1_countInState_21 : decode cX1_countInState 21 = .ok (.iconst 1, 1) := by decide +kernel
theorem dX1_countInState_22 : decode cX1_countInState 22 = .ok (.goto 4, 3) := by decide +kernel
theorem dX1_countInState_25 : decode cX1_countInState 25 = .ok (.iconst 0, 1) := by decide +kernel
theorem dX1_countInState_26 : decode cX1_countInState 26 = .ok (.invokestatic 55, 3) := by decide +kernel
theorem dX1_countInState_29 : decode cX1_countInState 29 = .ok (.iadd, 1) := by decide +kernel
theorem dX1_countInState_30 : decode cX1_countInState 30 = .ok (.istore_n 2, 1) := by decide +kernel
theorem dX1_countInState_31 : decode cX1_countInState 31 = .ok (.iinc 3 1, 3) := by decide +kernel
theorem dX1_countInState_34 : decode cX1_countInState 34 = .ok (.goto (-30), 3) := by decide +kernel
theorem dX1_countInState_37 : decode cX1_countInState 37 = .ok (.iload_n 2, 1) := by decide +kernel
theorem dX1_countInState_38 : decode cX1_countInState 38 = .ok (.ireturn, 1) := by decide +kernel
theorem dX1_countFresh_0 : decode cX1_countFresh 0 = .ok (.iconst 0, 1) := by decide +kernel
theorem dX1_countFresh_1 : decode cX1_countFresh 1 = .ok (.istore_n 1, 1) := by decide +kernel
theorem dX1_countFresh_2 : decode cX1_countFresh 2 = .ok (.iconst 0, 1) := by decide +kernel
theorem dX1_countFresh_3 : decode cX1_countFresh 3 = .ok (.istore_n 2, 1) := by decide +kernel
theorem dX1_countFresh_4 : decode cX1_countFresh 4 = .ok (.iload_n 2, 1) := by decide +kernel
theorem dX1_countFresh_5 : decode cX1_countFresh 5 = .ok (.bipush 32, 2) := by decide +kernel
theorem dX1_countFresh_7 : decode cX1_countFresh 7 = .ok (.if_icmp .ge 18, 3) := by decide +kernel
theorem dX1_countFresh_10 : decode cX1_countFresh 10 = .ok (.iload_n 1, 1) := by decide +kernel
theorem dX1_countFresh_11 : decode cX1_countFresh 11 = .ok (.aload_n 0, 1) := by decide +kernel
theorem dX1_countFresh_12 : decode cX1_countFresh 12 = .ok (.getfield 24, 3) := by decide +kernel
theorem dX1_countFresh_15 : decode cX1_countFresh 15 = .ok (.iload_n 2, 1) := by decide +kernel
theorem dX1_countFresh_16 : decode cX1_countFresh 16 = .ok (.iaload, 1) := by decide +kernel
theorem dX1_countFresh_17 : decode cX1_countFresh 17 = .ok (.iadd, 1) := by decide +kernel
theorem dX1_countFresh_18 : decode cX1_countFresh 18 = .ok (.istore_n 1, 1) := by decide +kernel
theorem dX1_countFresh_19 : decode cX1_countFresh 19 = .ok (.iinc 2 1, 3) := by decide +kernel
theorem dX1_countFresh_22 : decode cX1_countFresh 22 = .ok (.goto (-18), 3) := by decide +kernel
theorem dX1_countFresh_25 : decode cX1_countFresh 25 = .ok (.iload_n 1, 1) := by decide +kernel
theorem dX1_countFresh_26 : decode cX1_countFresh 26 = .ok (.ireturn, 1) := by decide +kernel
theorem dX1_countLeft_0 : decode cX1_countLeft 0 = .ok (.iconst 0, 1) := by decide +kernel
theorem dX1_countLeft_1 : decode cX1_countLeft 1 = .ok (.istore_n 1, 1) := by decide +kernel
theorem dX1_countLeft_2 : decode cX1_countLeft 2 = .ok (.iconst 0, 1) := by decide +kernel
theorem dX1_countLeft_3 : decode cX1_countLeft 3 = .ok (.istore_n 2, 1) := by decide +kernel
theorem dX1_countLeft_4 : decode cX1_countLeft 4 = .ok (.iload_n 2, 1) := by decide +kernel
theorem dX1_countLeft_5 : decode cX1_countLeft 5 = .ok (.bipush 32, 2) := by decide +kernel
theorem dX1_countLeft_7 : decode cX1_countLeft 7 = .ok (.if_icmp .ge 18, 3) := by decide +kernel
theorem dX1_countLeft_10 : decode cX1_countLeft 10 = .ok (.iload_n 1, 1) := by decide +kernel
theorem dX1_countLeft_11 : decode cX1_countLeft 11 = .ok (.aload_n 0, 1) := by decide +kernel
theorem dX1_countLeft_12 : decode cX1_countLeft 12 = .ok (.getfield 27, 3) := by decide +kernel
theorem dX1_countLeft_15 : decode cX1_countLeft 15 = .ok (.iload_n 2, 1) := by decide +kernel
theorem dX1_countLeft_16 : decode cX1_countLeft 16 = .ok (.iaload, 1) := by decide +kernel
theorem dX1_countLeft_17 : decode cX1_countLeft 17 = .ok (.iadd, 1) := by decide +kernel
theorem dX1_countLeft_18 : decode cX1_countLeft 18 = .ok (.istore_n 1, 1) := by decide +kernel
theorem dX1_countLeft_19 : decode cX1_countLeft 19 = .ok (.iinc 2 1, 3) := by decide +kernel
theorem dX1_countLeft_22 : decode cX1_countLeft 22 = .ok (.goto (-18), 3) := by decide +kernel
theorem dX1_countLeft_25 : decode cX1_countLeft 25 = .ok (.iload_n 1, 1) := by decide +kernel
theorem dX1_countLeft_26 : decode cX1_countLeft 26 = .ok (.ireturn, 1) := by decide +kernel
theorem dX1_canBeDug_0 : decode cX1_canBeDug 0 = .ok (.iload_n 1, 1) := by decide +kernel
theorem dX1_canBeDug_1 : decode cX1_canBeDug 1 = .ok (.ifCond .lt 33, 3) := by decide +kernel
theorem dX1_canBeDug_4 : decode cX1_canBeDug 4 = .ok (.iload_n 1, 1) := by decide +kernel
theorem dX1_canBeDug_5 : decode cX1_canBeDug 5 = .ok (.bipush 32, 2) := by decide +kernel
theorem dX1_canBeDug_7 : decode cX1_canBeDug 7 = .ok (.if_icmp .ge 27, 3) := by decide +kernel
theorem dX1_canBeDug_10 : decode cX1_canBeDug 10 = .ok (.aload_n 0, 1) := by decide +kernel
theorem dX1_canBeDug_11 : decode cX1_canBeDug 11 = .ok (.getfield 9, 3) := by decide +kernel
theorem dX1_canBeDug_14 : decode cX1_canBeDug 14 = .ok (.iload_n 1, 1) := by decide +kernel
theorem dX1_canBeDug_15 : decode cX1_canBeDug 15 = .ok (.iaload, 1) := by decide +kernel
theorem dX1_canBeDug_16 : decode cX1_canBeDug 16 = .ok (.iconst 2, 1) := by decide +kernel
theorem dX1_canBeDug_17 : decode cX1_canBeDug 17 = .ok (.if_icmp .ne 17, 3) := by decide +kernel
theorem dX1_canBeDug_20 : decode cX1_canBeDug 20 = .ok (.aload_n 0, 1) := by decide +kernel
theorem dX1_canBeDug_21 : decode cX1_canBeDug 21 = .ok (.getfield 21, 3) := by decide +kernel
theorem dX1_canBeDug_24 : decode cX1_canBeDug 24 = .ok (.iload_n 1, 1) := by decide +kernel
theorem dX1_canBeDug_25 : decode cX1_canBeDug 25 = .ok (.iaload, 1) := by decide +kernel
theorem dX1_canBeDug_26 : decode cX1_canBeDug 26 = .ok (.iload_n 2, 1) := by decide +kernel
theorem dX1_canBeDug_27 : decode cX1_canBeDug 27 = .ok (.if_icmp .gt 7, 3) := by decide +kernel
theorem dX1_canBeDug_30 : decode cX1_canBeDug 30 = .ok (.iconst 1, 1) := by decide +kernel
theorem dX1_canBeDug_31 : decode cX1_canBeDug 31 = .ok (.goto 4, 3) := by decide +kernel
theorem dX1_canBeDug_34 : decode cX1_canBeDug 34 = .ok (.iconst 0, 1) := by decide +kernel
theorem dX1_canBeDug_35 : decode cX1_canBeDug 35 = .ok (.ireturn, 1) := by decide +kernel
set_option maxRecDepth 20000 in
theorem ggX1_countFreedToDig_X1_canBeDug : GoodIn wsX1_countFreedToDig wsX1_canBeDug := goodIn_r _ [5, 6, 7, 11, 12, 13, 14, 15, 16, 17, 18, 19] (by decide +kernel) (by decide +kernel)
set_option maxRecDepth 20000 in
theorem gX1_countFreedToDig_X1_canBeDug : GoodIn wsX1_countFreedToDig (wsV RX1 51 RX1 yX1_canBeDug wsX1_canBeDug) := goodIn_app (goodIn_of _ (by decide +kernel)) ggX1_countFreedToDig_X1_canBeDug
set_option maxRecDepth 20000 in
theorem ggX1_countFreedToDig_X6_one : GoodIn wsX1_countFreedToDig wsX6_one := goodIn_r _ [10] (by decide +kernel) (by decide +kernel)
set_option maxRecDepth 20000 in
theorem gX1_countFreedToDig_X6_one_n55 : GoodIn wsX1_countFreedToDig (wsX6_one) := ggX1_countFreedToDig_X6_one
theorem dX1_countFreedToDig_0 : decode cX1_countFreedToDig 0 = .ok (.iconst 0, 1) := by decide +kernel
theorem dX1_countFreedToDig_1 : decode cX1_countFreedToDig 1 = .ok (.istore_n 2, 1) := by decide +kernel
theorem dX1_countFreedToDig_2 : decode cX1_countFreedToDig 2 = .ok (.iconst 0, 1) := by decide +kernel
theorem dX1_countFreedToDig_3 : decode cX1_countFreedToDig 3 = .ok (.istore_n 3, 1) := by decide +kernel
theorem dX1_countFreedToDig_4 : decode cX1_countFreedToDig 4 = .ok (.iload_n 3, 1) := by decide +kernel
theorem dX1_countFreedToDig_5 : decode cX1_countFreedToDig 5 = .ok (.bipush 32, 2) := by decide +kernel
theorem dX1_countFreedToDig_7 : decode cX1_countFreedToDig 7 = .ok (.if_icmp .ge 21, 3) := by decide +kernel
theorem dX1_countFreedToDig_10 : decode cX1_countFreedToDig 10 = .ok (.iload_n 2, 1) := by decide +kernel
theorem dX1_countFreedToDig_11 : decode cX1_countFreedToDig 11 = .ok (.aload_n 0, 1) := by decide +kernel
theorem dX1_countFreedToDig_12 : decode cX1_countFreedToDig 12 = .ok (.iload_n 3, 1) := by decide +kernel
theorem dX1_countFreedToDig_13 : decode cX1_countFreedToDig 13 = .ok (.iload_n 1, 1) := by decide +kernel
theorem dX1_countFreedToDig_14 : decode cX1_countFreedToDig 14 = .ok (.invokevirtual 51, 3) := by decide +kernel
theorem dX1_countFreedToDig_17 : decode cX1_countFreedToDig 17 = .ok (.invokestatic 55, 3) := by decide +kernel
theorem dX1_countFreedToDig_20 : decode cX1_countFreedToDig 20 = .ok (.iadd, 1) := by decide +kernel
theorem dX1_countFreedToDig_21 : decode cX1_countFreedToDig 21 = .ok (.istore_n 2, 1) := by decide +kernel
theorem dX1_countFreedToDig_22 : decode cX1_countFreedToDig 22 = .ok (.iinc 3 1, 3) := by decide +kernel
theorem dX1_countFreedToDig_25 : decode cX1_countFreedToDig 25 = .ok (.goto (-21), 3) := by decide +kernel
theorem dX1_countFreedToDig_28 : decode cX1_countFreedToDig 28 = .ok (.iload_n 2, 1) := by decide +kernel
theorem dX1_countFreedToDig_29 : decode cX1_countFreedToDig 29 = .ok (.ireturn, 1) := by decide +kernel
set_option maxRecDepth 20000 in
theorem ggX1_bedToDig_X1_canBeDug : GoodIn wsX1_bedToDig wsX1_canBeDug := goodIn_r _ [6, 7, 1, 12, 13, 14, 15, 16, 17, 18, 19, 20] (by decide +kernel) (by decide +kernel)
set_option maxRecDepth 20000 in
theorem gX1_bedToDig_X1_canBeDug : GoodIn wsX1_bedToDig (wsV RX1 51 RX1 yX1_canBeDug wsX1_canBeDug) := goodIn_app (goodIn_of _ (by decide +kernel)) ggX1_bedToDig_X1_canBeDug
set_option maxRecDepth 20000 in
theorem ggX1_bedToDig_X1_lowestWild : GoodIn wsX1_bedToDig wsX1_lowestWild := goodIn_r _ [11, 7, 12, 13, 14, 15, 16, 17, 18, 19, 20] (by decide +kernel) (by decide +kernel)
set_option maxRecDepth 20000 in
theorem gX1_bedToDig_X1_lowestWild : GoodIn wsX1_bedToDig (wsV RX1 59 RX1 yX1_lowestWild wsX1_lowestWild) := goodIn_app (goodIn_of _ (by decide +kernel)) ggX1_bedToDig_X1_lowestWild
theorem dX1_bedToDig_0 : decode cX1_bedToDig 0 = .ok (.sipush (-1000), 3) := by decide +kernel
theorem dX1_bedToDig_3 : decode cX1_bedToDig 3 = .ok (.istore_n 2, 1) := by decide +kernel
theorem dX1_bedToDig_4 : decode cX1_bedToDig 4 = .ok (.sipush (-1000), 3) := by decide +kernel
theorem dX1_bedToDig_7 : decode cX1_bedToDig 7 = .ok (.istore_n 3, 1) := by decide +kernel
theorem dX1_bedToDig_8 : decode cX1_bedToDig 8 = .ok (.iconst 0, 1) := by decide +kernel
theorem dX1_bedToDig_9 : decode cX1_bedToDig 9 = .ok (.istore 4, 2) := by decide +kernel
theorem dX1_bedToDig_11 : decode cX1_bedToDig 11 = .ok (.iload 4, 2) := by decide +kernel
theorem dX1_bedToDig_13 : decode cX1_bedToDig 13 = .ok (.bipush 32, 2) := by decide +kernel
theorem dX1_bedToDig_15 : decode cX1_bedToDig 15 = .ok (.if_icmp .ge 48, 3) := by decide +kernel
theorem dX1_bedToDig_18 : decode cX1_bedToDig 18 = .ok (.aload_n 0, 1) := by decide +kernel
theorem dX1_bedToDig_19 : decode cX1_bedToDig 19 = .ok (.iload 4, 2) := by decide +kernel
theorem dX1_bedToDig_21 : decode cX1_bedToDig 21 = .ok (.iload_n 1, 1) := by decide +kernel
theorem dX1_bedToDig_22 : decode cX1_bedToDig 22 = .ok (.invokevirtual 51, 3) := by decide +kernel
theorem dX1_bedToDig_25 : decode cX1_bedToDig 25 = .ok (.ifCond .eq 32, 3) := by decide +kernel
theorem dX1_bedToDig_28 : decode cX1_bedToDig 28 = .ok (.iload_n 2, 1) := by decide +kernel
theorem dX1_bedToDig_29 : decode cX1_bedToDig 29 = .ok (.sipush (-1000), 3) := by decide +kernel
theorem dX1_bedToDig_32 : decode cX1_bedToDig 32 = .ok (.if_icmp .eq 14, 3) := by decide +kernel
theorem dX1_bedToDig_35 : decode cX1_bedToDig 35 = .ok (.aload_n 0, 1) := by decide +kernel
theorem dX1_bedToDig_36 : decode cX1_bedToDig 36 = .ok (.getfield 21, 3) := by decide +kernel
theorem dX1_bedToDig_39 : decode cX1_bedToDig 39 = .ok (.iload 4, 2) := by decide +kernel
theorem dX1_bedToDig_41 : decode cX1_bedToDig 41 = .ok (.iaload, 1) := by decide +kernel
theorem dX1_bedToDig_42 : decode cX1_bedToDig 42 = .ok (.iload_n 3, 1) := by decide +kernel
theorem dX1_bedToDig_43 : decode cX1_bedToDig 43 = .ok (.if_icmp .ge 14, 3) := by decide +kernel
theorem dX1_bedToDig_46 : decode cX1_bedToDig 46 = .ok (.iload 4, 2) := by decide +kernel
theorem dX1_bedToDig_48 : decode cX1_bedToDig 48 = .ok (.istore_n 2, 1) := by decide +kernel
theorem dX1_bedToDig_49 : decode cX1_bedToDig 49 = .ok (.aload_n 0, 1) := by decide +kernel
theorem dX1_bedToDig_50 : decode cX1_bedToDig 50 = .ok (.getfield 21, 3) := by decide +kernel
theorem dX1_bedToDig_53 : decode cX1_bedToDig 53 = .ok (.iload 4, 2) := by decide +kernel
theorem dX1_bedToDig_55 : decode cX1_bedToDig 55 = .ok (.iaload, 1) := by decide +kernel
theorem dX1_bedToDig_56 : decode cX1_bedToDig 56 = .ok (.istore_n 3, 1) := by decide +kernel
theorem dX1_bedToDig_57 : decode cX1_bedToDig 57 = .ok (.iinc 4 1, 3) := by decide +kernel
theorem dX1_bedToDig_60 : decode cX1_bedToDig 60 = .ok (.goto (-49), 3) := by decide +kernel
theorem dX1_bedToDig_63 : decode cX1_bedToDig 63 = .ok (.iload_n 2, 1) := by decide +kernel
theorem dX1_bedToDig_64 : decode cX1_bedToDig 64 = .ok (.sipush (-1000), 3) := by decide +kernel
theorem dX1_bedToDig_67 : decode cX1_bedToDig 67 = .ok (.if_icmp .ne 10, 3) := by decide +kernel
theorem dX1_bedToDig_70 : decode cX1_bedToDig 70 = .ok (.aload_n 0, 1) := by decide +kernel
theorem dX1_bedToDig_71 : decode cX1_bedToDig 71 = .ok (.invokevirtual 59, 3) := by decide +kernel
theorem dX1_bedToDig_74 : decode cX1_bedToDig 74 = .ok (.goto 4, 3) := by decide +kernel
theorem dX1_bedToDig_77 : decode cX1_bedToDig 77 = .ok (.iload_n 2, 1) := by decide +kernel
theorem dX1_bedToDig_78 : decode cX1_bedToDig 78 = .ok (.ireturn, 1) := by decide +kernel
theorem dX1_lowestWild_0 : decode cX1_lowestWild 0 = .ok (.iconst 0, 1) := by decide +kernel
theorem dX1_lowestWild_1 : decode cX1_lowestWild 1 = .ok (.istore_n 1, 1) := by decide +kernel
theorem dX1_lowestWild_2 : decode cX1_lowestWild 2 = .ok (.iload_n 1, 1) := by decide +kernel
theorem dX1_lowestWild_3 : decode cX1_lowestWild 3 = .ok (.bipush 32, 2) := by decide +kernel
theorem dX1_lowestWild_5 : decode cX1_lowestWild 5 = .ok (.if_icmp .ge 20, 3) := by decide +kernel
theorem dX1_lowestWild_8 : decode cX1_lowestWild 8 = .ok (.aload_n 0, 1) := by decide +kernel
theorem dX1_lowestWild_9 : decode cX1_lowestWild 9 = .ok (.getfield 9, 3) := by decide +kernel
theorem dX1_lowestWild_12 : decode cX1_lowestWild 12 = .ok (.iload_n 1, 1) := by decide +kernel
theorem dX1_lowestWild_13 : decode cX1_lowestWild 13 = .ok (.iaload, 1) := by decide +kernel
theorem dX1_lowestWild_14 : decode cX1_lowestWild 14 = .ok (.ifCond .ne 5, 3) := by decide +kernel
theorem dX1_lowestWild_17 : decode cX1_lowestWild 17 = .ok (.iload_n 1, 1) := by decide +kernel
theorem dX1_lowestWild_18 : decode cX1_lowestWild 18 = .ok (.ireturn, 1) := by decide +kernel
theorem dX1_lowestWild_19 : decode cX1_lowestWild 19 = .ok (.iinc 1 1, 3) := by decide +kernel
theorem dX1_lowestWild_22 : decode cX1_lowestWild 22 = .ok (.goto (-20), 3) := by decide +kernel
theorem dX1_lowestWild_25 : decode cX1_lowestWild 25 = .ok (.sipush (-1000), 3) := by decide +kernel
theorem dX1_lowestWild_28 : decode cX1_lowestWild 28 = .ok (.ireturn, 1) := by decide +kernel
set_option maxRecDepth 20000 in
theorem ggX1_useFresh_X6_setCell : GoodIn wsX1_useFresh wsX6_setCell := goodIn_r _ [8] (by decide +kernel) (by decide +kernel)
set_option maxRecDepth 20000 in
theorem gX1_useFresh_X6_setCell_n63 : GoodIn wsX1_useFresh (wsX6_setCell) := ggX1_useFresh_X6_setCell
theorem dX1_useFresh_0 : decode cX1_useFresh 0 = .ok (.aload_n 0, 1) := by decide +kernel
theorem dX1_useFresh_1 : decode cX1_useFresh 1 = .ok (.getfield 9, 3) := by decide +kernel
theorem dX1_useFresh_4 : decode cX1_useFresh 4 = .ok (.iload_n 1, 1) := by decide +kernel
theorem dX1_useFresh_5 : decode cX1_useFresh 5 = .ok (.iconst 1, 1) := by decide +kernel
theorem dX1_useFresh_6 : decode cX1_useFresh 6 = .ok (.invokestatic 63, 3) := by decide +kernel
theorem dX1_useFresh_9 : decode cX1_useFresh 9 = .ok (.aload_n 0, 1) := by decide +kernel
theorem dX1_useFresh_10 : decode cX1_useFresh 10 = .ok (.getfield 15, 3) := by decide +kernel
theorem dX1_useFresh_13 : decode cX1_useFresh 13 = .ok (.iload_n 1, 1) := by decide +kernel
theorem dX1_useFresh_14 : decode cX1_useFresh 14 = .ok (.iload_n 2, 1) := by decide +kernel
theorem dX1_useFresh_15 : decode cX1_useFresh 15 = .ok (.invokestatic 63, 3) := by decide +kernel
theorem dX1_useFresh_18 : decode cX1_useFresh 18 = .ok (.aload_n 0, 1) := by decide +kernel
theorem dX1_useFresh_19 : decode cX1_useFresh 19 = .ok (.getfield 18, 3) := by decide +kernel
theorem dX1_useFresh_22 : decode cX1_useFresh 22 = .ok (.iload_n 1, 1) := by decide +kernel
theorem dX1_useFresh_23 : decode cX1_useFresh 23 = .ok (.iconst 0, 1) := by decide +kernel
theorem dX1_useFresh_24 : decode cX1_useFresh 24 = .ok (.invokestatic 63, 3) := by decide +kernel
theorem dX1_useFresh_27 : decode cX1_useFresh 27 = .ok (.aload_n 0, 1) := by decide +kernel
theorem dX1_useFresh_28 : decode cX1_useFresh 28 = .ok (.getfield 21, 3) := by decide +kernel
theorem dX1_useFresh_31 : decode cX1_useFresh 31 = .ok (.iload_n 1, 1) := by decide +kernel
theorem dX1_useFresh_32 : decode cX1_useFresh 32 = .ok (.sipush (-1000), 3) := by decide +kernel
theorem dX1_useFresh_35 : decode cX1_useFresh 35 = .ok (.invokestatic 63, 3) := by decide +kernel
theorem dX1_useFresh_38 : decode cX1_useFresh 38 = .ok (.aload_n 0, 1) := by decide +kernel
theorem dX1_useFresh_39 : decode cX1_useFresh 39 = .ok (.getfield 24, 3) := by decide +kernel
theorem dX1_useFresh_42 : decode cX1_useFresh 42 = .ok (.iload_n 1, 1) := by decide +kernel
theorem dX1_useFresh_43 : decode cX1_useFresh 43 = .ok (.iconst 1, 1) := by decide +kernel
theorem dX1_useFresh_44 : decode cX1_useFresh 44 = .ok (.invokestatic 63, 3) := by decide +kernel
theorem dX1_useFresh_47 : decode cX1_useFresh 47 = .ok (.return_, 1) := by decide +kernel
set_option maxRecDepth 20000 in
theorem ggX1_leave_X1_isFresh : GoodIn wsX1_leave wsX1_isFresh := goodIn_r _ [6, 7, 19, 20, 21, 22, 23, 24, 25, 26, 27] (by decide +kernel) (by decide +kernel)
set_option maxRecDepth 20000 in
theorem gX1_leave_X1_isFresh : GoodIn wsX1_leave (wsV RX1 67 RX1 yX1_isFresh wsX1_isFresh) := goodIn_app (goodIn_of _ (by decide +kernel)) ggX1_leave_X1_isFresh
set_option maxRecDepth 20000 in
theorem ggX1_leave_X1_makeWild : GoodIn wsX1_leave wsX1_makeWild := goodIn_r _ [11, 12, 13, 14, 15, 7, 16, 17, 18, 19, 20, 21, 22, 23, 24, 25, 26, 27] (by decide +kernel) (by decide +kernel)
set_option maxRecDepth 20000 in
theorem gX1_leave_X1_makeWild : GoodIn wsX1_leave (wsV RX1 71 RX1 yX1_makeWild wsX1_makeWild) := goodIn_app (goodIn_of _ (by decide +kernel)) ggX1_leave_X1_makeWild
set_option maxRecDepth 20000 in
theorem ggX1_leave_X6_setCell : GoodIn wsX1_leave wsX6_setCell := goodIn_r _ [18] (by decide +kernel) (by decide +kernel)
set_option maxRecDepth 20000 in
theorem gX1_leave_X6_setCell_n63 : GoodIn wsX1_leave (wsX6_setCell) := ggX1_leave_X6_setCell
theorem dX1_leave_0 : decode cX1_leave 0 = .ok (.aload_n 0, 1) := by decide +kernel
theorem dX1_leave_1 : decode cX1_leave 1 = .ok (.iload_n 1, 1) := by decide +kernel
theorem dX1_leave_2 : decode cX1_leave 2 = .ok (.invokevirtual 67, 3) := by decide +kernel
theorem dX1_leave_5 : decode cX1_leave 5 = .ok (.ifCond .eq 11, 3) := by decide +kernel
theorem dX1_leave_8 : decode cX1_leave 8 = .ok (.aload_n 0, 1) := by decide +kernel
theorem dX1_leave_9 : decode cX1_leave 9 = .ok (.iload_n 1, 1) := by decide +kernel
theorem dX1_leave_10 : decode cX1_leave 10 = .ok (.invokevirtual 71, 3) := by decide +kernel
theorem dX1_leave_13 : decode cX1_leave 13 = .ok (.goto 12, 3) := by decide +kernel
theorem dX1_leave_16 : decode cX1_leave 16 = .ok (.aload_n 0, 1) := by decide +kernel
theorem dX1_leave_17 : decode cX1_leave 17 = .ok (.getfield 27, 3) := by decide +kernel
theorem dX1_leave_20 : decode cX1_leave 20 = .ok (.iload_n 1, 1) := by decide +kernel
theorem dX1_leave_21 : decode cX1_leave 21 = .ok (.iconst 1, 1) := by decide +kernel
theorem dX1_leave_22 : decode cX1_leave 22 = .ok (.invokestatic 63, 3) := by decide +kernel
theorem dX1_leave_25 : decode cX1_leave 25 = .ok (.return_, 1) := by decide +kernel
set_option maxRecDepth 20000 in
theorem ggX1_makeWild_X6_setCell : GoodIn wsX1_makeWild wsX6_setCell := goodIn_r _ [8] (by decide +kernel) (by decide +kernel)
set_option maxRecDepth 20000 in
theorem gX1_makeWild_X6_setCell_n63 : GoodIn wsX1_makeWild (wsX6_setCell) := ggX1_makeWild_X6_setCell
theorem dX1_makeWild_0 : decode cX1_makeWild 0 = .ok (.aload_n 0, 1) := by decide +kernel
theorem dX1_makeWild_1 : decode cX1_makeWild 1 = .ok (.getfield 9, 3) := by decide +kernel
theorem dX1_makeWild_4 : decode cX1_makeWild 4 = .ok (.iload_n 1, 1) := by decide +kernel
theorem dX1_makeWild_5 : decode cX1_makeWild 5 = .ok (.iconst 0, 1) := by decide +kernel
theorem dX1_makeWild_6 : decode cX1_makeWild 6 = .ok (.invokestatic 63, 3) := by decide +kernel
theorem dX1_makeWild_9 : decode cX1_makeWild 9 = .ok (.aload_n 0, 1) := by decide +kernel
theorem dX1_makeWild_10 : decode cX1_makeWild 10 = .ok (.getfield 15, 3) := by decide +kernel
theorem dX1_makeWild_13 : decode cX1_makeWild 13 = .ok (.iload_n 1, 1) := by decide +kernel
theorem dX1_makeWild_14 : decode cX1_makeWild 14 = .ok (.sipush (-1000), 3) := by decide +kernel
theorem dX1_makeWild_17 : decode cX1_makeWild 17 = .ok (.invokestatic 63, 3) := by decide +kernel
theorem dX1_makeWild_20 : decode cX1_makeWild 20 = .ok (.aload_n 0, 1) := by decide +kernel
theorem dX1_makeWild_21 : decode cX1_makeWild 21 = .ok (.getfield 18, 3) := by decide +kernel
theorem dX1_makeWild_24 : decode cX1_makeWild 24 = .ok (.iload_n 1, 1) := by decide +kernel
theorem dX1_makeWild_25 : decode cX1_makeWild 25 = .ok (.sipush (-1000), 3) := by decide +kernel
theorem dX1_makeWild_28 : decode cX1_makeWild 28 = .ok (.invokestatic 63, 3) := by decide +kernel
theorem dX1_makeWild_31 : decode cX1_makeWild 31 = .ok (.aload_n 0, 1) := by decide +kernel
theorem dX1_makeWild_32 : decode cX1_makeWild 32 = .ok (.getfield 21, 3) := by decide +kernel
theorem dX1_makeWild_35 : decode cX1_makeWild 35 = .ok (.iload_n 1, 1) := by decide +kernel
theorem dX1_makeWild_36 : decode cX1_makeWild 36 = .ok (.sipush (-1000), 3) := by decide +kernel
theorem dX1_makeWild_39 : decode cX1_makeWild 39 = .ok (.invokestatic 63, 3) := by decide +kernel
theorem dX1_makeWild_42 : decode cX1_makeWild 42 = .ok (.aload_n 0, 1) := by decide +kernel
theorem dX1_makeWild_43 : decode cX1_makeWild 43 = .ok (.getfield 24, 3) := by decide +kernel
theorem dX1_makeWild_46 : decode cX1_makeWild 46 = .ok (.iload_n 1, 1) := by decide +kernel
theorem dX1_makeWild_47 : decode cX1_makeWild 47 = .ok (.iconst 0, 1) := by decide +kernel
theorem dX1_makeWild_48 : decode cX1_makeWild 48 = .ok (.invokestatic 63, 3) := by decide +kernel
theorem dX1_makeWild_51 : decode cX1_makeWild 51 = .ok (.return_, 1) := by decide +kernel
theorem dX1_freeLeft_0 : decode cX1_freeLeft 0 = .ok (.iconst 0, 1) := by decide +kernel
theorem dX1_freeLeft_1 : decode cX1_freeLeft 1 = .ok (.istore_n 2, 1) := by decide +kernel
theorem dX1_freeLeft_2 : decode cX1_freeLeft 2 = .ok (.iconst 0, 1) := by decide +kernel
theorem dX1_freeLeft_3 : decode cX1_freeLeft 3 = .ok (.istore_n 3, 1) := by decide +kernel
theorem dX1_freeLeft_4 : decode cX1_freeLeft 4 = .ok (.iload_n 3, 1) := by decide +kernel
theorem dX1_freeLeft_5 : decode cX1_freeLeft 5 = .ok (.bipush 32, 2) := by decide +kernel
theorem dX1_freeLeft_7 : decode cX1_freeLeft 7 = .ok (.if_icmp .ge 43, 3) := by decide +kernel
theorem dX1_freeLeft_10 : decode cX1_freeLeft 10 = .ok (.aload_n 0, 1) := by decide +kernel
theorem dX1_freeLeft_11 : decode cX1_freeLeft 11 = .ok (.getfield 27, 3) := by decide +kernel
theorem dX1_freeLeft_14 : decode cX1_freeLeft 14 = .ok (.iload_n 3, 1) := by decide +kernel
theorem dX1_freeLeft_15 : decode cX1_freeLeft 15 = .ok (.iaload, 1) := by decide +kernel
theorem dX1_freeLeft_16 : decode cX1_freeLeft 16 = .ok (.iconst 1, 1) := by decide +kernel
theorem dX1_freeLeft_17 : decode cX1_freeLeft 17 = .ok (.if_icmp .ne 27, 3) := by decide +kernel
theorem dX1_freeLeft_20 : decode cX1_freeLeft 20 = .ok (.aload_n 0, 1) := by decide +kernel
theorem dX1_freeLeft_21 : decode cX1_freeLeft 21 = .ok (.getfield 9, 3) := by decide +kernel
theorem dX1_freeLeft_24 : decode cX1_freeLeft 24 = .ok (.iload_n 3, 1) := by decide +kernel
theorem dX1_freeLeft_25 : decode cX1_freeLeft 25 = .ok (.iconst 2, 1) := by decide +kernel
theorem dX1_freeLeft_26 : decode cX1_freeLeft 26 = .ok (.iastore, 1) := by decide +kernel
theorem dX1_freeLeft_27 : decode cX1_freeLeft 27 = .ok (.aload_n 0, 1) := by decide +kernel
theorem dX1_freeLeft_28 : decode cX1_freeLeft 28 = .ok (.getfield 21, 3) := by decide +kernel
theorem dX1_freeLeft_31 : decode cX1_freeLeft 31 = .ok (.iload_n 3, 1) := by decide +kernel
theorem dX1_freeLeft_32 : decode cX1_freeLeft 32 = .ok (.iload_n 1, 1) := by decide +kernel
theorem dX1_freeLeft_33 : decode cX1_freeLeft 33 = .ok (.iastore, 1) := by decide +kernel
theorem dX1_freeLeft_34 : decode cX1_freeLeft 34 = .ok (.aload_n 0, 1) := by decide +kernel
theorem dX1_freeLeft_35 : decode cX1_freeLeft 35 = .ok (.getfield 27, 3) := by decide +kernel
theorem dX1_freeLeft_38 : decode cX1_freeLeft 38 = .ok (.iload_n 3, 1) := by decide +kernel
theorem dX1_freeLeft_39 : decode cX1_freeLeft 39 = .ok (.iconst 0, 1) := by decide +kernel
theorem dX1_freeLeft_40 : decode cX1_freeLeft 40 = .ok (.iastore, 1) := by decide +kernel
theorem dX1_freeLeft_41 : decode cX1_freeLeft 41 = .ok (.iinc 2 1, 3) := by decide +kernel
theorem dX1_freeLeft_44 : decode cX1_freeLeft 44 = .ok (.iinc 3 1, 3) := by decide +kernel
theorem dX1_freeLeft_47 : decode cX1_freeLeft 47 = .ok (.goto (-43), 3) := by decide +kernel
theorem dX1_freeLeft_50 : decode cX1_freeLeft 50 = .ok (.iload_n 2, 1) := by decide +kernel
theorem dX1_freeLeft_51 : decode cX1_freeLeft 51 = .ok (.ireturn, 1) := by decide +kernel
set_option maxRecDepth 20000 in
theorem ggX1_keepFresh_X6_fillRow : GoodIn wsX1_keepFresh wsX6_fillRow := goodIn_r _ [4] (by decide +kernel) (by decide +kernel)
set_option maxRecDepth 20000 in
theorem gX1_keepFresh_X6_fillRow_n39 : GoodIn wsX1_keepFresh (wsX6_fillRow) := ggX1_keepFresh_X6_fillRow
theorem dX1_keepFresh_0 : decode cX1_keepFresh 0 = .ok (.aload_n 0, 1) := by decide +kernel
theorem dX1_keepFresh_1 : decode cX1_keepFresh 1 = .ok (.getfield 24, 3) := by decide +kernel
theorem dX1_keepFresh_4 : decode cX1_keepFresh 4 = .ok (.iconst 0, 1) := by decide +kernel
theorem dX1_keepFresh_5 : decode cX1_keepFresh 5 = .ok (.invokestatic 39, 3) := by decide +kernel
theorem dX1_keepFresh_8 : decode cX1_keepFresh 8 = .ok (.return_, 1) := by decide +kernel
set_option maxRecDepth 20000 in
theorem ggX1_dropFresh_X1_makeWild : GoodIn wsX1_dropFresh wsX1_makeWild := goodIn_r _ [7, 8, 9, 10, 11, 1, 12, 13, 14, 17, 18, 19, 20, 21, 22, 23, 24, 25] (by decide +kernel) (by decide +kernel)
set_option maxRecDepth 20000 in
theorem gX1_dropFresh_X1_makeWild : GoodIn wsX1_dropFresh (wsV RX1 71 RX1 yX1_makeWild wsX1_makeWild) := goodIn_app (goodIn_of _ (by decide +kernel)) ggX1_dropFresh_X1_makeWild
set_option maxRecDepth 20000 in
theorem ggX1_dropFresh_X6_fillRow : GoodIn wsX1_dropFresh wsX6_fillRow := goodIn_r _ [16] (by decide +kernel) (by decide +kernel)
set_option maxRecDepth 20000 in
theorem gX1_dropFresh_X6_fillRow_n39 : GoodIn wsX1_dropFresh (wsX6_fillRow) := ggX1_dropFresh_X6_fillRow
theorem dX1_dropFresh_0 : decode cX1_dropFresh 0 = .ok (.iconst 0, 1) := by decide +kernel
theorem dX1_dropFresh_1 : decode cX1_dropFresh 1 = .ok (.istore_n 1, 1) := by decide +kernel
theorem dX1_dropFresh_2 : decode cX1_dropFresh 2 = .ok (.iconst 0, 1) := by decide +kernel
theorem dX1_dropFresh_3 : decode cX1_dropFresh 3 = .ok (.istore_n 2, 1) := by decide +kernel
theorem dX1_dropFresh_4 : decode cX1_dropFresh 4 = .ok (.iload_n 2, 1) := by decide +kernel
theorem dX1_dropFresh_5 : decode cX1_dropFresh 5 = .ok (.bipush 32, 2) := by decide +kernel
theorem dX1_dropFresh_7 : decode cX1_dropFresh 7 = .ok (.if_icmp .ge 27, 3) := by decide +kernel
theorem dX1_dropFresh_10 : decode cX1_dropFresh 10 = .ok (.aload_n 0, 1) := by decide +kernel
theorem dX1_dropFresh_11 : decode cX1_dropFresh 11 = .ok (.getfield 24, 3) := by decide +kernel
theorem dX1_dropFresh_14 : decode cX1_dropFresh 14 = .ok (.iload_n 2, 1) := by decide +kernel
theorem dX1_dropFresh_15 : decode cX1_dropFresh 15 = .ok (.iaload, 1) := by decide +kernel
theorem dX1_dropFresh_16 : decode cX1_dropFresh 16 = .ok (.iconst 1, 1) := by decide +kernel
theorem dX1_dropFresh_17 : decode cX1_dropFresh 17 = .ok (.if_icmp .ne 11, 3) := by decide +kernel
theorem dX1_dropFresh_20 : decode cX1_dropFresh 20 = .ok (.aload_n 0, 1) := by decide +kernel
theorem dX1_dropFresh_21 : decode cX1_dropFresh 21 = .ok (.iload_n 2, 1) := by decide +kernel
theorem dX1_dropFresh_22 : decode cX1_dropFresh 22 = .ok (.invokevirtual 71, 3) := by decide +kernel
theorem dX1_dropFresh_25 : decode cX1_dropFresh 25 = .ok (.iinc 1 1, 3) := by decide +kernel
theorem dX1_dropFresh_28 : decode cX1_dropFresh 28 = .ok (.iinc 2 1, 3) := by decide +kernel
theorem dX1_dropFresh_31 : decode cX1_dropFresh 31 = .ok (.goto (-27), 3) := by decide +kernel
theorem dX1_dropFresh_34 : decode cX1_dropFresh 34 = .ok (.aload_n 0, 1) := by decide +kernel
theorem dX1_dropFresh_35 : decode cX1_dropFresh 35 = .ok (.getfield 27, 3) := by decide +kernel
theorem dX1_dropFresh_38 : decode cX1_dropFresh 38 = .ok (.iconst 0, 1) := by decide +kernel
theorem dX1_dropFresh_39 : decode cX1_dropFresh 39 = .ok (.invokestatic 39, 3) := by decide +kernel
theorem dX1_dropFresh_42 : decode cX1_dropFresh 42 = .ok (.iload_n 1, 1) := by decide +kernel
theorem dX1_dropFresh_43 : decode cX1_dropFresh 43 = .ok (.ireturn, 1) := by decide +kernel
theorem dX1_leafAt_0 : decode cX1_leafAt 0 = .ok (.iload_n 1, 1) := by decide +kernel
theorem dX1_leafAt_1 : decode cX1_leafAt 1 = .ok (.bipush 6, 2) := by decide +kernel
theorem dX1_leafAt_3 : decode cX1_leafAt 3 = .ok (.imul, 1) := by decide +kernel
theorem dX1_leafAt_4 : decode cX1_leafAt 4 = .ok (.iload_n 2, 1) := by decide +kernel
theorem dX1_leafAt_5 : decode cX1_leafAt 5 = .ok (.iadd, 1) := by decide +kernel
theorem dX1_leafAt_6 : decode cX1_leafAt 6 = .ok (.istore_n 3, 1) := by decide +kernel
theorem dX1_leafAt_7 : decode cX1_leafAt 7 = .ok (.iload_n 2, 1) := by decide +kernel
theorem dX1_leafAt_8 : decode cX1_leafAt 8 = .ok (.ifCond .lt 31, 3) := by decide +kernel
theorem dX1_leafAt_11 : decode cX1_leafAt 11 = .ok (.iload_n 2, 1) := by decide +kernel
theorem dX1_leafAt_12 : decode cX1_leafAt 12 = .ok (.bipush 6, 2) := by decide +kernel
theorem dX1_leafAt_14 : decode cX1_leafAt 14 = .ok (.if_icmp .ge 25, 3) := by decide +kernel
theorem dX1_leafAt_17 : decode cX1_leafAt 17 = .ok (.iload_n 3, 1) := by decide +kernel
theorem dX1_leafAt_18 : decode cX1_leafAt 18 = .ok (.ifCond .lt 21, 3) := by decide +kernel
theorem dX1_leafAt_21 : decode cX1_leafAt 21 = .ok (.iload_n 3, 1) := by decide +kernel
theorem dX1_leafAt_22 : decode cX1_leafAt 22 = .ok (.aload_n 0, 1) := by decide +kernel
theorem dX1_leafAt_23 : decode cX1_leafAt 23 = .ok (.getfield 36, 3) := by decide +kernel
theorem dX1_leafAt_26 : decode cX1_leafAt 26 = .ok (.arraylength, 1) := by decide +kernel
theorem dX1_leafAt_27 : decode cX1_leafAt 27 = .ok (.if_icmp .ge 12, 3) := by decide +kernel
theorem dX1_leafAt_30 : decode cX1_leafAt 30 = .ok (.aload_n 0, 1) := by decide +kernel
theorem dX1_leafAt_31 : decode cX1_leafAt 31 = .ok (.getfield 36, 3) := by decide +kernel
theorem dX1_leafAt_34 : decode cX1_leafAt 34 = .ok (.iload_n 3, 1) := by decide +kernel
theorem dX1_leafAt_35 : decode cX1_leafAt 35 = .ok (.iaload, 1) := by decide +kernel
theorem dX1_leafAt_36 : decode cX1_leafAt 36 = .ok (.goto 6, 3) := by decide +kernel
theorem dX1_leafAt_39 : decode cX1_leafAt 39 = .ok (.sipush (-1000), 3) := by decide +kernel
theorem dX1_leafAt_42 : decode cX1_leafAt 42 = .ok (.ireturn, 1) := by decide +kernel
theorem dX1_setLeaf_0 : decode cX1_setLeaf 0 = .ok (.iload_n 1, 1) := by decide +kernel
theorem dX1_setLeaf_1 : decode cX1_setLeaf 1 = .ok (.bipush 6, 2) := by decide +kernel
theorem dX1_setLeaf_3 : decode cX1_setLeaf 3 = .ok (.imul, 1) := by decide +kernel
theorem dX1_setLeaf_4 : decode cX1_setLeaf 4 = .ok (.iload_n 2, 1) := by decide +kernel
theorem dX1_setLeaf_5 : decode cX1_setLeaf 5 = .ok (.iadd, 1) := by decide +kernel
theorem dX1_setLeaf_6 : decode cX1_setLeaf 6 = .ok (.istore 4, 2) := by decide +kernel
theorem dX1_setLeaf_8 : decode cX1_setLeaf 8 = .ok (.iload_n 2, 1) := by decide +kernel
theorem dX1_setLeaf_9 : decode cX1_setLeaf 9 = .ok (.ifCond .lt 32, 3) := by decide +kernel
theorem dX1_setLeaf_12 : decode cX1_setLeaf 12 = .ok (.iload_n 2, 1) := by decide +kernel
theorem dX1_setLeaf_13 : decode cX1_setLeaf 13 = .ok (.bipush 6, 2) := by decide +kernel
theorem dX1_setLeaf_15 : decode cX1_setLeaf 15 = .ok (.if_icmp .ge 26, 3) := by decide +kernel
theorem dX1_setLeaf_18 : decode cX1_setLeaf 18 = .ok (.iload 4, 2) := by decide +kernel
theorem dX1_setLeaf_20 : decode cX1_setLeaf 20 = .ok (.ifCond .lt 21, 3) := by decide +kernel
theorem dX1_setLeaf_23 : decode cX1_setLeaf 23 = .ok (.iload 4, 2) := by decide +kernel
theorem dX1_setLeaf_25 : decode cX1_setLeaf 25 = .ok (.aload_n 0, 1) := by decide +kernel
theorem dX1_setLeaf_26 : decode cX1_setLeaf 26 = .ok (.getfield 36, 3) := by decide +kernel
theorem dX1_setLeaf_29 : decode cX1_setLeaf 29 = .ok (.arraylength, 1) := by decide +kernel
theorem dX1_setLeaf_30 : decode cX1_setLeaf 30 = .ok (.if_icmp .ge 11, 3) := by decide +kernel
theorem dX1_setLeaf_33 : decode cX1_setLeaf 33 = .ok (.aload_n 0, 1) := by decide +kernel
theorem dX1_setLeaf_34 : decode cX1_setLeaf 34 = .ok (.getfield 36, 3) := by decide +kernel
theorem dX1_setLeaf_37 : decode cX1_setLeaf 37 = .ok (.iload 4, 2) := by decide +kernel
theorem dX1_setLeaf_39 : decode cX1_setLeaf 39 = .ok (.iload_n 3, 1) := by decide +kernel
theorem dX1_setLeaf_40 : decode cX1_setLeaf 40 = .ok (.iastore, 1) := by decide +kernel
theorem dX1_setLeaf_41 : decode cX1_setLeaf 41 = .ok (.return_, 1) := by decide +kernel
set_option maxRecDepth 20000 in
theorem ggX1_insertLeaf_X1_sizeOf : GoodIn wsX1_insertLeaf wsX1_sizeOf := goodIn_r _ [6, 1, 19, 20, 21, 22, 23, 24, 25, 26, 27] (by decide +kernel) (by decide +kernel)
set_option maxRecDepth 20000 in
theorem gX1_insertLeaf_X1_sizeOf : GoodIn wsX1_insertLeaf (wsV RX1 75 RX1 yX1_sizeOf wsX1_sizeOf) := goodIn_app (goodIn_of _ (by decide +kernel)) ggX1_insertLeaf_X1_sizeOf
set_option maxRecDepth 20000 in
theorem ggX1_insertLeaf_X1_leafAt : GoodIn wsX1_insertLeaf wsX1_leafAt := goodIn_r _ [10, 11, 19, 20, 21, 22, 23, 24, 25, 26, 27] (by decide +kernel) (by decide +kernel)
set_option maxRecDepth 20000 in
theorem gX1_insertLeaf_X1_leafAt : GoodIn wsX1_insertLeaf (wsV RX1 79 RX1 yX1_leafAt wsX1_leafAt) := goodIn_app (goodIn_of _ (by decide +kernel)) ggX1_insertLeaf_X1_leafAt
set_option maxRecDepth 20000 in
theorem ggX1_insertLeaf_X1_setLeaf : GoodIn wsX1_insertLeaf wsX1_setLeaf := goodIn_r _ [15, 11, 19, 20, 21, 22, 23, 24, 25, 26, 27] (by decide +kernel) (by decide +kernel)
set_option maxRecDepth 20000 in
theorem gX1_insertLeaf_X1_setLeaf : GoodIn wsX1_insertLeaf (wsV RX1 83 RX1 yX1_setLeaf wsX1_setLeaf) := goodIn_app (goodIn_of _ (by decide +kernel)) ggX1_insertLeaf_X1_setLeaf
set_option maxRecDepth 20000 in
theorem ggX1_insertLeaf_X6_setCell : GoodIn wsX1_insertLeaf wsX6_setCell := goodIn_r _ [18] (by decide +kernel) (by decide +kernel)
set_option maxRecDepth 20000 in
theorem gX1_insertLeaf_X6_setCell_n63 : GoodIn wsX1_insertLeaf (wsX6_setCell) := ggX1_insertLeaf_X6_setCell
theorem dX1_insertLeaf_0 : decode cX1_insertLeaf 0 = .ok (.aload_n 0, 1) := by decide +kernel
theorem dX1_insertLeaf_1 : decode cX1_insertLeaf 1 = .ok (.iload_n 1, 1) := by decide +kernel
theorem dX1_insertLeaf_2 : decode cX1_insertLeaf 2 = .ok (.invokevirtual 75, 3) := by decide +kernel
theorem dX1_insertLeaf_5 : decode cX1_insertLeaf 5 = .ok (.istore 4, 2) := by decide +kernel
theorem dX1_insertLeaf_7 : decode cX1_insertLeaf 7 = .ok (.iload 4, 2) := by decide +kernel
theorem dX1_insertLeaf_9 : decode cX1_insertLeaf 9 = .ok (.istore 5, 2) := by decide +kernel
theorem dX1_insertLeaf_11 : decode cX1_insertLeaf 11 = .ok (.iload 5, 2) := by decide +kernel
theorem dX1_insertLeaf_13 : decode cX1_insertLeaf 13 = .ok (.iload_n 2, 1) := by decide +kernel
theorem dX1_insertLeaf_14 : decode cX1_insertLeaf 14 = .ok (.if_icmp .le 25, 3) := by decide +kernel
theorem dX1_insertLeaf_17 : decode cX1_insertLeaf 17 = .ok (.aload_n 0, 1) := by decide +kernel
theorem dX1_insertLeaf_18 : decode cX1_insertLeaf 18 = .ok (.iload_n 1, 1) := by decide +kernel
theorem dX1_insertLeaf_19 : decode cX1_insertLeaf 19 = .ok (.iload 5, 2) := by decide +kernel
theorem dX1_insertLeaf_21 : decode cX1_insertLeaf 21 = .ok (.aload_n 0, 1) := by decide +kernel
theorem dX1_insertLeaf_22 : decode cX1_insertLeaf 22 = .ok (.iload_n 1, 1) := by decide +kernel
theorem dX1_insertLeaf_23 : decode cX1_insertLeaf 23 = .ok (.iload 5, 2) := by decide +kernel
theorem dX1_insertLeaf_25 : decode cX1_insertLeaf 25 = .ok (.iconst 1, 1) := by decide +kernel
theorem dX1_insertLeaf_26 : decode cX1_insertLeaf 26 = .ok (.isub, 1) := by decide +kernel
theorem dX1_insertLeaf_27 : decode cX1_insertLeaf 27 = .ok (.invokevirtual 79, 3) := by decide +kernel
theorem dX1_insertLeaf_30 : decode cX1_insertLeaf 30 = .ok (.invokevirtual 83, 3) := by decide +kernel
theorem dX1_insertLeaf_33 : decode cX1_insertLeaf 33 = .ok (.iinc 5 (-1), 3) := by decide +kernel
theorem dX1_insertLeaf_36 : decode cX1_insertLeaf 36 = .ok (.goto (-25), 3) := by decide +kernel
theorem dX1_insertLeaf_39 : decode cX1_insertLeaf 39 = .ok (.aload_n 0, 1) := by decide +kernel
theorem dX1_insertLeaf_40 : decode cX1_insertLeaf 40 = .ok (.iload_n 1, 1) := by decide +kernel
theorem dX1_insertLeaf_41 : decode cX1_insertLeaf 41 = .ok (.iload_n 2, 1) := by decide +kernel
theorem dX1_insertLeaf_42 : decode cX1_insertLeaf 42 = .ok (.iload_n 3, 1) := by decide +kernel
theorem dX1_insertLeaf_43 : decode cX1_insertLeaf 43 = .ok (.invokevirtual 83, 3) := by decide +kernel
theorem dX1_insertLeaf_46 : decode cX1_insertLeaf 46 = .ok (.aload_n 0, 1) := by decide +kernel
theorem dX1_insertLeaf_47 : decode cX1_insertLeaf 47 = .ok (.getfield 18, 3) := by decide +kernel
theorem dX1_insertLeaf_50 : decode cX1_insertLeaf 50 = .ok (.iload_n 1, 1) := by decide +kernel
theorem dX1_insertLeaf_51 : decode cX1_insertLeaf 51 = .ok (.iload 4, 2) := by decide +kernel
theorem dX1_insertLeaf_53 : decode cX1_insertLeaf 53 = .ok (.iconst 1, 1) := by decide +kernel
theorem dX1_insertLeaf_54 : decode cX1_insertLeaf 54 = .ok (.iadd, 1) := by decide +kernel
theorem dX1_insertLeaf_55 : decode cX1_insertLeaf 55 = .ok (.invokestatic 63, 3) := by decide +kernel
theorem dX1_insertLeaf_58 : decode cX1_insertLeaf 58 = .ok (.return_, 1) := by decide +kernel
set_option maxRecDepth 20000 in
theorem ggX1_cutLeaf_X1_sizeOf : GoodIn wsX1_cutLeaf wsX1_sizeOf := goodIn_r _ [6, 1, 19, 20, 21, 22, 23, 24, 25, 26, 27] (by decide +kernel) (by decide +kernel)
set_option maxRecDepth 20000 in
theorem gX1_cutLeaf_X1_sizeOf : GoodIn wsX1_cutLeaf (wsV RX1 75 RX1 yX1_sizeOf wsX1_sizeOf) := goodIn_app (goodIn_of _ (by decide +kernel)) ggX1_cutLeaf_X1_sizeOf
set_option maxRecDepth 20000 in
theorem ggX1_cutLeaf_X1_leafAt : GoodIn wsX1_cutLeaf wsX1_leafAt := goodIn_r _ [10, 11, 19, 20, 21, 22, 23, 24, 25, 26, 27] (by decide +kernel) (by decide +kernel)
set_option maxRecDepth 20000 in
theorem gX1_cutLeaf_X1_leafAt : GoodIn wsX1_cutLeaf (wsV RX1 79 RX1 yX1_leafAt wsX1_leafAt) := goodIn_app (goodIn_of _ (by decide +kernel)) ggX1_cutLeaf_X1_leafAt
set_option maxRecDepth 20000 in
theorem ggX1_cutLeaf_X1_setLeaf : GoodIn wsX1_cutLeaf wsX1_setLeaf := goodIn_r _ [15, 11, 19, 20, 21, 22, 23, 24, 25, 26, 27] (by decide +kernel) (by decide +kernel)
set_option maxRecDepth 20000 in
theorem gX1_cutLeaf_X1_setLeaf : GoodIn wsX1_cutLeaf (wsV RX1 83 RX1 yX1_setLeaf wsX1_setLeaf) := goodIn_app (goodIn_of _ (by decide +kernel)) ggX1_cutLeaf_X1_setLeaf
set_option maxRecDepth 20000 in
theorem ggX1_cutLeaf_X6_setCell : GoodIn wsX1_cutLeaf wsX6_setCell := goodIn_r _ [18] (by decide +kernel) (by decide +kernel)
set_option maxRecDepth 20000 in
theorem gX1_cutLeaf_X6_setCell_n63 : GoodIn wsX1_cutLeaf (wsX6_setCell) := ggX1_cutLeaf_X6_setCell
theorem dX1_cutLeaf_0 : decode cX1_cutLeaf 0 = .ok (.aload_n 0, 1) := by decide +kernel
theorem dX1_cutLeaf_1 : decode cX1_cutLeaf 1 = .ok (.iload_n 1, 1) := by decide +kernel
theorem dX1_cutLeaf_2 : decode cX1_cutLeaf 2 = .ok (.invokevirtual 75, 3) := by decide +kernel
theorem dX1_cutLeaf_5 : decode cX1_cutLeaf 5 = .ok (.istore_n 3, 1) := by decide +kernel
theorem dX1_cutLeaf_6 : decode cX1_cutLeaf 6 = .ok (.iload_n 2, 1) := by decide +kernel
theorem dX1_cutLeaf_7 : decode cX1_cutLeaf 7 = .ok (.istore 4, 2) := by decide +kernel
theorem dX1_cutLeaf_9 : decode cX1_cutLeaf 9 = .ok (.iload 4, 2) := by decide +kernel
theorem dX1_cutLeaf_11 : decode cX1_cutLeaf 11 = .ok (.iload_n 3, 1) := by decide +kernel
theorem dX1_cutLeaf_12 : decode cX1_cutLeaf 12 = .ok (.iconst 1, 1) := by decide +kernel
theorem dX1_cutLeaf_13 : decode cX1_cutLeaf 13 = .ok (.isub, 1) := by decide +kernel
theorem dX1_cutLeaf_14 : decode cX1_cutLeaf 14 = .ok (.if_icmp .ge 25, 3) := by decide +kernel
theorem dX1_cutLeaf_17 : decode cX1_cutLeaf 17 = .ok (.aload_n 0, 1) := by decide +kernel
theorem dX1_cutLeaf_18 : decode cX1_cutLeaf 18 = .ok (.iload_n 1, 1) := by decide +kernel
theorem dX1_cutLeaf_19 : decode cX1_cutLeaf 19 = .ok (.iload 4, 2) := by decide +kernel
theorem dX1_cutLeaf_21 : decode cX1_cutLeaf 21 = .ok (.aload_n 0, 1) := by decide +kernel
theorem dX1_cutLeaf_22 : decode cX1_cutLeaf 22 = .ok (.iload_n 1, 1) := by decide +kernel
theorem dX1_cutLeaf_23 : decode cX1_cutLeaf 23 = .ok (.iload 4, 2) := by decide +kernel
theorem dX1_cutLeaf_25 : decode cX1_cutLeaf 25 = .ok (.iconst 1, 1) := by decide +kernel
theorem dX1_cutLeaf_26 : decode cX1_cutLeaf 26 = .ok (.iadd, 1) := by decide +kernel
theorem dX1_cutLeaf_27 : decode cX1_cutLeaf 27 = .ok (.invokevirtual 79, 3) := by decide +kernel
theorem dX1_cutLeaf_30 : decode cX1_cutLeaf 30 = .ok (.invokevirtual 83, 3) := by decide +kernel
theorem dX1_cutLeaf_33 : decode cX1_cutLeaf 33 = .ok (.iinc 4 1, 3) := by decide +kernel
theorem dX1_cutLeaf_36 : decode cX1_cutLeaf 36 = .ok (.goto (-27), 3) := by decide +kernel
theorem dX1_cutLeaf_39 : decode cX1_cutLeaf 39 = .ok (.aload_n 0, 1) := by decide +kernel
theorem dX1_cutLeaf_40 : decode cX1_cutLeaf 40 = .ok (.getfield 18, 3) := by decide +kernel
theorem dX1_cutLeaf_43 : decode cX1_cutLeaf 43 = .ok (.iload_n 1, 1) := by decide +kernel
theorem dX1_cutLeaf_44 : decode cX1_cutLeaf 44 = .ok (.iload_n 3, 1) := by decide +kernel
theorem dX1_cutLeaf_45 : decode cX1_cutLeaf 45 = .ok (.iconst 1, 1) := by decide +kernel
theorem dX1_cutLeaf_46 : decode cX1_cutLeaf 46 = .ok (.isub, 1) := by decide +kernel
theorem dX1_cutLeaf_47 : decode cX1_cutLeaf 47 = .ok (.invokestatic 63, 3) := by decide +kernel
theorem dX1_cutLeaf_50 : decode cX1_cutLeaf 50 = .ok (.return_, 1) := by decide +kernel
set_option maxRecDepth 20000 in
theorem ggX1_copyDirectory_X1_sizeOf : GoodIn wsX1_copyDirectory wsX1_sizeOf := goodIn_r _ [6, 1, 19, 20, 21, 22, 23, 24, 25, 26, 27] (by decide +kernel) (by decide +kernel)
set_option maxRecDepth 20000 in
theorem gX1_copyDirectory_X1_sizeOf : GoodIn wsX1_copyDirectory (wsV RX1 75 RX1 yX1_sizeOf wsX1_sizeOf) := goodIn_app (goodIn_of _ (by decide +kernel)) ggX1_copyDirectory_X1_sizeOf
set_option maxRecDepth 20000 in
theorem ggX1_copyDirectory_X1_leafAt : GoodIn wsX1_copyDirectory wsX1_leafAt := goodIn_r _ [10, 11, 19, 20, 21, 22, 23, 24, 25, 26, 27] (by decide +kernel) (by decide +kernel)
set_option maxRecDepth 20000 in
theorem gX1_copyDirectory_X1_leafAt : GoodIn wsX1_copyDirectory (wsV RX1 79 RX1 yX1_leafAt wsX1_leafAt) := goodIn_app (goodIn_of _ (by decide +kernel)) ggX1_copyDirectory_X1_leafAt
set_option maxRecDepth 20000 in
theorem ggX1_copyDirectory_X1_setLeaf : GoodIn wsX1_copyDirectory wsX1_setLeaf := goodIn_r _ [15, 11, 19, 20, 21, 22, 23, 24, 25, 26, 27] (by decide +kernel) (by decide +kernel)
set_option maxRecDepth 20000 in
theorem gX1_copyDirectory_X1_setLeaf : GoodIn wsX1_copyDirectory (wsV RX1 83 RX1 yX1_setLeaf wsX1_setLeaf) := goodIn_app (goodIn_of _ (by decide +kernel)) ggX1_copyDirectory_X1_setLeaf
set_option maxRecDepth 20000 in
theorem ggX1_copyDirectory_X6_setCell : GoodIn wsX1_copyDirectory wsX6_setCell := goodIn_r _ [18] (by decide +kernel) (by decide +kernel)
set_option maxRecDepth 20000 in
theorem gX1_copyDirectory_X6_setCell_n63 : GoodIn wsX1_copyDirectory (wsX6_setCell) := ggX1_copyDirectory_X6_setCell
theorem dX1_copyDirectory_0 : decode cX1_copyDirectory 0 = .ok (.aload_n 0, 1) := by decide +kernel
theorem dX1_copyDirectory_1 : decode cX1_copyDirectory 1 = .ok (.iload_n 1, 1) := by decide +kernel
theorem dX1_copyDirectory_2 : decode cX1_copyDirectory 2 = .ok (.invokevirtual 75, 3) := by decide +kernel
theorem dX1_copyDirectory_5 : decode cX1_copyDirectory 5 = .ok (.istore_n 3, 1) := by decide +kernel
theorem dX1_copyDirectory_6 : decode cX1_copyDirectory 6 = .ok (.iconst 0, 1) := by decide +kernel
theorem dX1_copyDirectory_7 : decode cX1_copyDirectory 7 = .ok (.istore 4, 2) := by decide +kernel
theorem dX1_copyDirectory_9 : decode cX1_copyDirectory 9 = .ok (.iload 4, 2) := by decide +kernel
theorem dX1_copyDirectory_11 : decode cX1_copyDirectory 11 = .ok (.iload_n 3, 1) := by decide +kernel
theorem dX1_copyDirectory_12 : decode cX1_copyDirectory 12 = .ok (.if_icmp .ge 23, 3) := by decide +kernel
theorem dX1_copyDirectory_15 : decode cX1_copyDirectory 15 = .ok (.aload_n 0, 1) := by decide +kernel
theorem dX1_copyDirectory_16 : decode cX1_copyDirectory 16 = .ok (.iload_n 2, 1) := by decide +kernel
theorem dX1_copyDirectory_17 : decode cX1_copyDirectory 17 = .ok (.iload 4, 2) := by decide +kernel
theorem dX1_copyDirectory_19 : decode cX1_copyDirectory 19 = .ok (.aload_n 0, 1) := by decide +kernel
theorem dX1_copyDirectory_20 : decode cX1_copyDirectory 20 = .ok (.iload_n 1, 1) := by decide +kernel
theorem dX1_copyDirectory_21 : decode cX1_copyDirectory 21 = .ok (.iload 4, 2) := by decide +kernel
theorem dX1_copyDirectory_23 : decode cX1_copyDirectory 23 = .ok (.invokevirtual 79, 3) := by decide +kernel
theorem dX1_copyDirectory_26 : decode cX1_copyDirectory 26 = .ok (.invokevirtual 83, 3) := by decide +kernel
theorem dX1_copyDirectory_29 : decode cX1_copyDirectory 29 = .ok (.iinc 4 1, 3) := by decide +kernel
theorem dX1_copyDirectory_32 : decode cX1_copyDirectory 32 = .ok (.goto (-23), 3) := by decide +kernel
theorem dX1_copyDirectory_35 : decode cX1_copyDirectory 35 = .ok (.aload_n 0, 1) := by decide +kernel
theorem dX1_copyDirectory_36 : decode cX1_copyDirectory 36 = .ok (.getfield 18, 3) := by decide +kernel
theorem dX1_copyDirectory_39 : decode cX1_copyDirectory 39 = .ok (.iload_n 2, 1) := by decide +kernel
theorem dX1_copyDirectory_40 : decode cX1_copyDirectory 40 = .ok (.iload_n 3, 1) := by decide +kernel
theorem dX1_copyDirectory_41 : decode cX1_copyDirectory 41 = .ok (.invokestatic 63, 3) := by decide +kernel
theorem dX1_copyDirectory_44 : decode cX1_copyDirectory 44 = .ok (.return_, 1) := by decide +kernel
set_option maxRecDepth 20000 in
theorem ggX1_leafPlace_X1_sizeOf : GoodIn wsX1_leafPlace wsX1_sizeOf := goodIn_r _ [5, 6, 17, 18, 19, 20, 21, 22, 23, 24, 25] (by decide +kernel) (by decide +kernel)
set_option maxRecDepth 20000 in
theorem gX1_leafPlace_X1_sizeOf : GoodIn wsX1_leafPlace (wsV RX1 75 RX1 yX1_sizeOf wsX1_sizeOf) := goodIn_app (goodIn_of _ (by decide +kernel)) ggX1_leafPlace_X1_sizeOf
set_option maxRecDepth 20000 in
theorem ggX1_leafPlace_X1_leafAt : GoodIn wsX1_leafPlace wsX1_leafAt := goodIn_r _ [10, 11, 17, 18, 19, 20, 21, 22, 23, 24, 25] (by decide +kernel) (by decide +kernel)
set_option maxRecDepth 20000 in
theorem gX1_leafPlace_X1_leafAt : GoodIn wsX1_leafPlace (wsV RX1 79 RX1 yX1_leafAt wsX1_leafAt) := goodIn_app (goodIn_of _ (by decide +kernel)) ggX1_leafPlace_X1_leafAt
set_option maxRecDepth 20000 in
theorem ggX1_leafPlace_X1_keyAt : GoodIn wsX1_leafPlace wsX1_keyAt := goodIn_r _ [15, 16, 17, 18, 19, 20, 21, 22, 23, 24, 25] (by decide +kernel) (by decide +kernel)
set_option maxRecDepth 20000 in
theorem gX1_leafPlace_X1_keyAt : GoodIn wsX1_leafPlace (wsV RX1 87 RX1 yX1_keyAt wsX1_keyAt) := goodIn_app (goodIn_of _ (by decide +kernel)) ggX1_leafPlace_X1_keyAt
theorem dX1_leafPlace_0 : decode cX1_leafPlace 0 = .ok (.aload_n 0, 1) := by decide +kernel
theorem dX1_leafPlace_1 : decode cX1_leafPlace 1 = .ok (.iload_n 1, 1) := by decide +kernel
theorem dX1_leafPlace_2 : decode cX1_leafPlace 2 = .ok (.invokevirtual 75, 3) := by decide +kernel
theorem dX1_leafPlace_5 : decode cX1_leafPlace 5 = .ok (.istore_n 3, 1) := by decide +kernel
theorem dX1_leafPlace_6 : decode cX1_leafPlace 6 = .ok (.iload_n 3, 1) := by decide +kernel
theorem dX1_leafPlace_7 : decode cX1_leafPlace 7 = .ok (.ifCond .le 7, 3) := by decide +kernel
theorem dX1_leafPlace_10 : decode cX1_leafPlace 10 = .ok (.iconst 0, 1) := by decide +kernel
theorem dX1_leafPlace_11 : decode cX1_leafPlace 11 = .ok (.goto 6, 3) := by decide +kernel
theorem dX1_leafPlace_14 : decode cX1_leafPlace 14 = .ok (.sipush (-1000), 3) := by decide +kernel
theorem dX1_leafPlace_17 : decode cX1_leafPlace 17 = .ok (.istore 4, 2) := by decide +kernel
theorem dX1_leafPlace_19 : decode cX1_leafPlace 19 = .ok (.iconst 1, 1) := by decide +kernel
theorem dX1_leafPlace_20 : decode cX1_leafPlace 20 = .ok (.istore 5, 2) := by decide +kernel
theorem dX1_leafPlace_22 : decode cX1_leafPlace 22 = .ok (.iload 5, 2) := by decide +kernel
theorem dX1_leafPlace_24 : decode cX1_leafPlace 24 = .ok (.iload_n 3, 1) := by decide +kernel
theorem dX1_leafPlace_25 : decode cX1_leafPlace 25 = .ok (.if_icmp .ge 29, 3) := by decide +kernel
theorem dX1_leafPlace_28 : decode cX1_leafPlace 28 = .ok (.aload_n 0, 1) := by decide +kernel
theorem dX1_leafPlace_29 : decode cX1_leafPlace 29 = .ok (.aload_n 0, 1) := by decide +kernel
theorem dX1_leafPlace_30 : decode cX1_leafPlace 30 = .ok (.iload_n 1, 1) := by decide +kernel
theorem dX1_leafPlace_31 : decode cX1_leafPlace 31 = .ok (.iload 5, 2) := by decide +kernel
theorem dX1_leafPlace_33 : decode cX1_leafPlace 33 = .ok (.invokevirtual 79, 3) := by decide +kernel
theorem dX1_leafPlace_36 : decode cX1_leafPlace 36 = .ok (.iconst 0, 1) := by decide +kernel
theorem dX1_leafPlace_37 : decode cX1_leafPlace 37 = .ok (.invokevirtual 87, 3) := by decide +kernel
theorem dX1_leafPlace_40 : decode cX1_leafPlace 40 = .ok (.iload_n 2, 1) := by decide +kernel
theorem dX1_leafPlace_41 : decode cX1_leafPlace 41 = .ok (.if_icmp .gt 7, 3) := by decide +kernel
theorem dX1_leafPlace_44 : decode cX1_leafPlace 44 = .ok (.iload 5, 2) := by decide +kernel
theorem dX1_leafPlace_46 : decode cX1_leafPlace 46 = .ok (.istore 4, 2) := by decide +kernel
theorem dX1_leafPlace_48 : decode cX1_leafPlace 48 = .ok (.iinc 5 1, 3) := by decide +kernel
theorem dX1_leafPlace_51 : decode cX1_leafPlace 51 = .ok (.goto (-29), 3) := by decide +kernel
theorem dX1_leafPlace_54 : decode cX1_leafPlace 54 = .ok (.iload 4, 2) := by decide +kernel
theorem dX1_leafPlace_56 : decode cX1_leafPlace 56 = .ok (.ireturn, 1) := by decide +kernel
set_option maxRecDepth 20000 in
theorem ggX1_valueIn_X1_leafPlace : GoodIn wsX1_valueIn wsX1_leafPlace := goodIn_r _ [5, 6, 7, 8, 4, 9, 10, 11, 12, 13, 14, 15, 16, 17, 18, 19, 20, 30, 31, 32, 33, 34, 35, 36, 37, 38] (by decide +kernel) (by decide +kernel)
set_option maxRecDepth 20000 in
theorem gX1_valueIn_X1_leafPlace : GoodIn wsX1_valueIn (wsV RX1 90 RX1 yX1_leafPlace wsX1_leafPlace) := goodIn_app (goodIn_of _ (by decide +kernel)) ggX1_valueIn_X1_leafPlace
set_option maxRecDepth 20000 in
theorem ggX1_valueIn_X1_leafAt : GoodIn wsX1_valueIn wsX1_leafAt := goodIn_r _ [14, 15, 30, 31, 32, 33, 34, 35, 36, 37, 38] (by decide +kernel) (by decide +kernel)
set_option maxRecDepth 20000 in
theorem gX1_valueIn_X1_leafAt : GoodIn wsX1_valueIn (wsV RX1 79 RX1 yX1_leafAt wsX1_leafAt) := goodIn_app (goodIn_of _ (by decide +kernel)) ggX1_valueIn_X1_leafAt
set_option maxRecDepth 20000 in
theorem ggX1_valueIn_X1_entryPlace : GoodIn wsX1_valueIn wsX1_entryPlace := goodIn_r _ [24, 6, 7, 8, 4, 9, 10, 16, 17, 18, 19, 20, 30, 31, 32, 33, 34, 35, 36, 37, 38] (by decide +kernel) (by decide +kernel)
set_option maxRecDepth 20000 in
theorem gX1_valueIn_X1_entryPlace : GoodIn wsX1_valueIn (wsV RX1 93 RX1 yX1_entryPlace wsX1_entryPlace) := goodIn_app (goodIn_of _ (by decide +kernel)) ggX1_valueIn_X1_entryPlace
set_option maxRecDepth 20000 in
theorem ggX1_valueIn_X1_valueAt : GoodIn wsX1_valueIn wsX1_valueAt := goodIn_r _ [28, 29, 30, 31, 32, 33, 34, 35, 36, 37, 38] (by decide +kernel) (by decide +kernel)
set_option maxRecDepth 20000 in
theorem gX1_valueIn_X1_valueAt : GoodIn wsX1_valueIn (wsV RX1 96 RX1 yX1_valueAt wsX1_valueAt) := goodIn_app (goodIn_of _ (by decide +kernel)) ggX1_valueIn_X1_valueAt
theorem dX1_valueIn_0 : decode cX1_valueIn 0 = .ok (.aload_n 0, 1) := by decide +kernel
theorem dX1_valueIn_1 : decode cX1_valueIn 1 = .ok (.iload_n 1, 1) := by decide +kernel
theorem dX1_valueIn_2 : decode cX1_valueIn 2 = .ok (.aload_n 0, 1) := by decide +kernel
theorem dX1_valueIn_3 : decode cX1_valueIn 3 = .ok (.iload_n 1, 1) := by decide +kernel
theorem dX1_valueIn_4 : decode cX1_valueIn 4 = .ok (.iload_n 2, 1) := by decide +kernel
theorem dX1_valueIn_5 : decode cX1_valueIn 5 = .ok (.invokevirtual 90, 3) := by decide +kernel
theorem dX1_valueIn_8 : decode cX1_valueIn 8 = .ok (.invokevirtual 79, 3) := by decide +kernel
theorem dX1_valueIn_11 : decode cX1_valueIn 11 = .ok (.istore_n 3, 1) := by decide +kernel
theorem dX1_valueIn_12 : decode cX1_valueIn 12 = .ok (.aload_n 0, 1) := by decide +kernel
theorem dX1_valueIn_13 : decode cX1_valueIn 13 = .ok (.iload_n 3, 1) := by decide +kernel
theorem dX1_valueIn_14 : decode cX1_valueIn 14 = .ok (.aload_n 0, 1) := by decide +kernel
theorem dX1_valueIn_15 : decode cX1_valueIn 15 = .ok (.iload_n 3, 1) := by decide +kernel
theorem dX1_valueIn_16 : decode cX1_valueIn 16 = .ok (.iload_n 2, 1) := by decide +kernel
theorem dX1_valueIn_17 : decode cX1_valueIn 17 = .ok (.invokevirtual 93, 3) := by decide +kernel
theorem dX1_valueIn_20 : decode cX1_valueIn 20 = .ok (.invokevirtual 96, 3) := by decide +kernel
theorem dX1_valueIn_23 : decode cX1_valueIn 23 = .ok (.ireturn, 1) := by decide +kernel
set_option maxRecDepth 20000 in
theorem ggX1_entriesIn_X1_sizeOf : GoodIn wsX1_entriesIn wsX1_sizeOf := goodIn_r _ [5, 6, 12, 13, 14, 15, 16, 17, 18, 19, 20] (by decide +kernel) (by decide +kernel)
set_option maxRecDepth 20000 in
theorem gX1_entriesIn_X1_sizeOf : GoodIn wsX1_entriesIn (wsV RX1 75 RX1 yX1_sizeOf wsX1_sizeOf) := goodIn_app (goodIn_of _ (by decide +kernel)) ggX1_entriesIn_X1_sizeOf
set_option maxRecDepth 20000 in
theorem ggX1_entriesIn_X1_leafAt : GoodIn wsX1_entriesIn wsX1_leafAt := goodIn_r _ [10, 11, 12, 13, 14, 15, 16, 17, 18, 19, 20] (by decide +kernel) (by decide +kernel)
set_option maxRecDepth 20000 in
theorem gX1_entriesIn_X1_leafAt : GoodIn wsX1_entriesIn (wsV RX1 79 RX1 yX1_leafAt wsX1_leafAt) := goodIn_app (goodIn_of _ (by decide +kernel)) ggX1_entriesIn_X1_leafAt
theorem dX1_entriesIn_0 : decode cX1_entriesIn 0 = .ok (.iconst 0, 1) := by decide +kernel
theorem dX1_entriesIn_1 : decode cX1_entriesIn 1 = .ok (.istore_n 2, 1) := by decide +kernel
theorem dX1_entriesIn_2 : decode cX1_entriesIn 2 = .ok (.aload_n 0, 1) := by decide +kernel
theorem dX1_entriesIn_3 : decode cX1_entriesIn 3 = .ok (.iload_n 1, 1) := by decide +kernel
theorem dX1_entriesIn_4 : decode cX1_entriesIn 4 = .ok (.invokevirtual 75, 3) := by decide +kernel
theorem dX1_entriesIn_7 : decode cX1_entriesIn 7 = .ok (.istore_n 3, 1) := by decide +kernel
theorem dX1_entriesIn_8 : decode cX1_entriesIn 8 = .ok (.iconst 0, 1) := by decide +kernel
theorem dX1_entriesIn_9 : decode cX1_entriesIn 9 = .ok (.istore 4, 2) := by decide +kernel
theorem dX1_entriesIn_11 : decode cX1_entriesIn 11 = .ok (.iload 4, 2) := by decide +kernel
theorem dX1_entriesIn_13 : decode cX1_entriesIn 13 = .ok (.iload_n 3, 1) := by decide +kernel
theorem dX1_entriesIn_14 : decode cX1_entriesIn 14 = .ok (.if_icmp .ge 23, 3) := by decide +kernel
theorem dX1_entriesIn_17 : decode cX1_entriesIn 17 = .ok (.iload_n 2, 1) := by decide +kernel
theorem dX1_entriesIn_18 : decode cX1_entriesIn 18 = .ok (.aload_n 0, 1) := by decide +kernel
theorem dX1_entriesIn_19 : decode cX1_entriesIn 19 = .ok (.aload_n 0, 1) := by decide +kernel
theorem dX1_entriesIn_20 : decode cX1_entriesIn 20 = .ok (.iload_n 1, 1) := by decide +kernel
theorem dX1_entriesIn_21 : decode cX1_entriesIn 21 = .ok (.iload 4, 2) := by decide +kernel
theorem dX1_entriesIn_23 : decode cX1_entriesIn 23 = .ok (.invokevirtual 79, 3) := by decide +kernel
theorem dX1_entriesIn_26 : decode cX1_entriesIn 26 = .ok (.invokevirtual 75, 3) := by decide +kernel
theorem dX1_entriesIn_29 : decode cX1_entriesIn 29 = .ok (.iadd, 1) := by decide +kernel
theorem dX1_entriesIn_30 : decode cX1_entriesIn 30 = .ok (.istore_n 2, 1) := by decide +kernel
theorem dX1_entriesIn_31 : decode cX1_entriesIn 31 = .ok (.iinc 4 1, 3) := by decide +kernel
theorem dX1_entriesIn_34 : decode cX1_entriesIn 34 = .ok (.goto (-23), 3) := by decide +kernel
theorem dX1_entriesIn_37 : decode cX1_entriesIn 37 = .ok (.iload_n 2, 1) := by decide +kernel
theorem dX1_entriesIn_38 : decode cX1_entriesIn 38 = .ok (.ireturn, 1) := by decide +kernel
set_option maxRecDepth 20000 in
theorem ggX1_sumIn_X1_sizeOf : GoodIn wsX1_sumIn wsX1_sizeOf := goodIn_r _ [5, 6, 21, 22, 23, 24, 25, 26, 27, 28, 29] (by decide +kernel) (by decide +kernel)
set_option maxRecDepth 20000 in
theorem gX1_sumIn_X1_sizeOf : GoodIn wsX1_sumIn (wsV RX1 75 RX1 yX1_sizeOf wsX1_sizeOf) := goodIn_app (goodIn_of _ (by decide +kernel)) ggX1_sumIn_X1_sizeOf
set_option maxRecDepth 20000 in
theorem ggX1_sumIn_X1_leafAt : GoodIn wsX1_sumIn wsX1_leafAt := goodIn_r _ [10, 11, 21, 22, 23, 24, 25, 26, 27, 28, 29] (by decide +kernel) (by decide +kernel)
set_option maxRecDepth 20000 in
theorem gX1_sumIn_X1_leafAt : GoodIn wsX1_sumIn (wsV RX1 79 RX1 yX1_leafAt wsX1_leafAt) := goodIn_app (goodIn_of _ (by decide +kernel)) ggX1_sumIn_X1_leafAt
set_option maxRecDepth 20000 in
theorem ggX1_sumIn_X1_sumOfLeaf : GoodIn wsX1_sumIn wsX1_sumOfLeaf := goodIn_r _ [15, 1, 2, 3, 4, 5, 6, 16, 17, 18, 19, 20, 21, 22, 23, 24, 25, 26, 27, 28, 29] (by decide +kernel) (by decide +kernel)
set_option maxRecDepth 20000 in
theorem gX1_sumIn_X1_sumOfLeaf : GoodIn wsX1_sumIn (wsV RX1 99 RX1 yX1_sumOfLeaf wsX1_sumOfLeaf) := goodIn_app (goodIn_of _ (by decide +kernel)) ggX1_sumIn_X1_sumOfLeaf
theorem dX1_sumIn_0 : decode cX1_sumIn 0 = .ok (.iconst 0, 1) := by decide +kernel
theorem dX1_sumIn_1 : decode cX1_sumIn 1 = .ok (.istore_n 2, 1) := by decide +kernel
theorem dX1_sumIn_2 : decode cX1_sumIn 2 = .ok (.aload_n 0, 1) := by decide +kernel
theorem dX1_sumIn_3 : decode cX1_sumIn 3 = .ok (.iload_n 1, 1) := by decide +kernel
theorem dX1_sumIn_4 : decode cX1_sumIn 4 = .ok (.invokevirtual 75, 3) := by decide +kernel
theorem dX1_sumIn_7 : decode cX1_sumIn 7 = .ok (.istore_n 3, 1) := by decide +kernel
theorem dX1_sumIn_8 : decode cX1_sumIn 8 = .ok (.iconst 0, 1) := by decide +kernel
theorem dX1_sumIn_9 : decode cX1_sumIn 9 = .ok (.istore 4, 2) := by decide +kernel
theorem dX1_sumIn_11 : decode cX1_sumIn 11 = .ok (.iload 4, 2) := by decide +kernel
theorem dX1_sumIn_13 : decode cX1_sumIn 13 = .ok (.iload_n 3, 1) := by decide +kernel
theorem dX1_sumIn_14 : decode cX1_sumIn 14 = .ok (.if_icmp .ge 23, 3) := by decide +kernel
theorem dX1_sumIn_17 : decode cX1_sumIn 17 = .ok (.iload_n 2, 1) := by decide +kernel
theorem dX1_sumIn_18 : decode cX1_sumIn 18 = .ok (.aload_n 0, 1) := by decide +kernel
theorem dX1_sumIn_19 : decode cX1_sumIn 19 = .ok (.aload_n 0, 1) := by decide +kernel
theorem dX1_sumIn_20 : decode cX1_sumIn 20 = .ok (.iload_n 1, 1) := by decide +kernel
theorem dX1_sumIn_21 : decode cX1_sumIn 21 = .ok (.iload 4, 2) := by decide +kernel
theorem dX1_sumIn_23 : decode cX1_sumIn 23 = .ok (.invokevirtual 79, 3) := by decide +kernel
theorem dX1_sumIn_26 : decode cX1_sumIn 26 = .ok (.invokevirtual 99, 3) := by decide +kernel
theorem dX1_sumIn_29 : decode cX1_sumIn 29 = .ok (.iadd, 1) := by decide +kernel
theorem dX1_sumIn_30 : decode cX1_sumIn 30 = .ok (.istore_n 2, 1) := by decide +kernel
theorem dX1_sumIn_31 : decode cX1_sumIn 31 = .ok (.iinc 4 1, 3) := by decide +kernel
theorem dX1_sumIn_34 : decode cX1_sumIn 34 = .ok (.goto (-23), 3) := by decide +kernel
theorem dX1_sumIn_37 : decode cX1_sumIn 37 = .ok (.iload_n 2, 1) := by decide +kernel
theorem dX1_sumIn_38 : decode cX1_sumIn 38 = .ok (.ireturn, 1) := by decide +kernel
set_option maxRecDepth 20000 in
theorem ggX1_entryPartIn_X1_sizeOf : GoodIn wsX1_entryPartIn wsX1_sizeOf := goodIn_r _ [5, 6, 26, 27, 28, 29, 30, 31, 32, 33, 34] (by decide +kernel) (by decide +kernel)
set_option maxRecDepth 20000 in
theorem gX1_entryPartIn_X1_sizeOf : GoodIn wsX1_entryPartIn (wsV RX1 75 RX1 yX1_sizeOf wsX1_sizeOf) := goodIn_app (goodIn_of _ (by decide +kernel)) ggX1_entryPartIn_X1_sizeOf
set_option maxRecDepth 20000 in
theorem ggX1_entryPartIn_X1_leafAt : GoodIn wsX1_entryPartIn wsX1_leafAt := goodIn_r _ [10, 11, 26, 27, 28, 29, 30, 31, 32, 33, 34] (by decide +kernel) (by decide +kernel)
set_option maxRecDepth 20000 in
theorem gX1_entryPartIn_X1_leafAt : GoodIn wsX1_entryPartIn (wsV RX1 79 RX1 yX1_leafAt wsX1_leafAt) := goodIn_app (goodIn_of _ (by decide +kernel)) ggX1_entryPartIn_X1_leafAt
set_option maxRecDepth 20000 in
theorem ggX1_entryPartIn_X1_leafPart : GoodIn wsX1_entryPartIn wsX1_leafPart := goodIn_r _ [15, 16, 17, 18, 4, 19, 20, 21, 22, 23, 24, 25, 26, 27, 28, 29, 30, 31, 32, 33, 34] (by decide +kernel) (by decide +kernel)
set_option maxRecDepth 20000 in
theorem gX1_entryPartIn_X1_leafPart : GoodIn wsX1_entryPartIn (wsV RX1 102 RX1 yX1_leafPart wsX1_leafPart) := goodIn_app (goodIn_of _ (by decide +kernel)) ggX1_entryPartIn_X1_leafPart
theorem dX1_entryPartIn_0 : decode cX1_entryPartIn 0 = .ok (.iload_n 2, 1) := by decide +kernel
theorem dX1_entryPartIn_1 : decode cX1_entryPartIn 1 = .ok (.istore 4, 2) := by decide +kernel
theorem dX1_entryPartIn_3 : decode cX1_entryPartIn 3 = .ok (.aload_n 0, 1) := by decide +kernel
theorem dX1_entryPartIn_4 : decode cX1_entryPartIn 4 = .ok (.iload_n 1, 1) := by decide +kernel
theorem dX1_entryPartIn_5 : decode cX1_entryPartIn 5 = .ok (.invokevirtual 75, 3) := by decide +kernel
theorem dX1_entryPartIn_8 : decode cX1_entryPartIn 8 = .ok (.istore 5, 2) := by decide +kernel
theorem dX1_entryPartIn_10 : decode cX1_entryPartIn 10 = .ok (.iconst 0, 1) := by decide +kernel
theorem dX1_entryPartIn_11 : decode cX1_entryPartIn 11 = .ok (.istore 6, 2) := by decide +kernel
theorem dX1_entryPartIn_13 : decode cX1_entryPartIn 13 = .ok (.iload 6, 2) := by decide +kernel
theorem dX1_entryPartIn_15 : decode cX1_entryPartIn 15 = .ok (.iload 5, 2) := by decide +kernel
theorem dX1_entryPartIn_17 : decode cX1_entryPartIn 17 = .ok (.if_icmp .ge 50, 3) := by decide +kernel
theorem dX1_entryPartIn_20 : decode cX1_entryPartIn 20 = .ok (.aload_n 0, 1) := by decide +kernel
theorem dX1_entryPartIn_21 : decode cX1_entryPartIn 21 = .ok (.iload_n 1, 1) := by decide +kernel
theorem dX1_entryPartIn_22 : decode cX1_entryPartIn 22 = .ok (.iload 6, 2) := by decide +kernel
theorem dX1_entryPartIn_24 : decode cX1_entryPartIn 24 = .ok (.invokevirtual 79, 3) := by decide +kernel
theorem dX1_entryPartIn_27 : decode cX1_entryPartIn 27 = .ok (.istore 7, 2) := by decide +kernel
theorem dX1_entryPartIn_29 : decode cX1_entryPartIn 29 = .ok (.iload 4, 2) := by decide +kernel
theorem dX1_entryPartIn_31 : decode cX1_entryPartIn 31 = .ok (.aload_n 0, 1) := by decide +kernel
theorem dX1_entryPartIn_32 : decode cX1_entryPartIn 32 = .ok (.iload 7, 2) := by decide +kernel
theorem dX1_entryPartIn_34 : decode cX1_entryPartIn 34 = .ok (.invokevirtual 75, 3) := by decide +kernel
theorem dX1_entryPartIn_37 : decode cX1_entryPartIn 37 = .ok (.if_icmp .ge 13, 3) := by decide +kernel
theorem dX1_entryPartIn_40 : decode cX1_entryPartIn 40 = .ok (.aload_n 0, 1) := by decide +kernel
theorem dX1_entryPartIn_41 : decode cX1_entryPartIn 41 = .ok (.iload 7, 2) := by decide +kernel
theorem dX1_entryPartIn_43 : decode cX1_entryPartIn 43 = .ok (.iload 4, 2) := by decide +kernel
theorem dX1_entryPartIn_45 : decode cX1_entryPartIn 45 = .ok (.iload_n 3, 1) := by decide +kernel
theorem dX1_entryPartIn_46 : decode cX1_entryPartIn 46 = .ok (.invokevirtual 102, 3) := by decide +kernel
theorem dX1_entryPartIn_49 : decode cX1_entryPartIn 49 = .ok (.ireturn, 1) := by decide +kernel
theorem dX1_entryPartIn_50 : decode cX1_entryPartIn 50 = .ok (.iload 4, 2) := by decide +kernel
theorem dX1_entryPartIn_52 : decode cX1_entryPartIn 52 = .ok (.aload_n 0, 1) := by decide +kernel
theorem dX1_entryPartIn_53 : decode cX1_entryPartIn 53 = .ok (.iload 7, 2) := by decide +kernel
theorem dX1_entryPartIn_55 : decode cX1_entryPartIn 55 = .ok (.invokevirtual 75, 3) := by decide +kernel
theorem dX1_entryPartIn_58 : decode cX1_entryPartIn 58 = .ok (.isub, 1) := by decide +kernel
theorem dX1_entryPartIn_59 : decode cX1_entryPartIn 59 = .ok (.istore 4, 2) := by decide +kernel
theorem dX1_entryPartIn_61 : decode cX1_entryPartIn 61 = .ok (.iinc 6 1, 3) := by decide +kernel
theorem dX1_entryPartIn_64 : decode cX1_entryPartIn 64 = .ok (.goto (-51), 3) := by decide +kernel
theorem dX1_entryPartIn_67 : decode cX1_entryPartIn 67 = .ok (.sipush (-1000), 3) := by decide +kernel
theorem dX1_entryPartIn_70 : decode cX1_entryPartIn 70 = .ok (.ireturn, 1) := by decide +kernel
theorem dX1_keyAt_0 : decode cX1_keyAt 0 = .ok (.iload_n 1, 1) := by decide +kernel
theorem dX1_keyAt_1 : decode cX1_keyAt 1 = .ok (.iconst 5, 1) := by decide +kernel
theorem dX1_keyAt_2 : decode cX1_keyAt 2 = .ok (.imul, 1) := by decide +kernel
theorem dX1_keyAt_3 : decode cX1_keyAt 3 = .ok (.iload_n 2, 1) := by decide +kernel
theorem dX1_keyAt_4 : decode cX1_keyAt 4 = .ok (.iadd, 1) := by decide +kernel
theorem dX1_keyAt_5 : decode cX1_keyAt 5 = .ok (.istore_n 3, 1) := by decide +kernel
theorem dX1_keyAt_6 : decode cX1_keyAt 6 = .ok (.iload_n 2, 1) := by decide +kernel
theorem dX1_keyAt_7 : decode cX1_keyAt 7 = .ok (.ifCond .lt 30, 3) := by decide +kernel
theorem dX1_keyAt_10 : decode cX1_keyAt 10 = .ok (.iload_n 2, 1) := by decide +kernel
theorem dX1_keyAt_11 : decode cX1_keyAt 11 = .ok (.iconst 5, 1) := by decide +kernel
theorem dX1_keyAt_12 : decode cX1_keyAt 12 = .ok (.if_icmp .ge 25, 3) := by decide +kernel
theorem dX1_keyAt_15 : decode cX1_keyAt 15 = .ok (.iload_n 3, 1) := by decide +kernel
theorem dX1_keyAt_16 : decode cX1_keyAt 16 = .ok (.ifCond .lt 21, 3) := by decide +kernel
theorem dX1_keyAt_19 : decode cX1_keyAt 19 = .ok (.iload_n 3, 1) := by decide +kernel
theorem dX1_keyAt_20 : decode cX1_keyAt 20 = .ok (.aload_n 0, 1) := by decide +kernel
theorem dX1_keyAt_21 : decode cX1_keyAt 21 = .ok (.getfield 30, 3) := by decide +kernel
theorem dX1_keyAt_24 : decode cX1_keyAt 24 = .ok (.arraylength, 1) := by decide +kernel
theorem dX1_keyAt_25 : decode cX1_keyAt 25 = .ok (.if_icmp .ge 12, 3) := by decide +kernel
theorem dX1_keyAt_28 : decode cX1_keyAt 28 = .ok (.aload_n 0, 1) := by decide +kernel
theorem dX1_keyAt_29 : decode cX1_keyAt 29 = .ok (.getfield 30, 3) := by decide +kernel
theorem dX1_keyAt_32 : decode cX1_keyAt 32 = .ok (.iload_n 3, 1) := by decide +kernel
theorem dX1_keyAt_33 : decode cX1_keyAt 33 = .ok (.iaload, 1) := by decide +kernel
theorem dX1_keyAt_34 : decode cX1_keyAt 34 = .ok (.goto 6, 3) := by decide +kernel
theorem dX1_keyAt_37 : decode cX1_keyAt 37 = .ok (.sipush (-1000), 3) := by decide +kernel
theorem dX1_keyAt_40 : decode cX1_keyAt 40 = .ok (.ireturn, 1) := by decide +kernel
theorem dX1_valueAt_0 : decode cX1_valueAt 0 = .ok (.iload_n 1, 1) := by decide +kernel
theorem dX1_valueAt_1 : decode cX1_valueAt 1 = .ok (.iconst 5, 1) := by decide +kernel
theorem dX1_valueAt_2 : decode cX1_valueAt 2 = .ok (.imul, 1) := by decide +kernel
theorem dX1_valueAt_3 : decode cX1_valueAt 3 = .ok (.iload_n 2, 1) := by decide +kernel
theorem dX1_valueAt_4 : decode cX1_valueAt 4 = .ok (.iadd, 1) := by decide +kernel
theorem dX1_valueAt_5 : decode cX1_valueAt 5 = .ok (.istore_n 3, 1) := by decide +kernel
theorem dX1_valueAt_6 : decode cX1_valueAt 6 = .ok (.iload_n 2, 1) := by decide +kernel
theorem dX1_valueAt_7 : decode cX1_valueAt 7 = .ok (.ifCond .lt 30, 3) := by decide +kernel
theorem dX1_valueAt_10 : decode cX1_valueAt 10 = .ok (.iload_n 2, 1) := by decide +kernel
theorem dX1_valueAt_11 : decode cX1_valueAt 11 = .ok (.iconst 5, 1) := by decide +kernel
theorem dX1_valueAt_12 : decode cX1_valueAt 12 = .ok (.if_icmp .ge 25, 3) := by decide +kernel
theorem dX1_valueAt_15 : decode cX1_valueAt 15 = .ok (.iload_n 3, 1) := by decide +kernel
theorem dX1_valueAt_16 : decode cX1_valueAt 16 = .ok (.ifCond .lt 21, 3) := by decide +kernel
theorem dX1_valueAt_19 : decode cX1_valueAt 19 = .ok (.iload_n 3, 1) := by decide +kernel
theorem dX1_valueAt_20 : decode cX1_valueAt 20 = .ok (.aload_n 0, 1) := by decide +kernel
theorem dX1_valueAt_21 : decode cX1_valueAt 21 = .ok (.getfield 33, 3) := by decide +kernel
theorem dX1_valueAt_24 : decode cX1_valueAt 24 = .ok (.arraylength, 1) := by decide +kernel
theorem dX1_valueAt_25 : decode cX1_valueAt 25 = .ok (.if_icmp .ge 12, 3) := by decide +kernel
theorem dX1_valueAt_28 : decode cX1_valueAt 28 = .ok (.aload_n 0, 1) := by decide +kernel
theorem dX1_valueAt_29 : decode cX1_valueAt 29 = .ok (.getfield 33, 3) := by decide +kernel
theorem dX1_valueAt_32 : decode cX1_valueAt 32 = .ok (.iload_n 3, 1) := by decide +kernel
theorem dX1_valueAt_33 : decode cX1_valueAt 33 = .ok (.iaload, 1) := by decide +kernel
theorem dX1_valueAt_34 : decode cX1_valueAt 34 = .ok (.goto 6, 3) := by decide +kernel
theorem dX1_valueAt_37 : decode cX1_valueAt 37 = .ok (.sipush (-1000), 3) := by decide +kernel
theorem dX1_valueAt_40 : decode cX1_valueAt 40 = .ok (.ireturn, 1) := by decide +kernel
set_option maxRecDepth 20000 in
theorem ggX1_leafPart_X1_keyAt : GoodIn wsX1_leafPart wsX1_keyAt := goodIn_r _ [5, 6, 12, 13, 14, 15, 16, 17, 18, 19, 20] (by decide +kernel) (by decide +kernel)
set_option maxRecDepth 20000 in
theorem gX1_leafPart_X1_keyAt : GoodIn wsX1_leafPart (wsV RX1 87 RX1 yX1_keyAt wsX1_keyAt) := goodIn_app (goodIn_of _ (by decide +kernel)) ggX1_leafPart_X1_keyAt
set_option maxRecDepth 20000 in
theorem ggX1_leafPart_X1_valueAt : GoodIn wsX1_leafPart wsX1_valueAt := goodIn_r _ [10, 11, 12, 13, 14, 15, 16, 17, 18, 19, 20] (by decide +kernel) (by decide +kernel)
set_option maxRecDepth 20000 in
theorem gX1_leafPart_X1_valueAt : GoodIn wsX1_leafPart (wsV RX1 96 RX1 yX1_valueAt wsX1_valueAt) := goodIn_app (goodIn_of _ (by decide +kernel)) ggX1_leafPart_X1_valueAt
theorem dX1_leafPart_0 : decode cX1_leafPart 0 = .ok (.iload_n 3, 1) := by decide +kernel
theorem dX1_leafPart_1 : decode cX1_leafPart 1 = .ok (.tableswitch 49 0 3 #[31, 38, 45, 47], 31) := by decide +kernel
theorem dX1_leafPart_32 : decode cX1_leafPart 32 = .ok (.aload_n 0, 1) := by decide +kernel
theorem dX1_leafPart_33 : decode cX1_leafPart 33 = .ok (.iload_n 1, 1) := by decide +kernel
theorem dX1_leafPart_34 : decode cX1_leafPart 34 = .ok (.iload_n 2, 1) := by decide +kernel
theorem dX1_leafPart_35 : decode cX1_leafPart 35 = .ok (.invokevirtual 87, 3) := by decide +kernel
theorem dX1_leafPart_38 : decode cX1_leafPart 38 = .ok (.ireturn, 1) := by decide +kernel
theorem dX1_leafPart_39 : decode cX1_leafPart 39 = .ok (.aload_n 0, 1) := by decide +kernel
theorem dX1_leafPart_40 : decode cX1_leafPart 40 = .ok (.iload_n 1, 1) := by decide +kernel
theorem dX1_leafPart_41 : decode cX1_leafPart 41 = .ok (.iload_n 2, 1) := by decide +kernel
theorem dX1_leafPart_42 : decode cX1_leafPart 42 = .ok (.invokevirtual 96, 3) := by decide +kernel
theorem dX1_leafPart_45 : decode cX1_leafPart 45 = .ok (.ireturn, 1) := by decide +kernel
theorem dX1_leafPart_46 : decode cX1_leafPart 46 = .ok (.iload_n 1, 1) := by decide +kernel
theorem dX1_leafPart_47 : decode cX1_leafPart 47 = .ok (.ireturn, 1) := by decide +kernel
theorem dX1_leafPart_48 : decode cX1_leafPart 48 = .ok (.iload_n 2, 1) := by decide +kernel
theorem dX1_leafPart_49 : decode cX1_leafPart 49 = .ok (.ireturn, 1) := by decide +kernel
theorem dX1_leafPart_50 : decode cX1_leafPart 50 = .ok (.sipush (-1000), 3) := by decide +kernel
theorem dX1_leafPart_53 : decode cX1_leafPart 53 = .ok (.ireturn, 1) := by decide +kernel
set_option maxRecDepth 20000 in
theorem ggX1_sumOfLeaf_X1_sizeOf : GoodIn wsX1_sumOfLeaf wsX1_sizeOf := goodIn_r _ [5, 6, 12, 13, 14, 15, 16, 17, 18, 19, 20] (by decide +kernel) (by decide +kernel)
set_option maxRecDepth 20000 in
theorem gX1_sumOfLeaf_X1_sizeOf : GoodIn wsX1_sumOfLeaf (wsV RX1 75 RX1 yX1_sizeOf wsX1_sizeOf) := goodIn_app (goodIn_of _ (by decide +kernel)) ggX1_sumOfLeaf_X1_sizeOf
set_option maxRecDepth 20000 in
theorem ggX1_sumOfLeaf_X1_valueAt : GoodIn wsX1_sumOfLeaf wsX1_valueAt := goodIn_r _ [10, 11, 12, 13, 14, 15, 16, 17, 18, 19, 20] (by decide +kernel) (by decide +kernel)
set_option maxRecDepth 20000 in
theorem gX1_sumOfLeaf_X1_valueAt : GoodIn wsX1_sumOfLeaf (wsV RX1 96 RX1 yX1_valueAt wsX1_valueAt) := goodIn_app (goodIn_of _ (by decide +kernel)) ggX1_sumOfLeaf_X1_valueAt
theorem dX1_sumOfLeaf_0 : decode cX1_sumOfLeaf 0 = .ok (.iconst 0, 1) := by decide +kernel
theorem dX1_sumOfLeaf_1 : decode cX1_sumOfLeaf 1 = .ok (.istore_n 2, 1) := by decide +kernel
theorem dX1_sumOfLeaf_2 : decode cX1_sumOfLeaf 2 = .ok (.aload_n 0, 1) := by decide +kernel
theorem dX1_sumOfLeaf_3 : decode cX1_sumOfLeaf 3 = .ok (.iload_n 1, 1) := by decide +kernel
theorem dX1_sumOfLeaf_4 : decode cX1_sumOfLeaf 4 = .ok (.invokevirtual 75, 3) := by decide +kernel
theorem dX1_sumOfLeaf_7 : decode cX1_sumOfLeaf 7 = .ok (.istore_n 3, 1) := by decide +kernel
theorem dX1_sumOfLeaf_8 : decode cX1_sumOfLeaf 8 = .ok (.iconst 0, 1) := by decide +kernel
theorem dX1_sumOfLeaf_9 : decode cX1_sumOfLeaf 9 = .ok (.istore 4, 2) := by decide +kernel
theorem dX1_sumOfLeaf_11 : decode cX1_sumOfLeaf 11 = .ok (.iload 4, 2) := by decide +kernel
theorem dX1_sumOfLeaf_13 : decode cX1_sumOfLeaf 13 = .ok (.iload_n 3, 1) := by decide +kernel
theorem dX1_sumOfLeaf_14 : decode cX1_sumOfLeaf 14 = .ok (.if_icmp .ge 19, 3) := by decide +kernel
theorem dX1_sumOfLeaf_17 : decode cX1_sumOfLeaf 17 = .ok (.iload_n 2, 1) := by decide +kernel
theorem dX1_sumOfLeaf_18 : decode cX1_sumOfLeaf 18 = .ok (.aload_n 0, 1) := by decide +kernel
theorem dX1_sumOfLeaf_19 : decode cX1_sumOfLeaf 19 = .ok (.iload_n 1, 1) := by decide +kernel
theorem dX1_sumOfLeaf_20 : decode cX1_sumOfLeaf 20 = .ok (.iload 4, 2) := by decide +kernel
theorem dX1_sumOfLeaf_22 : decode cX1_sumOfLeaf 22 = .ok (.invokevirtual 96, 3) := by decide +kernel
theorem dX1_sumOfLeaf_25 : decode cX1_sumOfLeaf 25 = .ok (.iadd, 1) := by decide +kernel
theorem dX1_sumOfLeaf_26 : decode cX1_sumOfLeaf 26 = .ok (.istore_n 2, 1) := by decide +kernel
theorem dX1_sumOfLeaf_27 : decode cX1_sumOfLeaf 27 = .ok (.iinc 4 1, 3) := by decide +kernel
theorem dX1_sumOfLeaf_30 : decode cX1_sumOfLeaf 30 = .ok (.goto (-19), 3) := by decide +kernel
theorem dX1_sumOfLeaf_33 : decode cX1_sumOfLeaf 33 = .ok (.iload_n 2, 1) := by decide +kernel
theorem dX1_sumOfLeaf_34 : decode cX1_sumOfLeaf 34 = .ok (.ireturn, 1) := by decide +kernel
set_option maxRecDepth 20000 in
theorem ggX1_entryPlace_X1_sizeOf : GoodIn wsX1_entryPlace wsX1_sizeOf := goodIn_r _ [5, 6, 12, 13, 14, 15, 16, 17, 18, 19, 20] (by decide +kernel) (by decide +kernel)
set_option maxRecDepth 20000 in
theorem gX1_entryPlace_X1_sizeOf : GoodIn wsX1_entryPlace (wsV RX1 75 RX1 yX1_sizeOf wsX1_sizeOf) := goodIn_app (goodIn_of _ (by decide +kernel)) ggX1_entryPlace_X1_sizeOf
set_option maxRecDepth 20000 in
theorem ggX1_entryPlace_X1_keyAt : GoodIn wsX1_entryPlace wsX1_keyAt := goodIn_r _ [10, 11, 12, 13, 14, 15, 16, 17, 18, 19, 20] (by decide +kernel) (by decide +kernel)
set_option maxRecDepth 20000 in
theorem gX1_entryPlace_X1_keyAt : GoodIn wsX1_entryPlace (wsV RX1 87 RX1 yX1_keyAt wsX1_keyAt) := goodIn_app (goodIn_of _ (by decide +kernel)) ggX1_entryPlace_X1_keyAt
theorem dX1_entryPlace_0 : decode cX1_entryPlace 0 = .ok (.aload_n 0, 1) := by decide +kernel
theorem dX1_entryPlace_1 : decode cX1_entryPlace 1 = .ok (.iload_n 1, 1) := by decide +kernel
theorem dX1_entryPlace_2 : decode cX1_entryPlace 2 = .ok (.invokevirtual 75, 3) := by decide +kernel
theorem dX1_entryPlace_5 : decode cX1_entryPlace 5 = .ok (.istore_n 3, 1) := by decide +kernel
theorem dX1_entryPlace_6 : decode cX1_entryPlace 6 = .ok (.iconst 0, 1) := by decide +kernel
theorem dX1_entryPlace_7 : decode cX1_entryPlace 7 = .ok (.istore 4, 2) := by decide +kernel
theorem dX1_entryPlace_9 : decode cX1_entryPlace 9 = .ok (.iload 4, 2) := by decide +kernel
theorem dX1_entryPlace_11 : decode cX1_entryPlace 11 = .ok (.iload_n 3, 1) := by decide +kernel
theorem dX1_entryPlace_12 : decode cX1_entryPlace 12 = .ok (.if_icmp .ge 23, 3) := by decide +kernel
theorem dX1_entryPlace_15 : decode cX1_entryPlace 15 = .ok (.aload_n 0, 1) := by decide +kernel
theorem dX1_entryPlace_16 : decode cX1_entryPlace 16 = .ok (.iload_n 1, 1) := by decide +kernel
theorem dX1_entryPlace_17 : decode cX1_entryPlace 17 = .ok (.iload 4, 2) := by decide +kernel
theorem dX1_entryPlace_19 : decode cX1_entryPlace 19 = .ok (.invokevirtual 87, 3) := by decide +kernel
theorem dX1_entryPlace_22 : decode cX1_entryPlace 22 = .ok (.iload_n 2, 1) := by decide +kernel
theorem dX1_entryPlace_23 : decode cX1_entryPlace 23 = .ok (.if_icmp .ne 6, 3) := by decide +kernel
theorem dX1_entryPlace_26 : decode cX1_entryPlace 26 = .ok (.iload 4, 2) := by decide +kernel
theorem dX1_entryPlace_28 : decode cX1_entryPlace 28 = .ok (.ireturn, 1) := by decide +kernel
theorem dX1_entryPlace_29 : decode cX1_entryPlace 29 = .ok (.iinc 4 1, 3) := by decide +kernel
theorem dX1_entryPlace_32 : decode cX1_entryPlace 32 = .ok (.goto (-23), 3) := by decide +kernel
theorem dX1_entryPlace_35 : decode cX1_entryPlace 35 = .ok (.sipush (-1000), 3) := by decide +kernel
theorem dX1_entryPlace_38 : decode cX1_entryPlace 38 = .ok (.ireturn, 1) := by decide +kernel
theorem dX1_setEntry_0 : decode cX1_setEntry 0 = .ok (.iload_n 1, 1) := by decide +kernel
theorem dX1_setEntry_1 : decode cX1_setEntry 1 = .ok (.ifCond .lt 41, 3) := by decide +kernel
theorem dX1_setEntry_4 : decode cX1_setEntry 4 = .ok (.iload_n 1, 1) := by decide +kernel
theorem dX1_setEntry_5 : decode cX1_setEntry 5 = .ok (.bipush 32, 2) := by decide +kernel
theorem dX1_setEntry_7 : decode cX1_setEntry 7 = .ok (.if_icmp .ge 35, 3) := by decide +kernel
theorem dX1_setEntry_10 : decode cX1_setEntry 10 = .ok (.iload_n 2, 1) := by decide +kernel
theorem dX1_setEntry_11 : decode cX1_setEntry 11 = .ok (.ifCond .lt 31, 3) := by decide +kernel
theorem dX1_setEntry_14 : decode cX1_setEntry 14 = .ok (.iload_n 2, 1) := by decide +kernel
theorem dX1_setEntry_15 : decode cX1_setEntry 15 = .ok (.iconst 5, 1) := by decide +kernel
theorem dX1_setEntry_16 : decode cX1_setEntry 16 = .ok (.if_icmp .ge 26, 3) := by decide +kernel
theorem dX1_setEntry_19 : decode cX1_setEntry 19 = .ok (.aload_n 0, 1) := by decide +kernel
theorem dX1_setEntry_20 : decode cX1_setEntry 20 = .ok (.getfield 30, 3) := by decide +kernel
theorem dX1_setEntry_23 : decode cX1_setEntry 23 = .ok (.iload_n 1, 1) := by decide +kernel
theorem dX1_setEntry_24 : decode cX1_setEntry 24 = .ok (.iconst 5, 1) := by decide +kernel
theorem dX1_setEntry_25 : decode cX1_setEntry 25 = .ok (.imul, 1) := by decide +kernel
theorem dX1_setEntry_26 : decode cX1_setEntry 26 = .ok (.iload_n 2, 1) := by decide +kernel
theorem dX1_setEntry_27 : decode cX1_setEntry 27 = .ok (.iadd, 1) := by decide +kernel
theorem dX1_setEntry_28 : decode cX1_setEntry 28 = .ok (.iload_n 3, 1) := by decide +kernel
theorem dX1_setEntry_29 : decode cX1_setEntry 29 = .ok (.iastore, 1) := by decide +kernel
