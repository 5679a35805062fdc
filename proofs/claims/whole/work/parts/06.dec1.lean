theorem dX1_init_0 : decode cX1_init 0 = .ok (.aload_n 0, 1) := by decide +kernel
theorem dX1_init_1 : decode cX1_init 1 = .ok (.invokespecial 3, 3) := by decide +kernel
theorem dX1_init_4 : decode cX1_init 4 = .ok (.aload_n 0, 1) := by decide +kernel
theorem dX1_init_5 : decode cX1_init 5 = .ok (.bipush 32, 2) := by decide +kernel
theorem dX1_init_7 : decode cX1_init 7 = .ok (.newarray .int, 2) := by decide +kernel
theorem dX1_init_9 : decode cX1_init 9 = .ok (.putfield 9, 3) := by decide +kernel
theorem dX1_init_12 : decode cX1_init 12 = .ok (.aload_n 0, 1) := by decide +kernel
theorem dX1_init_13 : decode cX1_init 13 = .ok (.bipush 32, 2) := by decide +kernel
theorem dX1_init_15 : decode cX1_init 15 = .ok (.newarray .int, 2) := by decide +kernel
theorem dX1_init_17 : decode cX1_init 17 = .ok (.putfield 15, 3) := by decide +kernel
theorem dX1_init_20 : decode cX1_init 20 = .ok (.aload_n 0, 1) := by decide +kernel
theorem dX1_init_21 : decode cX1_init 21 = .ok (.bipush 32, 2) := by decide +kernel
theorem dX1_init_23 : decode cX1_init 23 = .ok (.newarray .int, 2) := by decide +kernel
theorem dX1_init_25 : decode cX1_init 25 = .ok (.putfield 18, 3) := by decide +kernel
theorem dX1_init_28 : decode cX1_init 28 = .ok (.aload_n 0, 1) := by decide +kernel
theorem dX1_init_29 : decode cX1_init 29 = .ok (.bipush 32, 2) := by decide +kernel
theorem dX1_init_31 : decode cX1_init 31 = .ok (.newarray .int, 2) := by decide +kernel
theorem dX1_init_33 : decode cX1_init 33 = .ok (.putfield 21, 3) := by decide +kernel
theorem dX1_init_36 : decode cX1_init 36 = .ok (.aload_n 0, 1) := by decide +kernel
theorem dX1_init_37 : decode cX1_init 37 = .ok (.bipush 32, 2) := by decide +kernel
theorem dX1_init_39 : decode cX1_init 39 = .ok (.newarray .int, 2) := by decide +kernel
theorem dX1_init_41 : decode cX1_init 41 = .ok (.putfield 24, 3) := by decide +kernel
theorem dX1_init_44 : decode cX1_init 44 = .ok (.aload_n 0, 1) := by decide +kernel
theorem dX1_init_45 : decode cX1_init 45 = .ok (.bipush 32, 2) := by decide +kernel
theorem dX1_init_47 : decode cX1_init 47 = .ok (.newarray .int, 2) := by decide +kernel
theorem dX1_init_49 : decode cX1_init 49 = .ok (.putfield 27, 3) := by decide +kernel
theorem dX1_init_52 : decode cX1_init 52 = .ok (.aload_n 0, 1) := by decide +kernel
theorem dX1_init_53 : decode cX1_init 53 = .ok (.sipush 160, 3) := by decide +kernel
theorem dX1_init_56 : decode cX1_init 56 = .ok (.newarray .int, 2) := by decide +kernel
theorem dX1_init_58 : decode cX1_init 58 = .ok (.putfield 30, 3) := by decide +kernel
theorem dX1_init_61 : decode cX1_init 61 = .ok (.aload_n 0, 1) := by decide +kernel
theorem dX1_init_62 : decode cX1_init 62 = .ok (.sipush 160, 3) := by decide +kernel
theorem dX1_init_65 : decode cX1_init 65 = .ok (.newarray .int, 2) := by decide +kernel
theorem dX1_init_67 : decode cX1_init 67 = .ok (.putfield 33, 3) := by decide +kernel
theorem dX1_init_70 : decode cX1_init 70 = .ok (.aload_n 0, 1) := by decide +kernel
theorem dX1_init_71 : decode cX1_init 71 = .ok (.sipush 192, 3) := by decide +kernel
theorem dX1_init_74 : decode cX1_init 74 = .ok (.newarray .int, 2) := by decide +kernel
theorem dX1_init_76 : decode cX1_init 76 = .ok (.putfield 36, 3) := by decide +kernel
theorem dX1_init_79 : decode cX1_init 79 = .ok (.aload_n 0, 1) := by decide +kernel
theorem dX1_init_80 : decode cX1_init 80 = .ok (.getfield 15, 3) := by decide +kernel
theorem dX1_init_83 : decode cX1_init 83 = .ok (.sipush (-1000), 3) := by decide +kernel
theorem dX1_init_86 : decode cX1_init 86 = .ok (.invokestatic 39, 3) := by decide +kernel
theorem dX1_init_89 : decode cX1_init 89 = .ok (.aload_n 0, 1) := by decide +kernel
theorem dX1_init_90 : decode cX1_init 90 = .ok (.getfield 18, 3) := by decide +kernel
theorem dX1_init_93 : decode cX1_init 93 = .ok (.sipush (-1000), 3) := by decide +kernel
theorem dX1_init_96 : decode cX1_init 96 = .ok (.invokestatic 39, 3) := by decide +kernel
theorem dX1_init_99 : decode cX1_init 99 = .ok (.aload_n 0, 1) := by decide +kernel
theorem dX1_init_100 : decode cX1_init 100 = .ok (.getfield 21, 3) := by decide +kernel
theorem dX1_init_103 : decode cX1_init 103 = .ok (.sipush (-1000), 3) := by decide +kernel
theorem dX1_init_106 : decode cX1_init 106 = .ok (.invokestatic 39, 3) := by decide +kernel
theorem dX1_init_109 : decode cX1_init 109 = .ok (.return_, 1) := by decide +kernel
set_option maxRecDepth 20000 in
theorem ggX1_copyFrom_X6_copyRow : GoodIn wsX1_copyFrom wsX6_copyRow := goodIn_r _ [12] (by decide +kernel) (by decide +kernel)
set_option maxRecDepth 20000 in
theorem gX1_copyFrom_X6_copyRow_n43 : GoodIn wsX1_copyFrom (wsX6_copyRow) := ggX1_copyFrom_X6_copyRow
theorem dX1_copyFrom_0 : decode cX1_copyFrom 0 = .ok (.aload_n 1, 1) := by decide +kernel
theorem dX1_copyFrom_1 : decode cX1_copyFrom 1 = .ok (.getfield 9, 3) := by decide +kernel
theorem dX1_copyFrom_4 : decode cX1_copyFrom 4 = .ok (.aload_n 0, 1) := by decide +kernel
theorem dX1_copyFrom_5 : decode cX1_copyFrom 5 = .ok (.getfield 9, 3) := by decide +kernel
theorem dX1_copyFrom_8 : decode cX1_copyFrom 8 = .ok (.invokestatic 43, 3) := by decide +kernel
theorem dX1_copyFrom_11 : decode cX1_copyFrom 11 = .ok (.aload_n 1, 1) := by decide +kernel
theorem dX1_copyFrom_12 : decode cX1_copyFrom 12 = .ok (.getfield 15, 3) := by decide +kernel
theorem dX1_copyFrom_15 : decode cX1_copyFrom 15 = .ok (.aload_n 0, 1) := by decide +kernel
theorem dX1_copyFrom_16 : decode cX1_copyFrom 16 = .ok (.getfield 15, 3) := by decide +kernel
theorem dX1_copyFrom_19 : decode cX1_copyFrom 19 = .ok (.invokestatic 43, 3) := by decide +kernel
theorem dX1_copyFrom_22 : decode cX1_copyFrom 22 = .ok (.aload_n 1, 1) := by decide +kernel
theorem dX1_copyFrom_23 : decode cX1_copyFrom 23 = .ok (.getfield 18, 3) := by decide +kernel
theorem dX1_copyFrom_26 : decode cX1_copyFrom 26 = .ok (.aload_n 0, 1) := by decide +kernel
theorem dX1_copyFrom_27 : decode cX1_copyFrom 27 = .ok (.getfield 18, 3) := by decide +kernel
theorem dX1_copyFrom_30 : decode cX1_copyFrom 30 = .ok (.invokestatic 43, 3) := by decide +kernel
theorem dX1_copyFrom_33 : decode cX1_copyFrom 33 = .ok (.aload_n 1, 1) := by decide +kernel
theorem dX1_copyFrom_34 : decode cX1_copyFrom 34 = .ok (.getfield 21, 3) := by decide +kernel
theorem dX1_copyFrom_37 : decode cX1_copyFrom 37 = .ok (.aload_n 0, 1) := by decide +kernel
theorem dX1_copyFrom_38 : decode cX1_copyFrom 38 = .ok (.getfield 21, 3) := by decide +kernel
theorem dX1_copyFrom_41 : decode cX1_copyFrom 41 = .ok (.invokestatic 43, 3) := by decide +kernel
theorem dX1_copyFrom_44 : decode cX1_copyFrom 44 = .ok (.aload_n 1, 1) := by decide +kernel
theorem dX1_copyFrom_45 : decode cX1_copyFrom 45 = .ok (.getfield 24, 3) := by decide +kernel
theorem dX1_copyFrom_48 : decode cX1_copyFrom 48 = .ok (.aload_n 0, 1) := by decide +kernel
theorem dX1_copyFrom_49 : decode cX1_copyFrom 49 = .ok (.getfield 24, 3) := by decide +kernel
theorem dX1_copyFrom_52 : decode cX1_copyFrom 52 = .ok (.invokestatic 43, 3) := by decide +kernel
theorem dX1_copyFrom_55 : decode cX1_copyFrom 55 = .ok (.aload_n 1, 1) := by decide +kernel
theorem dX1_copyFrom_56 : decode cX1_copyFrom 56 = .ok (.getfield 27, 3) := by decide +kernel
theorem dX1_copyFrom_59 : decode cX1_copyFrom 59 = .ok (.aload_n 0, 1) := by decide +kernel
theorem dX1_copyFrom_60 : decode cX1_copyFrom 60 = .ok (.getfield 27, 3) := by decide +kernel
theorem dX1_copyFrom_63 : decode cX1_copyFrom 63 = .ok (.invokestatic 43, 3) := by decide +kernel
theorem dX1_copyFrom_66 : decode cX1_copyFrom 66 = .ok (.aload_n 1, 1) := by decide +kernel
theorem dX1_copyFrom_67 : decode cX1_copyFrom 67 = .ok (.getfield 30, 3) := by decide +kernel
theorem dX1_copyFrom_70 : decode cX1_copyFrom 70 = .ok (.aload_n 0, 1) := by decide +kernel
theorem dX1_copyFrom_71 : decode cX1_copyFrom 71 = .ok (.getfield 30, 3) := by decide +kernel
theorem dX1_copyFrom_74 : decode cX1_copyFrom 74 = .ok (.invokestatic 43, 3) := by decide +kernel
theorem dX1_copyFrom_77 : decode cX1_copyFrom 77 = .ok (.aload_n 1, 1) := by decide +kernel
theorem dX1_copyFrom_78 : decode cX1_copyFrom 78 = .ok (.getfield 33, 3) := by decide +kernel
theorem dX1_copyFrom_81 : decode cX1_copyFrom 81 = .ok (.aload_n 0, 1) := by decide +kernel
theorem dX1_copyFrom_82 : decode cX1_copyFrom 82 = .ok (.getfield 33, 3) := by decide +kernel
theorem dX1_copyFrom_85 : decode cX1_copyFrom 85 = .ok (.invokestatic 43, 3) := by decide +kernel
theorem dX1_copyFrom_88 : decode cX1_copyFrom 88 = .ok (.aload_n 1, 1) := by decide +kernel
theorem dX1_copyFrom_89 : decode cX1_copyFrom 89 = .ok (.getfield 36, 3) := by decide +kernel
theorem dX1_copyFrom_92 : decode cX1_copyFrom 92 = .ok (.aload_n 0, 1) := by decide +kernel
theorem dX1_copyFrom_93 : decode cX1_copyFrom 93 = .ok (.getfield 36, 3) := by decide +kernel
theorem dX1_copyFrom_96 : decode cX1_copyFrom 96 = .ok (.invokestatic 43, 3) := by decide +kernel
theorem dX1_copyFrom_99 : decode cX1_copyFrom 99 = .ok (.return_, 1) := by decide +kernel
theorem dX1_sizeOf_0 : decode cX1_sizeOf 0 = .ok (.iload_n 1, 1) := by decide +kernel
theorem dX1_sizeOf_1 : decode cX1_sizeOf 1 = .ok (.ifCond .lt 21, 3) := by decide +kernel
theorem dX1_sizeOf_4 : decode cX1_sizeOf 4 = .ok (.iload_n 1, 1) := by decide +kernel
theorem dX1_sizeOf_5 : decode cX1_sizeOf 5 = .ok (.aload_n 0, 1) := by decide +kernel
theorem dX1_sizeOf_6 : decode cX1_sizeOf 6 = .ok (.getfield 18, 3) := by decide +kernel
theorem dX1_sizeOf_9 : decode cX1_sizeOf 9 = .ok (.arraylength, 1) := by decide +kernel
theorem dX1_sizeOf_10 : decode cX1_sizeOf 10 = .ok (.if_icmp .ge 12, 3) := by decide +kernel
theorem dX1_sizeOf_13 : decode cX1_sizeOf 13 = .ok (.aload_n 0, 1) := by decide +kernel
theorem dX1_sizeOf_14 : decode cX1_sizeOf 14 = .ok (.getfield 18, 3) := by decide +kernel
theorem dX1_sizeOf_17 : decode cX1_sizeOf 17 = .ok (.iload_n 1, 1) := by decide +kernel
theorem dX1_sizeOf_18 : decode cX1_sizeOf 18 = .ok (.iaload, 1) := by decide +kernel
theorem dX1_sizeOf_19 : decode cX1_sizeOf 19 = .ok (.goto 6, 3) := by decide +kernel
theorem dX1_sizeOf_22 : decode cX1_sizeOf 22 = .ok (.sipush (-1000), 3) := by decide +kernel
theorem dX1_sizeOf_25 : decode cX1_sizeOf 25 = .ok (.ireturn, 1) := by decide +kernel
theorem dX1_isFresh_0 : decode cX1_isFresh 0 = .ok (.iload_n 1, 1) := by decide +kernel
theorem dX1_isFresh_1 : decode cX1_isFresh 1 = .ok (.ifCond .lt 26, 3) := by decide +kernel
theorem dX1_isFresh_4 : decode cX1_isFresh 4 = .ok (.iload_n 1, 1) := by decide +kernel
theorem dX1_isFresh_5 : decode cX1_isFresh 5 = .ok (.aload_n 0, 1) := by decide +kernel
theorem dX1_isFresh_6 : decode cX1_isFresh 6 = .ok (.getfield 24, 3) := by decide +kernel
theorem dX1_isFresh_9 : decode cX1_isFresh 9 = .ok (.arraylength, 1) := by decide +kernel
theorem dX1_isFresh_10 : decode cX1_isFresh 10 = .ok (.if_icmp .ge 17, 3) := by decide +kernel
theorem dX1_isFresh_13 : decode cX1_isFresh 13 = .ok (.aload_n 0, 1) := by decide +kernel
theorem dX1_isFresh_14 : decode cX1_isFresh 14 = .ok (.getfield 24, 3) := by decide +kernel
theorem dX1_isFresh_17 : decode cX1_isFresh 17 = .ok (.iload_n 1, 1) := by decide +kernel
theorem dX1_isFresh_18 : decode cX1_isFresh 18 = .ok (.iaload, 1) := by decide +kernel
theorem dX1_isFresh_19 : decode cX1_isFresh 19 = .ok (.iconst 1, 1) := by decide +kernel
theorem dX1_isFresh_20 : decode cX1_isFresh 20 = .ok (.if_icmp .ne 7, 3) := by decide +kernel
theorem dX1_isFresh_23 : decode cX1_isFresh 23 = .ok (.iconst 1, 1) := by decide +kernel
theorem dX1_isFresh_24 : decode cX1_isFresh 24 = .ok (.goto 4, 3) := by decide +kernel
theorem dX1_isFresh_27 : decode cX1_isFresh 27 = .ok (.iconst 0, 1) := by decide +kernel
theorem dX1_isFresh_28 : decode cX1_isFresh 28 = .ok (.ireturn, 1) := by decide +kernel
set_option maxRecDepth 20000 in
theorem ggX1_part_X6_cell : GoodIn wsX1_part wsX6_cell := goodIn_r _ [8] (by decide +kernel) (by decide +kernel)
set_option maxRecDepth 20000 in
theorem gX1_part_X6_cell_n47 : GoodIn wsX1_part (wsX6_cell) := ggX1_part_X6_cell
set_option maxRecDepth 20000 in
theorem ggX1_part_X1_canBeDug : GoodIn wsX1_part wsX1_canBeDug := goodIn_r _ [13, 1, 4, 16, 17, 18, 19, 20, 21, 22, 23, 24] (by decide +kernel) (by decide +kernel)
set_option maxRecDepth 20000 in
theorem gX1_part_X1_canBeDug : GoodIn wsX1_part (wsV RX1 51 RX1 yX1_canBeDug wsX1_canBeDug) := goodIn_app (goodIn_of _ (by decide +kernel)) ggX1_part_X1_canBeDug
set_option maxRecDepth 20000 in
theorem ggX1_part_X6_one : GoodIn wsX1_part wsX6_one := goodIn_r _ [15] (by decide +kernel) (by decide +kernel)
set_option maxRecDepth 20000 in
theorem gX1_part_X6_one_n55 : GoodIn wsX1_part (wsX6_one) := ggX1_part_X6_one
theorem dX1_part_0 : decode cX1_part 0 = .ok (.iload_n 2, 1) := by decide +kernel
theorem dX1_part_1 : decode cX1_part 1 = .ok (.tableswitch 94 0 5 #[39, 48, 57, 66, 75, 85], 39) := by decide +kernel
theorem dX1_part_40 : decode cX1_part 40 = .ok (.aload_n 0, 1) := by decide +kernel
theorem dX1_part_41 : decode cX1_part 41 = .ok (.getfield 9, 3) := by decide +kernel
theorem dX1_part_44 : decode cX1_part 44 = .ok (.iload_n 1, 1) := by decide +kernel
theorem dX1_part_45 : decode cX1_part 45 = .ok (.invokestatic 47, 3) := by decide +kernel
theorem dX1_part_48 : decode cX1_part 48 = .ok (.ireturn, 1) := by decide +kernel
theorem dX1_part_49 : decode cX1_part 49 = .ok (.aload_n 0, 1) := by decide +kernel
theorem dX1_part_50 : decode cX1_part 50 = .ok (.getfield 15, 3) := by decide +kernel
theorem dX1_part_53 : decode cX1_part 53 = .ok (.iload_n 1, 1) := by decide +kernel
theorem dX1_part_54 : decode cX1_part 54 = .ok (.invokestatic 47, 3) := by decide +kernel
theorem dX1_part_57 : decode cX1_part 57 = .ok (.ireturn, 1) := by decide +kernel
theorem dX1_part_58 : decode cX1_part 58 = .ok (.aload_n 0, 1) := by decide +kernel
theorem dX1_part_59 : decode cX1_part 59 = .ok (.getfield 18, 3) := by decide +kernel
theorem dX1_part_62 : decode cX1_part 62 = .ok (.iload_n 1, 1) := by decide +kernel
theorem dX1_part_63 : decode cX1_part 63 = .ok (.invokestatic 47, 3) := by decide +kernel
theorem dX1_part_66 : decode cX1_part 66 = .ok (.ireturn, 1) := by decide +kernel
theorem dX1_part_67 : decode cX1_part 67 = .ok (.aload_n 0, 1) := by decide +kernel
theorem dX1_part_68 : decode cX1_part 68 = .ok (.getfield 21, 3) := by decide +kernel
theorem dX1_part_71 : decode cX1_part 71 = .ok (.iload_n 1, 1) := by decide +kernel
theorem dX1_part_72 : decode cX1_part 72 = .ok (.invokestatic 47, 3) := by decide +kernel
theorem dX1_part_75 : decode cX1_part 75 = .ok (.ireturn, 1) := by decide +kernel
theorem dX1_part_76 : decode cX1_part 76 = .ok (.aload_n 0, 1) := by decide +kernel
theorem dX1_part_77 : decode cX1_part 77 = .ok (.iload_n 1, 1) := by decide +kernel
theorem dX1_part_78 : decode cX1_part 78 = .ok (.iload_n 3, 1) := by decide +kernel
theorem dX1_part_79 : decode cX1_part 79 = .ok (.invokevirtual 51, 3) := by decide +kernel
theorem dX1_part_82 : decode cX1_part 82 = .ok (.invokestatic 55, 3) := by decide +kernel
theorem dX1_part_85 : decode cX1_part 85 = .ok (.ireturn, 1) := by decide +kernel
theorem dX1_part_86 : decode cX1_part 86 = .ok (.aload_n 0, 1) := by decide +kernel
theorem dX1_part_87 : decode cX1_part 87 = .ok (.getfield 24, 3) := by decide +kernel
theorem dX1_part_90 : decode cX1_part 90 = .ok (.iload_n 1, 1) := by decide +kernel
theorem dX1_part_91 : decode cX1_part 91 = .ok (.invokestatic 47, 3) := by decide +kernel
theorem dX1_part_94 : decode cX1_part 94 = .ok (.ireturn, 1) := by decide +kernel
theorem dX1_part_95 : decode cX1_part 95 = .ok (.sipush (-1000), 3) := by decide +kernel
theorem dX1_part_98 : decode cX1_part 98 = .ok (.ireturn, 1) := by decide +kernel
set_option maxRecDepth 20000 in
theorem ggX1_countInState_X6_one : GoodIn wsX1_countInState wsX6_one := goodIn_r _ [4] (by decide +kernel) (by decide +kernel)
set_option maxRecDepth 20000 in
theorem gX1_countInState_X6_one_n55 : GoodIn wsX1_countInState (wsX6_one) := ggX1_countInState_X6_one
theorem dX1_countInState_0 : decode cX1_countInState 0 = .ok (.iconst 0, 1) := by decide +kernel
theorem dX1_countInState_1 : decode cX1_countInState 1 = .ok (.istore_n 2, 1) := by decide +kernel
theorem dX1_countInState_2 : decode cX1_countInState 2 = .ok (.iconst 0, 1) := by decide +kernel
theorem dX1_countInState_3 : decode cX1_countInState 3 = .ok (.istore_n 3, 1) := by decide +kernel
theorem dX1_countInState_4 : decode cX1_countInState 4 = .ok (.iload_n 3, 1) := by decide +kernel
theorem dX1_countInState_5 : decode cX1_countInState 5 = .ok (.bipush 32, 2) := by decide +kernel
theorem dX1_countInState_7 : decode cX1_countInState 7 = .ok (.if_icmp .ge 30, 3) := by decide +kernel
theorem dX1_countInState_10 : decode cX1_countInState 10 = .ok (.iload_n 2, 1) := by decide +kernel
theorem dX1_countInState_11 : decode cX1_countInState 11 = .ok (.aload_n 0, 1) := by decide +kernel
theorem dX1_countInState_12 : decode cX1_countInState 12 = .ok (.getfield 9, 3) := by decide +kernel
theorem dX1_countInState_15 : decode cX1_countInState 15 = .ok (.iload_n 3, 1) := by decide +kernel
theorem dX1_countInState_16 : decode cX1_countInState 16 = .ok (.iaload, 1) := by decide +kernel
theorem dX1_countInState_17 : decode cX1_countInState 17 = .ok (.iload_n 1, 1) := by decide +kernel
theorem dX1_countInState_18 : decode cX1_countInState 18 = .ok (.if_icmp .ne 7, 3) := by decide +kernel
theorem dX1_countInState_21 : decode cX1_countInState 21 = .ok (.iconst 1, 1) := by decide +kernel
theorem dX1_countInState_22 : decode cX1_countInState 22 = .ok (.goto 4, 3) := by decide +kernel
theorem dX1_countInState_25 : decode cX1_countInState 25 = .ok (.iconst 0, 1) := by decide +kernel
theorem dX1_countInState_26 : decode cX1_countInState 26 = .ok (.invokestatic 55, 3) := by decide +kernel
theorem dX1_countInState_29 : decode cX1_countInState 29 = .ok (.iadd, 1) := by decide +kernel
theorem dX1_countInState_30 : decode cX1_countInState 30 = .ok (.istore_n 2, 1) := by decide +kernel
theorem dX1_countInState_31 : decode cX1_countInState 31 = .ok (.iinc 3 1, 3) := by decide +kernel
theorem dX1_countInState_34 : decode cX1_countInState 34 = .ok (.goto (-30), 3) := by decide +kernel
theorem dX1_countInState_37 : decode cX1_countInState 37 = .ok (.iload_n 2, 1) := by decide +kernel
theorem dX1_countInState_38 : decode cX1_countInState 38 = .ok (.ireturn, 1) := by decide +kernel
theorem dX1_countFresh_0 : decode cX1_countFresh 0 = .ok (.iconst 0, 1) := by decide +kernel
theorem dX1_countFresh_1 : decode cX1_countFresh 1 = .ok (.istore_n 1, 1) := by decide +kernel
theorem dX1_countFresh_2 : decode cX1_countFresh 2 = .ok (.iconst 0, 1) := by decide +kernel
theorem dX1_countFresh_3 : decode cX1_countFresh 3 = .ok (.istore_n 2, 1) := by decide +kernel
theorem dX1_countFresh_4 : decode cX1_countFresh 4 = .ok (.iload_n 2, 1) := by decide +kernel
theorem dX1_countFresh_5 : decode cX1_countFresh 5 = .ok (.bipush 32, 2) := by decide +kernel
theorem dX1_countFresh_7 : decode cX1_countFresh 7 = .ok (.if_icmp .ge 18, 3) := by decide +kernel
theorem dX1_countFresh_10 : decode cX1_countFresh 10 = .ok (.iload_n 1, 1) := by decide +kernel
theorem dX1_countFresh_11 : decode cX1_countFresh 11 = .ok (.aload_n 0, 1) := by decide +kernel
theorem dX1_countFresh_12 : decode cX1_countFresh 12 = .ok (.getfield 24, 3) := by decide +kernel
theorem dX1_countFresh_15 : decode cX1_countFresh 15 = .ok (.iload_n 2, 1) := by decide +kernel
theorem dX1_countFresh_16 : decode cX1_countFresh 16 = .ok (.iaload, 1) := by decide +kernel
theorem dX1_countFresh_17 : decode cX1_countFresh 17 = .ok (.iadd, 1) := by decide +kernel
theorem dX1_countFresh_18 : decode cX1_countFresh 18 = .ok (.istore_n 1, 1) := by decide +kernel
theorem dX1_countFresh_19 : decode cX1_countFresh 19 = .ok (.iinc 2 1, 3) := by decide +kernel
theorem dX1_countFresh_22 : decode cX1_countFresh 22 = .ok (.goto (-18), 3) := by decide +kernel
theorem dX1_countFresh_25 : decode cX1_countFresh 25 = .ok (.iload_n 1, 1) := by decide +kernel
theorem dX1_countFresh_26 : decode cX1_countFresh 26 = .ok (.ireturn, 1) := by decide +kernel
theorem dX1_countLeft_0 : decode cX1_countLeft 0 = .ok (.iconst 0, 1) := by decide +kernel
theorem dX1_countLeft_1 : decode cX1_countLeft 1 = .ok (.istore_n 1, 1) := by decide +kernel
theorem dX1_countLeft_2 : decode cX1_countLeft 2 = .ok (.iconst 0, 1) := by decide +kernel
theorem dX1_countLeft_3 : decode cX1_countLeft 3 = .ok (.istore_n 2, 1) := by decide +kernel
theorem dX1_countLeft_4 : decode cX1_countLeft 4 = .ok (.iload_n 2, 1) := by decide +kernel
theorem dX1_countLeft_5 : decode cX1_countLeft 5 = .ok (.bipush 32, 2) := by decide +kernel
theorem dX1_countLeft_7 : decode cX1_countLeft 7 = .ok (.if_icmp .ge 18, 3) := by decide +kernel
theorem dX1_countLeft_10 : decode cX1_countLeft 10 = .ok (.iload_n 1, 1) := by decide +kernel
theorem dX1_countLeft_11 : decode cX1_countLeft 11 = .ok (.aload_n 0, 1) := by decide +kernel
theorem dX1_countLeft_12 : decode cX1_countLeft 12 = .ok (.getfield 27, 3) := by decide +kernel
theorem dX1_countLeft_15 : decode cX1_countLeft 15 = .ok (.iload_n 2, 1) := by decide +kernel
theorem dX1_countLeft_16 : decode cX1_countLeft 16 = .ok (.iaload, 1) := by decide +kernel
theorem dX1_countLeft_17 : decode cX1_countLeft 17 = .ok (.iadd, 1) := by decide +kernel
theorem dX1_countLeft_18 : decode cX1_countLeft 18 = .ok (.istore_n 1, 1) := by decide +kernel
theorem dX1_countLeft_19 : decode cX1_countLeft 19 = .ok (.iinc 2 1, 3) := by decide +kernel
theorem dX1_countLeft_22 : decode cX1_countLeft 22 = .ok (.goto (-18), 3) := by decide +kernel
theorem dX1_countLeft_25 : decode cX1_countLeft 25 = .ok (.iload_n 1, 1) := by decide +kernel
theorem dX1_countLeft_26 : decode cX1_countLeft 26 = .ok (.ireturn, 1) := by decide +kernel
theorem dX1_canBeDug_0 : decode cX1_canBeDug 0 = .ok (.iload_n 1, 1) := by decide +kernel
theorem dX1_canBeDug_1 : decode cX1_canBeDug 1 = .ok (.ifCond .lt 33, 3) := by decide +kernel
theorem dX1_canBeDug_4 : decode cX1_canBeDug 4 = .ok (.iload_n 1, 1) := by decide +kernel
theorem dX1_canBeDug_5 : decode cX1_canBeDug 5 = .ok (.bipush 32, 2) := by decide +kernel
theorem dX1_canBeDug_7 : decode cX1_canBeDug 7 = .ok (.if_icmp .ge 27, 3) := by decide +kernel
theorem dX1_canBeDug_10 : decode cX1_canBeDug 10 = .ok (.aload_n 0, 1) := by decide +kernel
theorem dX1_canBeDug_11 : decode cX1_canBeDug 11 = .ok (.getfield 9, 3) := by decide +kernel
theorem dX1_canBeDug_14 : decode cX1_canBeDug 14 = .ok (.iload_n 1, 1) := by decide +kernel
theorem dX1_canBeDug_15 : decode cX1_canBeDug 15 = .ok (.iaload, 1) := by decide +kernel
theorem dX1_canBeDug_16 : decode cX1_canBeDug 16 = .ok (.iconst 2, 1) := by decide +kernel
theorem dX1_canBeDug_17 : decode cX1_canBeDug 17 = .ok (.if_icmp .ne 17, 3) := by decide +kernel
theorem dX1_canBeDug_20 : decode cX1_canBeDug 20 = .ok (.aload_n 0, 1) := by decide +kernel
theorem dX1_canBeDug_21 : decode cX1_canBeDug 21 = .ok (.getfield 21, 3) := by decide +kernel
theorem dX1_canBeDug_24 : decode cX1_canBeDug 24 = .ok (.iload_n 1, 1) := by decide +kernel
theorem dX1_canBeDug_25 : decode cX1_canBeDug 25 = .ok (.iaload, 1) := by decide +kernel
theorem dX1_canBeDug_26 : decode cX1_canBeDug 26 = .ok (.iload_n 2, 1) := by decide +kernel
theorem dX1_canBeDug_27 : decode cX1_canBeDug 27 = .ok (.if_icmp .gt 7, 3) := by decide +kernel
theorem dX1_canBeDug_30 : decode cX1_canBeDug 30 = .ok (.iconst 1, 1) := by decide +kernel
theorem dX1_canBeDug_31 : decode cX1_canBeDug 31 = .ok (.goto 4, 3) := by decide +kernel
theorem dX1_canBeDug_34 : decode cX1_canBeDug 34 = .ok (.iconst 0, 1) := by decide +kernel
theorem dX1_canBeDug_35 : decode cX1_canBeDug 35 = .ok (.ireturn, 1) := by decide +kernel
set_option maxRecDepth 20000 in
theorem ggX1_countFreedToDig_X1_canBeDug : GoodIn wsX1_countFreedToDig wsX1_canBeDug := goodIn_r _ [5, 6, 7, 11, 12, 13, 14, 15, 16, 17, 18, 19] (by decide +kernel) (by decide +kernel)
set_option maxRecDepth 20000 in
theorem gX1_countFreedToDig_X1_canBeDug : GoodIn wsX1_countFreedToDig (wsV RX1 51 RX1 yX1_canBeDug wsX1_canBeDug) := goodIn_app (goodIn_of _ (by decide +kernel)) ggX1_countFreedToDig_X1_canBeDug
set_option maxRecDepth 20000 in
theorem ggX1_countFreedToDig_X6_one : GoodIn wsX1_countFreedToDig wsX6_one := goodIn_r _ [10] (by decide +kernel) (by decide +kernel)
set_option maxRecDepth 20000 in
theorem gX1_countFreedToDig_X6_one_n55 : GoodIn wsX1_countFreedToDig (wsX6_one) := ggX1_countFreedToDig_X6_one
theorem dX1_countFreedToDig_0 : decode cX1_countFreedToDig 0 = .ok (.iconst 0, 1) := by decide +kernel
theorem dX1_countFreedToDig_1 : decode cX1_countFreedToDig 1 = .ok (.istore_n 2, 1) := by decide +kernel
theorem dX1_countFreedToDig_2 : decode cX1_countFreedToDig 2 = .ok (.iconst 0, 1) := by decide +kernel
theorem dX1_countFreedToDig_3 : decode cX1_countFreedToDig 3 = .ok (.istore_n 3, 1) := by decide +kernel
theorem dX1_countFreedToDig_4 : decode cX1_countFreedToDig 4 = .ok (.iload_n 3, 1) := by decide +kernel
theorem dX1_countFreedToDig_5 : decode cX1_countFreedToDig 5 = .ok (.bipush 32, 2) := by decide +kernel
theorem dX1_countFreedToDig_7 : decode cX1_countFreedToDig 7 = .ok (.if_icmp .ge 21, 3) := by decide +kernel
theorem dX1_countFreedToDig_10 : decode cX1_countFreedToDig 10 = .ok (.iload_n 2, 1) := by decide +kernel
theorem dX1_countFreedToDig_11 : decode cX1_countFreedToDig 11 = .ok (.aload_n 0, 1) := by decide +kernel
theorem dX1_countFreedToDig_12 : decode cX1_countFreedToDig 12 = .ok (.iload_n 3, 1) := by decide +kernel
theorem dX1_countFreedToDig_13 : decode cX1_countFreedToDig 13 = .ok (.iload_n 1, 1) := by decide +kernel
theorem dX1_countFreedToDig_14 : decode cX1_countFreedToDig 14 = .ok (.invokevirtual 51, 3) := by decide +kernel
theorem dX1_countFreedToDig_17 : decode cX1_countFreedToDig 17 = .ok (.invokestatic 55, 3) := by decide +kernel
theorem dX1_countFreedToDig_20 : decode cX1_countFreedToDig 20 = .ok (.iadd, 1) := by decide +kernel
theorem dX1_countFreedToDig_21 : decode cX1_countFreedToDig 21 = .ok (.istore_n 2, 1) := by decide +kernel
theorem dX1_countFreedToDig_22 : decode cX1_countFreedToDig 22 = .ok (.iinc 3 1, 3) := by decide +kernel
theorem dX1_countFreedToDig_25 : decode cX1_countFreedToDig 25 = .ok (.goto (-21), 3) := by decide +kernel
theorem dX1_countFreedToDig_28 : decode cX1_countFreedToDig 28 = .ok (.iload_n 2, 1) := by decide +kernel
theorem dX1_countFreedToDig_29 : decode cX1_countFreedToDig 29 = .ok (.ireturn, 1) := by decide +kernel
set_option maxRecDepth 20000 in
theorem ggX1_bedToDig_X1_canBeDug : GoodIn wsX1_bedToDig wsX1_canBeDug := goodIn_r _ [6, 7, 1, 12, 13, 14, 15, 16, 17, 18, 19, 20] (by decide +kernel) (by decide +kernel)
set_option maxRecDepth 20000 in
theorem gX1_bedToDig_X1_canBeDug : GoodIn wsX1_bedToDig (wsV RX1 51 RX1 yX1_canBeDug wsX1_canBeDug) := goodIn_app (goodIn_of _ (by decide +kernel)) ggX1_bedToDig_X1_canBeDug
set_option maxRecDepth 20000 in
theorem ggX1_bedToDig_X1_lowestWild : GoodIn wsX1_bedToDig wsX1_lowestWild := goodIn_r _ [11, 7, 12, 13, 14, 15, 16, 17, 18, 19, 20] (by decide +kernel) (by decide +kernel)
set_option maxRecDepth 20000 in
theorem gX1_bedToDig_X1_lowestWild : GoodIn wsX1_bedToDig (wsV RX1 59 RX1 yX1_lowestWild wsX1_lowestWild) := goodIn_app (goodIn_of _ (by decide +kernel)) ggX1_bedToDig_X1_lowestWild
theorem dX1_bedToDig_0 : decode cX1_bedToDig 0 = .ok (.sipush (-1000), 3) := by decide +kernel
theorem dX1_bedToDig_3 : decode cX1_bedToDig 3 = .ok (.istore_n 2, 1) := by decide +kernel
theorem dX1_bedToDig_4 : decode cX1_bedToDig 4 = .ok (.sipush (-1000), 3) := by decide +kernel
theorem dX1_bedToDig_7 : decode cX1_bedToDig 7 = .ok (.istore_n 3, 1) := by decide +kernel
theorem dX1_bedToDig_8 : decode cX1_bedToDig 8 = .ok (.iconst 0, 1) := by decide +kernel
theorem dX1_bedToDig_9 : decode cX1_bedToDig 9 = .ok (.istore 4, 2) := by decide +kernel
theorem dX1_bedToDig_11 : decode cX1_bedToDig 11 = .ok (.iload 4, 2) := by decide +kernel
theorem dX1_bedToDig_13 : decode cX1_bedToDig 13 = .ok (.bipush 32, 2) := by decide +kernel
theorem dX1_bedToDig_15 : decode cX1_bedToDig 15 = .ok (.if_icmp .ge 48, 3) := by decide +kernel
theorem dX1_bedToDig_18 : decode cX1_bedToDig 18 = .ok (.aload_n 0, 1) := by decide +kernel
theorem dX1_bedToDig_19 : decode cX1_bedToDig 19 = .ok (.iload 4, 2) := by decide +kernel
theorem dX1_bedToDig_21 : decode cX1_bedToDig 21 = .ok (.iload_n 1, 1) := by decide +kernel
theorem dX1_bedToDig_22 : decode cX1_bedToDig 22 = .ok (.invokevirtual 51, 3) := by decide +kernel
theorem dX1_bedToDig_25 : decode cX1_bedToDig 25 = .ok (.ifCond .eq 32, 3) := by decide +kernel
theorem dX1_bedToDig_28 : decode cX1_bedToDig 28 = .ok (.iload_n 2, 1) := by decide +kernel
theorem dX1_bedToDig_29 : decode cX1_bedToDig 29 = .ok (.sipush (-1000), 3) := by decide +kernel
theorem dX1_bedToDig_32 : decode cX1_bedToDig 32 = .ok (.if_icmp .eq 14, 3) := by decide +kernel
theorem dX1_bedToDig_35 : decode cX1_bedToDig 35 = .ok (.aload_n 0, 1) := by decide +kernel
theorem dX1_bedToDig_36 : decode cX1_bedToDig 36 = .ok (.getfield 21, 3) := by decide +kernel
theorem dX1_bedToDig_39 : decode cX1_bedToDig 39 = .ok (.iload 4, 2) := by decide +kernel
theorem dX1_bedToDig_41 : decode cX1_bedToDig 41 = .ok (.iaload, 1) := by decide +kernel
theorem dX1_bedToDig_42 : decode cX1_bedToDig 42 = .ok (.iload_n 3, 1) := by decide +kernel
theorem dX1_bedToDig_43 : decode cX1_bedToDig 43 = .ok (.if_icmp .ge 14, 3) := by decide +kernel
theorem dX1_bedToDig_46 : decode cX1_bedToDig 46 = .ok (.iload 4, 2) := by decide +kernel
theorem dX1_bedToDig_48 : decode cX1_bedToDig 48 = .ok (.istore_n 2, 1) := by decide +kernel
theorem dX1_bedToDig_49 : decode cX1_bedToDig 49 = .ok (.aload_n 0, 1) := by decide +kernel
theorem dX1_bedToDig_50 : decode cX1_bedToDig 50 = .ok (.getfield 21, 3) := by decide +kernel
theorem dX1_bedToDig_53 : decode cX1_bedToDig 53 = .ok (.iload 4, 2) := by decide +kernel
theorem dX1_bedToDig_55 : decode cX1_bedToDig 55 = .ok (.iaload, 1) := by decide +kernel
theorem dX1_bedToDig_56 : decode cX1_bedToDig 56 = .ok (.istore_n 3, 1) := by decide +kernel
theorem dX1_bedToDig_57 : decode cX1_bedToDig 57 = .ok (.iinc 4 1, 3) := by decide +kernel
theorem dX1_bedToDig_60 : decode cX1_bedToDig 60 = .ok (.goto (-49), 3) := by decide +kernel
theorem dX1_bedToDig_63 : decode cX1_bedToDig 63 = .ok (.iload_n 2, 1) := by decide +kernel
theorem dX1_bedToDig_64 : decode cX1_bedToDig 64 = .ok (.sipush (-1000), 3) := by decide +kernel
theorem dX1_bedToDig_67 : decode cX1_bedToDig 67 = .ok (.if_icmp .ne 10, 3) := by decide +kernel
theorem dX1_bedToDig_70 : decode cX1_bedToDig 70 = .ok (.aload_n 0, 1) := by decide +kernel
theorem dX1_bedToDig_71 : decode cX1_bedToDig 71 = .ok (.invokevirtual 59, 3) := by decide +kernel
theorem dX1_bedToDig_74 : decode cX1_bedToDig 74 = .ok (.goto 4, 3) := by decide +kernel
theorem dX1_bedToDig_77 : decode cX1_bedToDig 77 = .ok (.iload_n 2, 1) := by decide +kernel
theorem dX1_bedToDig_78 : decode cX1_bedToDig 78 = .ok (.ireturn, 1) := by decide +kernel
theorem dX1_lowestWild_0 : decode cX1_lowestWild 0 = .ok (.iconst 0, 1) := by decide +kernel
theorem dX1_lowestWild_1 : decode cX1_lowestWild 1 = .ok (.istore_n 1, 1) := by decide +kernel
theorem dX1_lowestWild_2 : decode cX1_lowestWild 2 = .ok (.iload_n 1, 1) := by decide +kernel
theorem dX1_lowestWild_3 : decode cX1_lowestWild 3 = .ok (.bipush 32, 2) := by decide +kernel
theorem dX1_lowestWild_5 : decode cX1_lowestWild 5 = .ok (.if_icmp .ge 20, 3) := by decide +kernel
theorem dX1_lowestWild_8 : decode cX1_lowestWild 8 = .ok (.aload_n 0, 1) := by decide +kernel
theorem dX1_lowestWild_9 : decode cX1_lowestWild 9 = .ok (.getfield 9, 3) := by decide +kernel
theorem dX1_lowestWild_12 : decode cX1_lowestWild 12 = .ok (.iload_n 1, 1) := by decide +kernel
theorem dX1_lowestWild_13 : decode cX1_lowestWild 13 = .ok (.iaload, 1) := by decide +kernel
theorem dX1_lowestWild_14 : decode cX1_lowestWild 14 = .ok (.ifCond .ne 5, 3) := by decide +kernel
theorem dX1_lowestWild_17 : decode cX1_lowestWild 17 = .ok (.iload_n 1, 1) := by decide +kernel
theorem dX1_lowestWild_18 : decode cX1_lowestWild 18 = .ok (.ireturn, 1) := by decide +kernel
theorem dX1_lowestWild_19 : decode cX1_lowestWild 19 = .ok (.iinc 1 1, 3) := by decide +kernel
theorem dX1_lowestWild_22 : decode cX1_lowestWild 22 = .ok (.goto (-20), 3) := by decide +kernel
theorem dX1_lowestWild_25 : decode cX1_lowestWild 25 = .ok (.sipush (-1000), 3) := by decide +kernel
theorem dX1_lowestWild_28 : decode cX1_lowestWild 28 = .ok (.ireturn, 1) := by decide +kernel
set_option maxRecDepth 20000 in
theorem ggX1_useFresh_X6_setCell : GoodIn wsX1_useFresh wsX6_setCell := goodIn_r _ [8] (by decide +kernel) (by decide +kernel)
set_option maxRecDepth 20000 in
theorem gX1_useFresh_X6_setCell_n63 : GoodIn wsX1_useFresh (wsX6_setCell) := ggX1_useFresh_X6_setCell
theorem dX1_useFresh_0 : decode cX1_useFresh 0 = .ok (.aload_n 0, 1) := by decide +kernel
theorem dX1_useFresh_1 : decode cX1_useFresh 1 = .ok (.getfield 9, 3) := by decide +kernel
theorem dX1_useFresh_4 : decode cX1_useFresh 4 = .ok (.iload_n 1, 1) := by decide +kernel
theorem dX1_useFresh_5 : decode cX1_useFresh 5 = .ok (.iconst 1, 1) := by decide +kernel
theorem dX1_useFresh_6 : decode cX1_useFresh 6 = .ok (.invokestatic 63, 3) := by decide +kernel
theorem dX1_useFresh_9 : decode cX1_useFresh 9 = .ok (.aload_n 0, 1) := by decide +kernel
theorem dX1_useFresh_10 : decode cX1_useFresh 10 = .ok (.getfield 15, 3) := by decide +kernel
theorem dX1_useFresh_13 : decode cX1_useFresh 13 = .ok (.iload_n 1, 1) := by decide +kernel
theorem dX1_useFresh_14 : decode cX1_useFresh 14 = .ok (.iload_n 2, 1) := by decide +kernel
theorem dX1_useFresh_15 : decode cX1_useFresh 15 = .ok (.invokestatic 63, 3) := by decide +kernel
theorem dX1_useFresh_18 : decode cX1_useFresh 18 = .ok (.aload_n 0, 1) := by decide +kernel
theorem dX1_useFresh_19 : decode cX1_useFresh 19 = .ok (.getfield 18, 3) := by decide +kernel
theorem dX1_useFresh_22 : decode cX1_useFresh 22 = .ok (.iload_n 1, 1) := by decide +kernel
theorem dX1_useFresh_23 : decode cX1_useFresh 23 = .ok (.iconst 0, 1) := by decide +kernel
theorem dX1_useFresh_24 : decode cX1_useFresh 24 = .ok (.invokestatic 63, 3) := by decide +kernel
theorem dX1_useFresh_27 : decode cX1_useFresh 27 = .ok (.aload_n 0, 1) := by decide +kernel
theorem dX1_useFresh_28 : decode cX1_useFresh 28 = .ok (.getfield 21, 3) := by decide +kernel
theorem dX1_useFresh_31 : decode cX1_useFresh 31 = .ok (.iload_n 1, 1) := by decide +kernel
theorem dX1_useFresh_32 : decode cX1_useFresh 32 = .ok (.sipush (-1000), 3) := by decide +kernel
theorem dX1_useFresh_35 : decode cX1_useFresh 35 = .ok (.invokestatic 63, 3) := by decide +kernel
theorem dX1_useFresh_38 : decode cX1_useFresh 38 = .ok (.aload_n 0, 1) := by decide +kernel
theorem dX1_useFresh_39 : decode cX1_useFresh 39 = .ok (.getfield 24, 3) := by decide +kernel
theorem dX1_useFresh_42 : decode cX1_useFresh 42 = .ok (.iload_n 1, 1) := by decide +kernel
theorem dX1_useFresh_43 : decode cX1_useFresh 43 = .ok (.iconst 1, 1) := by decide +kernel
theorem dX1_useFresh_44 : decode cX1_useFresh 44 = .ok (.invokestatic 63, 3) := by decide +kernel
theorem dX1_useFresh_47 : decode cX1_useFresh 47 = .ok (.return_, 1) := by decide +kernel
set_option maxRecDepth 20000 in
theorem ggX1_leave_X1_isFresh : GoodIn wsX1_leave wsX1_isFresh := goodIn_r _ [6, 7, 19, 20, 21, 22, 23, 24, 25, 26, 27] (by decide +kernel) (by decide +kernel)
set_option maxRecDepth 20000 in
theorem gX1_leave_X1_isFresh : GoodIn wsX1_leave (wsV RX1 67 RX1 yX1_isFresh wsX1_isFresh) := goodIn_app (goodIn_of _ (by decide +kernel)) ggX1_leave_X1_isFresh
set_option maxRecDepth 20000 in
theorem ggX1_leave_X1_makeWild : GoodIn wsX1_leave wsX1_makeWild := goodIn_r _ [11, 12, 13, 14, 15, 7, 16, 17, 18, 19, 20, 21, 22, 23, 24, 25, 26, 27] (by decide +kernel) (by decide +kernel)
set_option maxRecDepth 20000 in
theorem gX1_leave_X1_makeWild : GoodIn wsX1_leave (wsV RX1 71 RX1 yX1_makeWild wsX1_makeWild) := goodIn_app (goodIn_of _ (by decide +kernel)) ggX1_leave_X1_makeWild
set_option maxRecDepth 20000 in
theorem ggX1_leave_X6_setCell : GoodIn wsX1_leave wsX6_setCell := goodIn_r _ [18] (by decide +kernel) (by decide +kernel)
set_option maxRecDepth 20000 in
theorem gX1_leave_X6_setCell_n63 : GoodIn wsX1_leave (wsX6_setCell) := ggX1_leave_X6_setCell
theorem dX1_leave_0 : decode cX1_leave 0 = .ok (.aload_n 0, 1) := by decide +kernel
theorem dX1_leave_1 : decode cX1_leave 1 = .ok (.iload_n 1, 1) := by decide +kernel
theorem dX1_leave_2 : decode cX1_leave 2 = .ok (.invokevirtual 67, 3) := by decide +kernel
theorem dX1_leave_5 : decode cX1_leave 5 = .ok (.ifCond .eq 11, 3) := by decide +kernel
theorem dX1_leave_8 : decode cX1_leave 8 = .ok (.aload_n 0, 1) := by decide +kernel
theorem dX1_leave_9 : decode cX1_leave 9 = .ok (.iload_n 1, 1) := by decide +kernel
theorem dX1_leave_10 : decode cX1_leave 10 = .ok (.invokevirtual 71, 3) := by decide +kernel
theorem dX1_leave_13 : decode cX1_leave 13 = .ok (.goto 12, 3) := by decide +kernel
theorem dX1_leave_16 : decode cX1_leave 16 = .ok (.aload_n 0, 1) := by decide +kernel
theorem dX1_leave_17 : decode cX1_leave 17 = .ok (.getfield 27, 3) := by decide +kernel
theorem dX1_leave_20 : decode cX1_leave 20 = .ok (.iload_n 1, 1) := by decide +kernel
theorem dX1_leave_21 : decode cX1_leave 21 = .ok (.iconst 1, 1) := by decide +kernel
theorem dX1_leave_22 : decode cX1_leave 22 = .ok (.invokestatic 63, 3) := by decide +kernel
theorem dX1_leave_25 : decode cX1_leave 25 = .ok (.return_, 1) := by decide +kernel
set_option maxRecDepth 20000 in
theorem ggX1_makeWild_X6_setCell : GoodIn wsX1_makeWild wsX6_setCell := goodIn_r _ [8] (by decide +kernel) (by decide +kernel)
set_option maxRecDepth 20000 in
theorem gX1_makeWild_X6_setCell_n63 : GoodIn wsX1_makeWild (wsX6_setCell) := ggX1_makeWild_X6_setCell
theorem dX1_makeWild_0 : decode cX1_makeWild 0 = .ok (.aload_n 0, 1) := by decide +kernel
theorem dX1_makeWild_1 : decode cX1_makeWild 1 = .ok (.getfield 9, 3) := by decide +kernel
theorem dX1_makeWild_4 : decode cX1_makeWild 4 = .ok (.iload_n 1, 1) := by decide +kernel
theorem dX1_makeWild_5 : decode cX1_makeWild 5 = .ok (.iconst 0, 1) := by decide +kernel
theorem dX1_makeWild_6 : decode cX1_makeWild 6 = .ok (.invokestatic 63, 3) := by decide +kernel
theorem dX1_makeWild_9 : decode cX1_makeWild 9 = .ok (.aload_n 0, 1) := by decide +kernel
theorem dX1_makeWild_10 : decode cX1_makeWild 10 = .ok (.getfield 15, 3) := by decide +kernel
theorem dX1_makeWild_13 : decode cX1_makeWild 13 = .ok (.iload_n 1, 1) := by decide +kernel
theorem dX1_makeWild_14 : decode cX1_makeWild 14 = .ok (.sipush (-1000), 3) := by decide +kernel
theorem dX1_makeWild_17 : decode cX1_makeWild 17 = .ok (.invokestatic 63, 3) := by decide +kernel
theorem dX1_makeWild_20 : decode cX1_makeWild 20 = .ok (.aload_n 0, 1) := by decide +kernel
theorem dX1_makeWild_21 : decode cX1_makeWild 21 = .ok (.getfield 18, 3) := by decide +kernel
theorem dX1_makeWild_24 : decode cX1_makeWild 24 = .ok (.iload_n 1, 1) := by decide +kernel
theorem dX1_makeWild_25 : decode cX1_makeWild 25 = .ok (.sipush (-1000), 3) := by decide +kernel
theorem dX1_makeWild_28 : decode cX1_makeWild 28 = .ok (.invokestatic 63, 3) := by decide +kernel
theorem dX1_makeWild_31 : decode cX1_makeWild 31 = .ok (.aload_n 0, 1) := by decide +kernel
theorem dX1_makeWild_32 : decode cX1_makeWild 32 = .ok (.getfield 21, 3) := by decide +kernel
theorem dX1_makeWild_35 : decode cX1_makeWild 35 = .ok (.iload_n 1, 1) := by decide +kernel
theorem dX1_makeWild_36 : decode cX1_makeWild 36 = .ok (.sipush (-1000), 3) := by decide +kernel
theorem dX1_makeWild_39 : decode cX1_makeWild 39 = .ok (.invokestatic 63, 3) := by decide +kernel
theorem dX1_makeWild_42 : decode cX1_makeWild 42 = .ok (.aload_n 0, 1) := by decide +kernel
theorem dX1_makeWild_43 : decode cX1_makeWild 43 = .ok (.getfield 24, 3) := by decide +kernel
theorem dX1_makeWild_46 : decode cX1_makeWild 46 = .ok (.iload_n 1, 1) := by decide +kernel
theorem dX1_makeWild_47 : decode cX1_makeWild 47 = .ok (.iconst 0, 1) := by decide +kernel
theorem dX1_makeWild_48 : decode cX1_makeWild 48 = .ok (.invokestatic 63, 3) := by decide +kernel
theorem dX1_makeWild_51 : decode cX1_makeWild 51 = .ok (.return_, 1) := by decide +kernel
theorem dX1_freeLeft_0 : decode cX1_freeLeft 0 = .ok (.iconst 0, 1) := by decide +kernel
theorem dX1_freeLeft_1 : decode cX1_freeLeft 1 = .ok (.istore_n 2, 1) := by decide +kernel
theorem dX1_freeLeft_2 : decode cX1_freeLeft 2 = .ok (.iconst 0, 1) := by decide +kernel
theorem dX1_freeLeft_3 : decode cX1_freeLeft 3 = .ok (.istore_n 3, 1) := by decide +kernel
theorem dX1_freeLeft_4 : decode cX1_freeLeft 4 = .ok (.iload_n 3, 1) := by decide +kernel
theorem dX1_freeLeft_5 : decode cX1_freeLeft 5 = .ok (.bipush 32, 2) := by decide +kernel
theorem dX1_freeLeft_7 : decode cX1_freeLeft 7 = .ok (.if_icmp .ge 43, 3) := by decide +kernel
theorem dX1_freeLeft_10 : decode cX1_freeLeft 10 = .ok (.aload_n 0, 1) := by decide +kernel
theorem dX1_freeLeft_11 : decode cX1_freeLeft 11 = .ok (.getfield 27, 3) := by decide +kernel
theorem dX1_freeLeft_14 : decode cX1_freeLeft 14 = .ok (.iload_n 3, 1) := by decide +kernel
theorem dX1_freeLeft_15 : decode cX1_freeLeft 15 = .ok (.iaload, 1) := by decide +kernel
theorem dX1_freeLeft_16 : decode cX1_freeLeft 16 = .ok (.iconst 1, 1) := by decide +kernel
theorem dX1_freeLeft_17 : decode cX1_freeLeft 17 = .ok (.if_icmp .ne 27, 3) := by decide +kernel
theorem dX1_freeLeft_20 : decode cX1_freeLeft 20 = .ok (.aload_n 0, 1) := by decide +kernel
theorem dX1_freeLeft_21 : decode cX1_freeLeft 21 = .ok (.getfield 9, 3) := by decide +kernel
theorem dX1_freeLeft_24 : decode cX1_freeLeft 24 = .ok (.iload_n 3, 1) := by decide +kernel
theorem dX1_freeLeft_25 : decode cX1_freeLeft 25 = .ok (.iconst 2, 1) := by decide +kernel
theorem dX1_freeLeft_26 : decode cX1_freeLeft 26 = .ok (.iastore, 1) := by decide +kernel
theorem dX1_freeLeft_27 : decode cX1_freeLeft 27 = .ok (.aload_n 0, 1) := by decide +kernel
theorem dX1_freeLeft_28 : decode cX1_freeLeft 28 = .ok (.getfield 21, 3) := by decide +kernel
theorem dX1_freeLeft_31 : decode cX1_freeLeft 31 = .ok (.iload_n 3, 1) := by decide +kernel
theorem dX1_freeLeft_32 : decode cX1_freeLeft 32 = .ok (.iload_n 1, 1) := by decide +kernel
theorem dX1_freeLeft_33 : decode cX1_freeLeft 33 = .ok (.iastore, 1) := by decide +kernel
theorem dX1_freeLeft_34 : decode cX1_freeLeft 34 = .ok (.aload_n 0, 1) := by decide +kernel
theorem dX1_freeLeft_35 : decode cX1_freeLeft 35 = .ok (.getfield 27, 3) := by decide +kernel
theorem dX1_freeLeft_38 : decode cX1_freeLeft 38 = .ok (.iload_n 3, 1) := by decide +kernel
theorem dX1_freeLeft_39 : decode cX1_freeLeft 39 = .ok (.iconst 0, 1) := by decide +kernel
theorem dX1_freeLeft_40 : decode cX1_freeLeft 40 = .ok (.iastore, 1) := by decide +kernel
theorem dX1_freeLeft_41 : decode cX1_freeLeft 41 = .ok (.iinc 2 1, 3) := by decide +kernel
theorem dX1_freeLeft_44 : decode cX1_freeLeft 44 = .ok (.iinc 3 1, 3) := by decide +kernel
theorem dX1_freeLeft_47 : decode cX1_freeLeft 47 = .ok (.goto (-43), 3) := by decide +kernel
theorem dX1_freeLeft_50 : decode cX1_freeLeft 50 = .ok (.iload_n 2, 1) := by decide +kernel
theorem dX1_freeLeft_51 : decode cX1_freeLeft 51 = .ok (.ireturn, 1) := by decide +kernel
set_option maxRecDepth 20000 in
theorem ggX1_keepFresh_X6_fillRow : GoodIn wsX1_keepFresh wsX6_fillRow := goodIn_r _ [4] (by decide +kernel) (by decide +kernel)
set_option maxRecDepth 20000 in
theorem gX1_keepFresh_X6_fillRow_n39 : GoodIn wsX1_keepFresh (wsX6_fillRow) := ggX1_keepFresh_X6_fillRow
theorem dX1_keepFresh_0 : decode cX1_keepFresh 0 = .ok (.aload_n 0, 1) := by decide +kernel
theorem dX1_keepFresh_1 : decode cX1_keepFresh 1 = .ok (.getfield 24, 3) := by decide +kernel
theorem dX1_keepFresh_4 : decode cX1_keepFresh 4 = .ok (.iconst 0, 1) := by decide +kernel
theorem dX1_keepFresh_5 : decode cX1_keepFresh 5 = .ok (.invokestatic 39, 3) := by decide +kernel
theorem dX1_keepFresh_8 : decode cX1_keepFresh 8 = .ok (.return_, 1) := by decide +kernel
set_option maxRecDepth 20000 in
theorem ggX1_dropFresh_X1_makeWild : GoodIn wsX1_dropFresh wsX1_makeWild := goodIn_r _ [7, 8, 9, 10, 11, 1, 12, 13, 14, 17, 18, 19, 20, 21, 22, 23, 24, 25] (by decide +kernel) (by decide +kernel)
set_option maxRecDepth 20000 in
theorem gX1_dropFresh_X1_makeWild : GoodIn wsX1_dropFresh (wsV RX1 71 RX1 yX1_makeWild wsX1_makeWild) := goodIn_app (goodIn_of _ (by decide +kernel)) ggX1_dropFresh_X1_makeWild
set_option maxRecDepth 20000 in
theorem ggX1_dropFresh_X6_fillRow : GoodIn wsX1_dropFresh wsX6_fillRow := goodIn_r _ [16] (by decide +kernel) (by decide +kernel)
set_option maxRecDepth 20000 in
theorem gX1_dropFresh_X6_fillRow_n39 : GoodIn wsX1_dropFresh (wsX6_fillRow) := ggX1_dropFresh_X6_fillRow
theorem dX1_dropFresh_0 : decode cX1_dropFresh 0 = .ok (.iconst 0, 1) := by decide +kernel
theorem dX1_dropFresh_1 : decode cX1_dropFresh 1 = .ok (.istore_n 1, 1) := by decide +kernel
theorem dX1_dropFresh_2 : decode cX1_dropFresh 2 = .ok (.iconst 0, 1) := by decide +kernel
theorem dX1_dropFresh_3 : decode cX1_dropFresh 3 = .ok (.istore_n 2, 1) := by decide +kernel
theorem dX1_dropFresh_4 : decode cX1_dropFresh 4 = .ok (.iload_n 2, 1) := by decide +kernel
theorem dX1_dropFresh_5 : decode cX1_dropFresh 5 = .ok (.bipush 32, 2) := by decide +kernel
theorem dX1_dropFresh_7 : decode cX1_dropFresh 7 = .ok (.if_icmp .ge 27, 3) := by decide +kernel
theorem dX1_dropFresh_10 : decode cX1_dropFresh 10 = .ok (.aload_n 0, 1) := by decide +kernel
theorem dX1_dropFresh_11 : decode cX1_dropFresh 11 = .ok (.getfield 24, 3) := by decide +kernel
theorem dX1_dropFresh_14 : decode cX1_dropFresh 14 = .ok (.iload_n 2, 1) := by decide +kernel
theorem dX1_dropFresh_15 : decode cX1_dropFresh 15 = .ok (.iaload, 1) := by decide +kernel
theorem dX1_dropFresh_16 : decode cX1_dropFresh 16 = .ok (.iconst 1, 1) := by decide +kernel
theorem dX1_dropFresh_17 : decode cX1_dropFresh 17 = .ok (.if_icmp .ne 11, 3) := by decide +kernel
theorem dX1_dropFresh_20 : decode cX1_dropFresh 20 = .ok (.aload_n 0, 1) := by decide +kernel
theorem dX1_dropFresh_21 : decode cX1_dropFresh 21 = .ok (.iload_n 2, 1) := by decide +kernel
theorem dX1_dropFresh_22 : decode cX1_dropFresh 22 = .ok (.invokevirtual 71, 3) := by decide +kernel
theorem dX1_dropFresh_25 : decode cX1_dropFresh 25 = .ok (.iinc 1 1, 3) := by decide +kernel
theorem dX1_dropFresh_28 : decode cX1_dropFresh 28 = .ok (.iinc 2 1, 3) := by decide +kernel
theorem dX1_dropFresh_31 : decode cX1_dropFresh 31 = .ok (.goto (-27), 3) := by decide +kernel
theorem dX1_dropFresh_34 : decode cX1_dropFresh 34 = .ok (.aload_n 0, 1) := by decide +kernel
theorem dX1_dropFresh_35 : decode cX1_dropFresh 35 = .ok (.getfield 27, 3) := by decide +kernel
theorem dX1_dropFresh_38 : decode cX1_dropFresh 38 = .ok (.iconst 0, 1) := by decide +kernel
theorem dX1_dropFresh_39 : decode cX1_dropFresh 39 = .ok (.invokestatic 39, 3) := by decide +kernel
theorem dX1_dropFresh_42 : decode cX1_dropFresh 42 = .ok (.iload_n 1, 1) := by decide +kernel
theorem dX1_dropFresh_43 : decode cX1_dropFresh 43 = .ok (.ireturn, 1) := by decide +kernel
theorem dX1_leafAt_0 : decode cX1_leafAt 0 = .ok (.iload_n 1, 1) := by decide +kernel
theorem dX1_leafAt_1 : decode cX1_leafAt 1 = .ok (.bipush 6, 2) := by decide +kernel
theorem dX1_leafAt_3 : decode cX1_leafAt 3 = .ok (.imul, 1) := by decide +kernel
theorem dX1_leafAt_4 : decode cX1_leafAt 4 = .ok (.iload_n 2, 1) := by decide +kernel
theorem dX1_leafAt_5 : decode cX1_leafAt 5 = .ok (.iadd, 1) := by decide +kernel
theorem dX1_leafAt_6 : decode cX1_leafAt 6 = .ok (.istore_n 3, 1) := by decide +kernel
theorem dX1_leafAt_7 : decode cX1_leafAt 7 = .ok (.iload_n 2, 1) := by decide +kernel
theorem dX1_leafAt_8 : decode cX1_leafAt 8 = .ok (.ifCond .lt 31, 3) := by decide +kernel
theorem dX1_leafAt_11 : decode cX1_leafAt 11 = .ok (.iload_n 2, 1) := by decide +kernel
theorem dX1_leafAt_12 : decode cX1_leafAt 12 = .ok (.bipush 6, 2) := by decide +kernel
theorem dX1_leafAt_14 : decode cX1_leafAt 14 = .ok (.if_icmp .ge 25, 3) := by decide +kernel
theorem dX1_leafAt_17 : decode cX1_leafAt 17 = .ok (.iload_n 3, 1) := by decide +kernel
theorem dX1_leafAt_18 : decode cX1_leafAt 18 = .ok (.ifCond .lt 21, 3) := by decide +kernel
theorem dX1_leafAt_21 : decode cX1_leafAt 21 = .ok (.iload_n 3, 1) := by decide +kernel
theorem dX1_leafAt_22 : decode cX1_leafAt 22 = .ok (.aload_n 0, 1) := by decide +kernel
theorem dX1_leafAt_23 : decode cX1_leafAt 23 = .ok (.getfield 36, 3) := by decide +kernel
theorem dX1_leafAt_26 : decode cX1_leafAt 26 = .ok (.arraylength, 1) := by decide +kernel
theorem dX1_leafAt_27 : decode cX1_leafAt 27 = .ok (.if_icmp .ge 12, 3) := by decide +kernel
theorem dX1_leafAt_30 : decode cX1_leafAt 30 = .ok (.aload_n 0, 1) := by decide +kernel
theorem dX1_leafAt_31 : decode cX1_leafAt 31 = .ok (.getfield 36, 3) := by decide +kernel
theorem dX1_leafAt_34 : decode cX1_leafAt 34 = .ok (.iload_n 3, 1) := by decide +kernel
theorem dX1_leafAt_35 : decode cX1_leafAt 35 = .ok (.iaload, 1) := by decide +kernel
theorem dX1_leafAt_36 : decode cX1_leafAt 36 = .ok (.goto 6, 3) := by decide +kernel
theorem dX1_leafAt_39 : decode cX1_leafAt 39 = .ok (.sipush (-1000), 3) := by decide +kernel
theorem dX1_leafAt_42 : decode cX1_leafAt 42 = .ok (.ireturn, 1) := by decide +kernel
theorem dX1_setLeaf_0 : decode cX1_setLeaf 0 = .ok (.iload_n 1, 1) := by decide +kernel
theorem dX1_setLeaf_1 : decode cX1_setLeaf 1 = .ok (.bipush 6, 2) := by decide +kernel
theorem dX1_setLeaf_3 : decode cX1_setLeaf 3 = .ok (.imul, 1) := by decide +kernel
theorem dX1_setLeaf_4 : decode cX1_setLeaf 4 = .ok (.iload_n 2, 1) := by decide +kernel
theorem dX1_setLeaf_5 : decode cX1_setLeaf 5 = .ok (.iadd, 1) := by decide +kernel
theorem dX1_setLeaf_6 : decode cX1_setLeaf 6 = .ok (.istore 4, 2) := by decide +kernel
theorem dX1_setLeaf_8 : decode cX1_setLeaf 8 = .ok (.iload_n 2, 1) := by decide +kernel
theorem dX1_setLeaf_9 : decode cX1_setLeaf 9 = .ok (.ifCond .lt 32, 3) := by decide +kernel
theorem dX1_setLeaf_12 : decode cX1_setLeaf 12 = .ok (.iload_n 2, 1) := by decide +kernel
theorem dX1_setLeaf_13 : decode cX1_setLeaf 13 = .ok (.bipush 6, 2) := by decide +kernel
theorem dX1_setLeaf_15 : decode cX1_setLeaf 15 = .ok (.if_icmp .ge 26, 3) := by decide +kernel
theorem dX1_setLeaf_18 : decode cX1_setLeaf 18 = .ok (.iload 4, 2) := by decide +kernel
theorem dX1_setLeaf_20 : decode cX1_setLeaf 20 = .ok (.ifCond .lt 21, 3) := by decide +kernel
theorem dX1_setLeaf_23 : decode cX1_setLeaf 23 = .ok (.iload 4, 2) := by decide +kernel
theorem dX1_setLeaf_25 : decode cX1_setLeaf 25 = .ok (.aload_n 0, 1) := by decide +kernel
theorem dX1_setLeaf_26 : decode cX1_setLeaf 26 = .ok (.getfield 36, 3) := by decide +kernel
theorem dX1_setLeaf_29 : decode cX1_setLeaf 29 = .ok (.arraylength, 1) := by decide +kernel
theorem dX1_setLeaf_30 : decode cX1_setLeaf 30 = .ok (.if_icmp .ge 11, 3) := by decide +kernel
theorem dX1_setLeaf_33 : decode cX1_setLeaf 33 = .ok (.aload_n 0, 1) := by decide +kernel
theorem dX1_setLeaf_34 : decode cX1_setLeaf 34 = .ok (.getfield 36, 3) := by decide +kernel
theorem dX1_setLeaf_37 : decode cX1_setLeaf 37 = .ok (.iload 4, 2) := by decide +kernel
theorem dX1_setLeaf_39 : decode cX1_setLeaf 39 = .ok (.iload_n 3, 1) := by decide +kernel
theorem dX1_setLeaf_40 : decode cX1_setLeaf 40 = .ok (.iastore, 1) := by decide +kernel
theorem dX1_setLeaf_41 : decode cX1_setLeaf 41 = .ok (.return_, 1) := by decide +kernel
set_option maxRecDepth 20000 in
theorem ggX1_insertLeaf_X1_sizeOf : GoodIn wsX1_insertLeaf wsX1_sizeOf := goodIn_r _ [6, 1, 19, 20, 21, 22, 23, 24, 25, 26, 27] (by decide +kernel) (by decide +kernel)
set_option maxRecDepth 20000 in
theorem gX1_insertLeaf_X1_sizeOf : GoodIn wsX1_insertLeaf (wsV RX1 75 RX1 yX1_sizeOf wsX1_sizeOf) := goodIn_app (goodIn_of _ (by decide +kernel)) ggX1_insertLeaf_X1_sizeOf
set_option maxRecDepth 20000 in
theorem ggX1_insertLeaf_X1_leafAt : GoodIn wsX1_insertLeaf wsX1_leafAt := goodIn_r _ [10, 11, 19, 20, 21, 22, 23, 24, 25, 26, 27] (by decide +kernel) (by decide +kernel)
set_option maxRecDepth 20000 in
theorem gX1_insertLeaf_X1_leafAt : GoodIn wsX1_insertLeaf (wsV RX1 79 RX1 yX1_leafAt wsX1_leafAt) := goodIn_app (goodIn_of _ (by decide +kernel)) ggX1_insertLeaf_X1_leafAt
set_option maxRecDepth 20000 in
theorem ggX1_insertLeaf_X1_setLeaf : GoodIn wsX1_insertLeaf wsX1_setLeaf := goodIn_r _ [15, 11, 19, 20, 21, 22, 23, 24, 25, 26, 27] (by decide +kernel) (by decide +kernel)
set_option maxRecDepth 20000 in
theorem gX1_insertLeaf_X1_setLeaf : GoodIn wsX1_insertLeaf (wsV RX1 83 RX1 yX1_setLeaf wsX1_setLeaf) := goodIn_app (goodIn_of _ (by decide +kernel)) ggX1_insertLeaf_X1_setLeaf
set_option maxRecDepth 20000 in
theorem ggX1_insertLeaf_X6_setCell : GoodIn wsX1_insertLeaf wsX6_setCell := goodIn_r _ [18] (by decide +kernel) (by decide +kernel)
set_option maxRecDepth 20000 in
theorem gX1_insertLeaf_X6_setCell_n63 : GoodIn wsX1_insertLeaf (wsX6_setCell) := ggX1_insertLeaf_X6_setCell
theorem dX1_insertLeaf_0 : decode cX1_insertLeaf 0 = .ok (.aload_n 0, 1) := by decide +kernel
theorem dX1_insertLeaf_1 : decode cX1_insertLeaf 1 = .ok (.iload_n 1, 1) := by decide +kernel
theorem dX1_insertLeaf_2 : decode cX1_insertLeaf 2 = .ok (.invokevirtual 75, 3) := by decide +kernel
theorem dX1_insertLeaf_5 : decode cX1_insertLeaf 5 = .ok (.istore 4, 2) := by decide +kernel
theorem dX1_insertLeaf_7 : decode cX1_insertLeaf 7 = .ok (.iload 4, 2) := by decide +kernel
theorem dX1_insertLeaf_9 : decode cX1_insertLeaf 9 = .ok (.istore 5, 2) := by decide +kernel
theorem dX1_insertLeaf_11 : decode cX1_insertLeaf 11 = .ok (.iload 5, 2) := by decide +kernel
theorem dX1_insertLeaf_13 : decode cX1_insertLeaf 13 = .ok (.iload_n 2, 1) := by decide +kernel
theorem dX1_insertLeaf_14 : decode cX1_insertLeaf 14 = .ok (.if_icmp .le 25, 3) := by decide +kernel
theorem dX1_insertLeaf_17 : decode cX1_insertLeaf 17 = .ok (.aload_n 0, 1) := by decide +kernel
theorem dX1_insertLeaf_18 : decode cX1_insertLeaf 18 = .ok (.iload_n 1, 1) := by decide +kernel
theorem dX1_insertLeaf_19 : decode cX1_insertLeaf 19 = .ok (.iload 5, 2) := by decide +kernel
theorem dX1_insertLeaf_21 : decode cX1_insertLeaf 21 = .ok (.aload_n 0, 1) := by decide +kernel
theorem dX1_insertLeaf_22 : decode cX1_insertLeaf 22 = .ok (.iload_n 1, 1) := by decide +kernel
theorem dX1_insertLeaf_23 : decode cX1_insertLeaf 23 = .ok (.iload 5, 2) := by decide +kernel
theorem dX1_insertLeaf_25 : decode cX1_insertLeaf 25 = .ok (.iconst 1, 1) := by decide +kernel
theorem dX1_insertLeaf_26 : decode cX1_insertLeaf 26 = .ok (.isub, 1) := by decide +kernel
theorem dX1_insertLeaf_27 : decode cX1_insertLeaf 27 = .ok (.invokevirtual 79, 3) := by decide +kernel
theorem dX1_insertLeaf_30 : decode cX1_insertLeaf 30 = .ok (.invokevirtual 83, 3) := by decide +kernel
theorem dX1_insertLeaf_33 : decode cX1_insertLeaf 33 = .ok (.iinc 5 (-1), 3) := by decide +kernel
theorem dX1_insertLeaf_36 : decode cX1_insertLeaf 36 = .ok (.goto (-25), 3) := by decide +kernel
theorem dX1_insertLeaf_39 : decode cX1_insertLeaf 39 = .ok (.aload_n 0, 1) := by decide +kernel
theorem dX1_insertLeaf_40 : decode cX1_insertLeaf 40 = .ok (.iload_n 1, 1) := by decide +kernel
theorem dX1_insertLeaf_41 : decode cX1_insertLeaf 41 = .ok (.iload_n 2, 1) := by decide +kernel
theorem dX1_insertLeaf_42 : decode cX1_insertLeaf 42 = .ok (.iload_n 3, 1) := by decide +kernel
theorem dX1_insertLeaf_43 : decode cX1_insertLeaf 43 = .ok (.invokevirtual 83, 3) := by decide +kernel
theorem dX1_insertLeaf_46 : decode cX1_insertLeaf 46 = .ok (.aload_n 0, 1) := by decide +kernel
theorem dX1_insertLeaf_47 : decode cX1_insertLeaf 47 = .ok (.getfield 18, 3) := by decide +kernel
theorem dX1_insertLeaf_50 : decode cX1_insertLeaf 50 = .ok (.iload_n 1, 1) := by decide +kernel
theorem dX1_insertLeaf_51 : decode cX1_insertLeaf 51 = .ok (.iload 4, 2) := by decide +kernel
theorem dX1_insertLeaf_53 : decode cX1_insertLeaf 53 = .ok (.iconst 1, 1) := by decide +kernel
theorem dX1_insertLeaf_54 : decode cX1_insertLeaf 54 = .ok (.iadd, 1) := by decide +kernel
theorem dX1_insertLeaf_55 : decode cX1_insertLeaf 55 = .ok (.invokestatic 63, 3) := by decide +kernel
theorem dX1_insertLeaf_58 : decode cX1_insertLeaf 58 = .ok (.return_, 1) := by decide +kernel
set_option maxRecDepth 20000 in
theorem ggX1_cutLeaf_X1_sizeOf : GoodIn wsX1_cutLeaf wsX1_sizeOf := goodIn_r _ [6, 1, 19, 20, 21, 22, 23, 24, 25, 26, 27] (by decide +kernel) (by decide +kernel)
set_option maxRecDepth 20000 in
theorem gX1_cutLeaf_X1_sizeOf : GoodIn wsX1_cutLeaf (wsV RX1 75 RX1 yX1_sizeOf wsX1_sizeOf) := goodIn_app (goodIn_of _ (by decide +kernel)) ggX1_cutLeaf_X1_sizeOf
set_option maxRecDepth 20000 in
theorem ggX1_cutLeaf_X1_leafAt : GoodIn wsX1_cutLeaf wsX1_leafAt := goodIn_r _ [10, 11, 19, 20, 21, 22, 23, 24, 25, 26, 27] (by decide +kernel) (by decide +kernel)
set_option maxRecDepth 20000 in
theorem gX1_cutLeaf_X1_leafAt : GoodIn wsX1_cutLeaf (wsV RX1 79 RX1 yX1_leafAt wsX1_leafAt) := goodIn_app (goodIn_of _ (by decide +kernel)) ggX1_cutLeaf_X1_leafAt
set_option maxRecDepth 20000 in
theorem ggX1_cutLeaf_X1_setLeaf : GoodIn wsX1_cutLeaf wsX1_setLeaf := goodIn_r _ [15, 11, 19, 20, 21, 22, 23, 24, 25, 26, 27] (by decide +kernel) (by decide +kernel)
set_option maxRecDepth 20000 in
theorem gX1_cutLeaf_X1_setLeaf : GoodIn wsX1_cutLeaf (wsV RX1 83 RX1 yX1_setLeaf wsX1_setLeaf) := goodIn_app (goodIn_of _ (by decide +kernel)) ggX1_cutLeaf_X1_setLeaf
set_option maxRecDepth 20000 in
theorem ggX1_cutLeaf_X6_setCell : GoodIn wsX1_cutLeaf wsX6_setCell := goodIn_r _ [18] (by decide +kernel) (by decide +kernel)
set_option maxRecDepth 20000 in
theorem gX1_cutLeaf_X6_setCell_n63 : GoodIn wsX1_cutLeaf (wsX6_setCell) := ggX1_cutLeaf_X6_setCell
theorem dX1_cutLeaf_0 : decode cX1_cutLeaf 0 = .ok (.aload_n 0, 1) := by decide +kernel
theorem dX1_cutLeaf_1 : decode cX1_cutLeaf 1 = .ok (.iload_n 1, 1) := by decide +kernel
theorem dX1_cutLeaf_2 : decode cX1_cutLeaf 2 = .ok (.invokevirtual 75, 3) := by decide +kernel
theorem dX1_cutLeaf_5 : decode cX1_cutLeaf 5 = .ok (.istore_n 3, 1) := by decide +kernel
theorem dX1_cutLeaf_6 : decode cX1_cutLeaf 6 = .ok (.iload_n 2, 1) := by decide +kernel
theorem dX1_cutLeaf_7 : decode cX1_cutLeaf 7 = .ok (.istore 4, 2) := by decide +kernel
theorem dX1_cutLeaf_9 : decode cX1_cutLeaf 9 = .ok (.iload 4, 2) := by decide +kernel
theorem dX1_cutLeaf_11 : decode cX1_cutLeaf 11 = .ok (.iload_n 3, 1) := by decide +kernel
theorem dX1_cutLeaf_12 : decode cX1_cutLeaf 12 = .ok (.iconst 1, 1) := by decide +kernel
theorem dX1_cutLeaf_13 : decode cX1_cutLeaf 13 = .ok (.isub, 1) := by decide +kernel
theorem dX1_cutLeaf_14 : decode cX1_cutLeaf 14 = .ok (.if_icmp .ge 25, 3) := by decide +kernel
theorem dX1_cutLeaf_17 : decode cX1_cutLeaf 17 = .ok (.aload_n 0, 1) := by decide +kernel
theorem dX1_cutLeaf_18 : decode cX1_cutLeaf 18 = .ok (.iload_n 1, 1) := by decide +kernel
theorem dX1_cutLeaf_19 : decode cX1_cutLeaf 19 = .ok (.iload 4, 2) := by decide +kernel
theorem dX1_cutLeaf_21 : decode cX1_cutLeaf 21 = .ok (.aload_n 0, 1) := by decide +kernel
theorem dX1_cutLeaf_22 : decode cX1_cutLeaf 22 = .ok (.iload_n 1, 1) := by decide +kernel
theorem dX1_cutLeaf_23 : decode cX1_cutLeaf 23 = .ok (.iload 4, 2) := by decide +kernel
theorem dX1_cutLeaf_25 : decode cX1_cutLeaf 25 = .ok (.iconst 1, 1) := by decide +kernel
theorem dX1_cutLeaf_26 : decode cX1_cutLeaf 26 = .ok (.iadd, 1) := by decide +kernel
theorem dX1_cutLeaf_27 : decode cX1_cutLeaf 27 = .ok (.invokevirtual 79, 3) := by decide +kernel
theorem dX1_cutLeaf_30 : decode cX1_cutLeaf 30 = .ok (.invokevirtual 83, 3) := by decide +kernel
theorem dX1_cutLeaf_33 : decode cX1_cutLeaf 33 = .ok (.iinc 4 1, 3) := by decide +kernel
theorem dX1_cutLeaf_36 : decode cX1_cutLeaf 36 = .ok (.goto (-27), 3) := by decide +kernel
theorem dX1_cutLeaf_39 : decode cX1_cutLeaf 39 = .ok (.aload_n 0, 1) := by decide +kernel
theorem dX1_cutLeaf_40 : decode cX1_cutLeaf 40 = .ok (.getfield 18, 3) := by decide +kernel
theorem dX1_cutLeaf_43 : decode cX1_cutLeaf 43 = .ok (.iload_n 1, 1) := by decide +kernel
theorem dX1_cutLeaf_44 : decode cX1_cutLeaf 44 = .ok (.iload_n 3, 1) := by decide +kernel
theorem dX1_cutLeaf_45 : decode cX1_cutLeaf 45 = .ok (.iconst 1, 1) := by decide +kernel
theorem dX1_cutLeaf_46 : decode cX1_cutLeaf 46 = .ok (.isub, 1) := by decide +kernel
theorem dX1_cutLeaf_47 : decode cX1_cutLeaf 47 = .ok (.invokestatic 63, 3) := by decide +kernel
theorem dX1_cutLeaf_50 : decode cX1_cutLeaf 50 = .ok (.return_, 1) := by decide +kernel
set_option maxRecDepth 20000 in
theorem ggX1_copyDirectory_X1_sizeOf : GoodIn wsX1_copyDirectory wsX1_sizeOf := goodIn_r _ [6, 1, 19, 20, 21, 22, 23, 24, 25, 26, 27] (by decide +kernel) (by decide +kernel)
set_option maxRecDepth 20000 in
theorem gX1_copyDirectory_X1_sizeOf : GoodIn wsX1_copyDirectory (wsV RX1 75 RX1 yX1_sizeOf wsX1_sizeOf) := goodIn_app (goodIn_of _ (by decide +kernel)) ggX1_copyDirectory_X1_sizeOf
set_option maxRecDepth 20000 in
theorem ggX1_copyDirectory_X1_leafAt : GoodIn wsX1_copyDirectory wsX1_leafAt := goodIn_r _ [10, 11, 19, 20, 21, 22, 23, 24, 25, 26, 27] (by decide +kernel) (by decide +kernel)
set_option maxRecDepth 20000 in
theorem gX1_copyDirectory_X1_leafAt : GoodIn wsX1_copyDirectory (wsV RX1 79 RX1 yX1_leafAt wsX1_leafAt) := goodIn_app (goodIn_of _ (by decide +kernel)) ggX1_copyDirectory_X1_leafAt
set_option maxRecDepth 20000 in
theorem ggX1_copyDirectory_X1_setLeaf : GoodIn wsX1_copyDirectory wsX1_setLeaf := goodIn_r _ [15, 11, 19, 20, 21, 22, 23, 24, 25, 26, 27] (by decide +kernel) (by decide +kernel)
set_option maxRecDepth 20000 in
theorem gX1_copyDirectory_X1_setLeaf : GoodIn wsX1_copyDirectory (wsV RX1 83 RX1 yX1_setLeaf wsX1_setLeaf) := goodIn_app (goodIn_of _ (by decide +kernel)) ggX1_copyDirectory_X1_setLeaf
set_option maxRecDepth 20000 in
theorem ggX1_copyDirectory_X6_setCell : GoodIn wsX1_copyDirectory wsX6_setCell := goodIn_r _ [18] (by decide +kernel) (by decide +kernel)
set_option maxRecDepth 20000 in
theorem gX1_copyDirectory_X6_setCell_n63 : GoodIn wsX1_copyDirectory (wsX6_setCell) := ggX1_copyDirectory_X6_setCell
theorem dX1_copyDirectory_0 : decode cX1_copyDirectory 0 = .ok (.aload_n 0, 1) := by decide +kernel
theorem dX1_copyDirectory_1 : decode cX1_copyDirectory 1 = .ok (.iload_n 1, 1) := by decide +kernel
theorem dX1_copyDirectory_2 : decode cX1_copyDirectory 2 = .ok (.invokevirtual 75, 3) := by decide +kernel
theorem dX1_copyDirectory_5 : decode cX1_copyDirectory 5 = .ok (.istore_n 3, 1) := by decide +kernel
theorem dX1_copyDirectory_6 : decode cX1_copyDirectory 6 = .ok (.iconst 0, 1) := by decide +kernel
theorem dX1_copyDirectory_7 : decode cX1_copyDirectory 7 = .ok (.istore 4, 2) := by decide +kernel
theorem dX1_copyDirectory_9 : decode cX1_copyDirectory 9 = .ok (.iload 4, 2) := by decide +kernel
theorem dX1_copyDirectory_11 : decode cX1_copyDirectory 11 = .ok (.iload_n 3, 1) := by decide +kernel
theorem dX1_copyDirectory_12 : decode cX1_copyDirectory 12 = .ok (.if_icmp .ge 23, 3) := by decide +kernel
theorem dX1_copyDirectory_15 : decode cX1_copyDirectory 15 = .ok (.aload_n 0, 1) := by decide +kernel
theorem dX1_copyDirectory_16 : decode cX1_copyDirectory 16 = .ok (.iload_n 2, 1) := by decide +kernel
theorem dX1_copyDirectory_17 : decode cX1_copyDirectory 17 = .ok (.iload 4, 2) := by decide +kernel
theorem dX1_copyDirectory_19 : decode cX1_copyDirectory 19 = .ok (.aload_n 0, 1) := by decide +kernel
theorem dX1_copyDirectory_20 : decode cX1_copyDirectory 20 = .ok (.iload_n 1, 1) := by decide +kernel
theorem dX1_copyDirectory_21 : decode cX1_copyDirectory 21 = .ok (.iload 4, 2) := by decide +kernel
theorem dX1_copyDirectory_23 : decode cX1_copyDirectory 23 = .ok (.invokevirtual 79, 3) := by decide +kernel
theorem dX1_copyDirectory_26 : decode cX1_copyDirectory 26 = .ok (.invokevirtual 83, 3) := by decide +kernel
theorem dX1_copyDirectory_29 : decode cX1_copyDirectory 29 = .ok (.iinc 4 1, 3) := by decide +kernel
theorem dX1_copyDirectory_32 : decode cX1_copyDirectory 32 = .ok (.goto (-23), 3) := by decide +kernel
theorem dX1_copyDirectory_35 : decode cX1_copyDirectory 35 = .ok (.aload_n 0, 1) := by decide +kernel
theorem dX1_copyDirectory_36 : decode cX1_copyDirectory 36 = .ok (.getfield 18, 3) := by decide +kernel
theorem dX1_copyDirectory_39 : decode cX1_copyDirectory 39 = .ok (.iload_n 2, 1) := by decide +kernel
theorem dX1_copyDirectory_40 : decode cX1_copyDirectory 40 = .ok (.iload_n 3, 1) := by decide +kernel
theorem dX1_copyDirectory_41 : decode cX1_copyDirectory 41 = .ok (.invokestatic 63, 3) := by decide +kernel
theorem dX1_copyDirectory_44 : decode cX1_copyDirectory 44 = .ok (.return_, 1) := by decide +kernel
set_option maxRecDepth 20000 in
theorem ggX1_leafPlace_X1_sizeOf : GoodIn wsX1_leafPlace wsX1_sizeOf := goodIn_r _ [5, 6, 17, 18, 19, 20, 21, 22, 23, 24, 25] (by decide +kernel) (by decide +kernel)
set_option maxRecDepth 20000 in
theorem gX1_leafPlace_X1_sizeOf : GoodIn wsX1_leafPlace (wsV RX1 75 RX1 yX1_sizeOf wsX1_sizeOf) := goodIn_app (goodIn_of _ (by decide +kernel)) ggX1_leafPlace_X1_sizeOf
set_option maxRecDepth 20000 in
theorem ggX1_leafPlace_X1_leafAt : GoodIn wsX1_leafPlace wsX1_leafAt := goodIn_r _ [10, 11, 17, 18, 19, 20, 21, 22, 23, 24, 25] (by decide +kernel) (by decide +kernel)
set_option maxRecDepth 20000 in
theorem gX1_leafPlace_X1_leafAt : GoodIn wsX1_leafPlace (wsV RX1 79 RX1 yX1_leafAt wsX1_leafAt) := goodIn_app (goodIn_of _ (by decide +kernel)) ggX1_leafPlace_X1_leafAt
set_option maxRecDepth 20000 in
theorem ggX1_leafPlace_X1_keyAt : GoodIn wsX1_leafPlace wsX1_keyAt := goodIn_r _ [15, 16, 17, 18, 19, 20, 21, 22, 23, 24, 25] (by decide +kernel) (by decide +kernel)
set_option maxRecDepth 20000 in
theorem gX1_leafPlace_X1_keyAt : GoodIn wsX1_leafPlace (wsV RX1 87 RX1 yX1_keyAt wsX1_keyAt) := goodIn_app (goodIn_of _ (by decide +kernel)) ggX1_leafPlace_X1_keyAt
theorem dX1_leafPlace_0 : decode cX1_leafPlace 0 = .ok (.aload_n 0, 1) := by decide +kernel
theorem dX1_leafPlace_1 : decode cX1_leafPlace 1 = .ok (.iload_n 1, 1) := by decide +kernel
theorem dX1_leafPlace_2 : decode cX1_leafPlace 2 = .ok (.invokevirtual 75, 3) := by decide +kernel
theorem dX1_leafPlace_5 : decode cX1_leafPlace 5 = .ok (.istore_n 3, 1) := by decide +kernel
theorem dX1_leafPlace_6 : decode cX1_leafPlace 6 = .ok (.iload_n 3, 1) := by decide +kernel
theorem dX1_leafPlace_7 : decode cX1_leafPlace 7 = .ok (.ifCond .le 7, 3) := by decide +kernel
theorem dX1_leafPlace_10 : decode cX1_leafPlace 10 = .ok (.iconst 0, 1) := by decide +kernel
theorem dX1_leafPlace_11 : decode cX1_leafPlace 11 = .ok (.goto 6, 3) := by decide +kernel
theorem dX1_leafPlace_14 : decode cX1_leafPlace 14 = .ok (.sipush (-1000), 3) := by decide +kernel
theorem dX1_leafPlace_17 : decode cX1_leafPlace 17 = .ok (.istore 4, 2) := by decide +kernel
theorem dX1_leafPlace_19 : decode cX1_leafPlace 19 = .ok (.iconst 1, 1) := by decide +kernel
theorem dX1_leafPlace_20 : decode cX1_leafPlace 20 = .ok (.istore 5, 2) := by decide +kernel
theorem dX1_leafPlace_22 : decode cX1_leafPlace 22 = .ok (.iload 5, 2) := by decide +kernel
theorem dX1_leafPlace_24 : decode cX1_leafPlace 24 = .ok (.iload_n 3, 1) := by decide +kernel
theorem dX1_leafPlace_25 : decode cX1_leafPlace 25 = .ok (.if_icmp .ge 29, 3) := by decide +kernel
theorem dX1_leafPlace_28 : decode cX1_leafPlace 28 = .ok (.aload_n 0, 1) := by decide +kernel
theorem dX1_leafPlace_29 : decode cX1_leafPlace 29 = .ok (.aload_n 0, 1) := by decide +kernel
theorem dX1_leafPlace_30 : decode cX1_leafPlace 30 = .ok (.iload_n 1, 1) := by decide +kernel
theorem dX1_leafPlace_31 : decode cX1_leafPlace 31 = .ok (.iload 5, 2) := by decide +kernel
theorem dX1_leafPlace_33 : decode cX1_leafPlace 33 = .ok (.invokevirtual 79, 3) := by decide +kernel
theorem dX1_leafPlace_36 : decode cX1_leafPlace 36 = .ok (.iconst 0, 1) := by decide +kernel
theorem dX1_leafPlace_37 : decode cX1_leafPlace 37 = .ok (.invokevirtual 87, 3) := by decide +kernel
theorem dX1_leafPlace_40 : decode cX1_leafPlace 40 = .ok (.iload_n 2, 1) := by decide +kernel
theorem dX1_leafPlace_41 : decode cX1_leafPlace 41 = .ok (.if_icmp .gt 7, 3) := by decide +kernel
theorem dX1_leafPlace_44 : decode cX1_leafPlace 44 = .ok (.iload 5, 2) := by decide +kernel
theorem dX1_leafPlace_46 : decode cX1_leafPlace 46 = .ok (.istore 4, 2) := by decide +kernel
theorem dX1_leafPlace_48 : decode cX1_leafPlace 48 = .ok (.iinc 5 1, 3) := by decide +kernel
theorem dX1_leafPlace_51 : decode cX1_leafPlace 51 = .ok (.goto (-29), 3) := by decide +kernel
theorem dX1_leafPlace_54 : decode cX1_leafPlace 54 = .ok (.iload 4, 2) := by decide +kernel
theorem dX1_leafPlace_56 : decode cX1_leafPlace 56 = .ok (.ireturn, 1) := by decide +kernel
set_option maxRecDepth 20000 in
theorem ggX1_valueIn_X1_leafPlace : GoodIn wsX1_valueIn wsX1_leafPlace := goodIn_r _ [5, 6, 7, 8, 4, 9, 10, 11, 12, 13, 14, 15, 16, 17, 18, 19, 20, 30, 31, 32, 33, 34, 35, 36, 37, 38] (by decide +kernel) (by decide +kernel)
set_option maxRecDepth 20000 in
theorem gX1_valueIn_X1_leafPlace : GoodIn wsX1_valueIn (wsV RX1 90 RX1 yX1_leafPlace wsX1_leafPlace) := goodIn_app (goodIn_of _ (by decide +kernel)) ggX1_valueIn_X1_leafPlace
set_option maxRecDepth 20000 in
theorem ggX1_valueIn_X1_leafAt : GoodIn wsX1_valueIn wsX1_leafAt := goodIn_r _ [14, 15, 30, 31, 32, 33, 34, 35, 36, 37, 38] (by decide +kernel) (by decide +kernel)
set_option maxRecDepth 20000 in
theorem gX1_valueIn_X1_leafAt : GoodIn wsX1_valueIn (wsV RX1 79 RX1 yX1_leafAt wsX1_leafAt) := goodIn_app (goodIn_of _ (by decide +kernel)) ggX1_valueIn_X1_leafAt
set_option maxRecDepth 20000 in
theorem ggX1_valueIn_X1_entryPlace : GoodIn wsX1_valueIn wsX1_entryPlace := goodIn_r _ [24, 6, 7, 8, 4, 9, 10, 16, 17, 18, 19, 20, 30, 31, 32, 33, 34, 35, 36, 37, 38] (by decide +kernel) (by decide +kernel)
set_option maxRecDepth 20000 in
theorem gX1_valueIn_X1_entryPlace : GoodIn wsX1_valueIn (wsV RX1 93 RX1 yX1_entryPlace wsX1_entryPlace) := goodIn_app (goodIn_of _ (by decide +kernel)) ggX1_valueIn_X1_entryPlace
set_option maxRecDepth 20000 in
theorem ggX1_valueIn_X1_valueAt : GoodIn wsX1_valueIn wsX1_valueAt := goodIn_r _ [28, 29, 30, 31, 32, 33, 34, 35, 36, 37, 38] (by decide +kernel) (by decide +kernel)
set_option maxRecDepth 20000 in
theorem gX1_valueIn_X1_valueAt : GoodIn wsX1_valueIn (wsV RX1 96 RX1 yX1_valueAt wsX1_valueAt) := goodIn_app (goodIn_of _ (by decide +kernel)) ggX1_valueIn_X1_valueAt
theorem dX1_valueIn_0 : decode cX1_valueIn 0 = .ok (.aload_n 0, 1) := by decide +kernel
theorem dX1_valueIn_1 : decode cX1_valueIn 1 = .ok (.iload_n 1, 1) := by decide +kernel
theorem dX1_valueIn_2 : decode cX1_valueIn 2 = .ok (.aload_n 0, 1) := by decide +kernel
theorem dX1_valueIn_3 : decode cX1_valueIn 3 = .ok (.iload_n 1, 1) := by decide +kernel
theorem dX1_valueIn_4 : decode cX1_valueIn 4 = .ok (.iload_n 2, 1) := by decide +kernel
theorem dX1_valueIn_5 : decode cX1_valueIn 5 = .ok (.invokevirtual 90, 3) := by decide +kernel
theorem dX1_valueIn_8 : decode cX1_valueIn 8 = .ok (.invokevirtual 79, 3) := by decide +kernel
theorem dX1_valueIn_11 : decode cX1_valueIn 11 = .ok (.istore_n 3, 1) := by decide +kernel
theorem dX1_valueIn_12 : decode cX1_valueIn 12 = .ok (.aload_n 0, 1) := by decide +kernel
theorem dX1_valueIn_13 : decode cX1_valueIn 13 = .ok (.iload_n 3, 1) := by decide +kernel
theorem dX1_valueIn_14 : decode cX1_valueIn 14 = .ok (.aload_n 0, 1) := by decide +kernel
theorem dX1_valueIn_15 : decode cX1_valueIn 15 = .ok (.iload_n 3, 1) := by decide +kernel
theorem dX1_valueIn_16 : decode cX1_valueIn 16 = .ok (.iload_n 2, 1) := by decide +kernel
theorem dX1_valueIn_17 : decode cX1_valueIn 17 = .ok (.invokevirtual 93, 3) := by decide +kernel
theorem dX1_valueIn_20 : decode cX1_valueIn 20 = .ok (.invokevirtual 96, 3) := by decide +kernel
theorem dX1_valueIn_23 : decode cX1_valueIn 23 = .ok (.ireturn, 1) := by decide +kernel
set_option maxRecDepth 20000 in
theorem ggX1_entriesIn_X1_sizeOf : GoodIn wsX1_entriesIn wsX1_sizeOf := goodIn_r _ [5, 6, 12, 13, 14, 15, 16, 17, 18, 19, 20] (by decide +kernel) (by decide +kernel)
set_option maxRecDepth 20000 in
theorem gX1_entriesIn_X1_sizeOf : GoodIn wsX1_entriesIn (wsV RX1 75 RX1 yX1_sizeOf wsX1_sizeOf) := goodIn_app (goodIn_of _ (by decide +kernel)) ggX1_entriesIn_X1_sizeOf
set_option maxRecDepth 20000 in
theorem ggX1_entriesIn_X1_leafAt : GoodIn wsX1_entriesIn wsX1_leafAt := goodIn_r _ [10, 11, 12, 13, 14, 15, 16, 17, 18, 19, 20] (by decide +kernel) (by decide +kernel)
set_option maxRecDepth 20000 in
theorem gX1_entriesIn_X1_leafAt : GoodIn wsX1_entriesIn (wsV RX1 79 RX1 yX1_leafAt wsX1_leafAt) := goodIn_app (goodIn_of _ (by decide +kernel)) ggX1_entriesIn_X1_leafAt
theorem dX1_entriesIn_0 : decode cX1_entriesIn 0 = .ok (.iconst 0, 1) := by decide +kernel
theorem dX1_entriesIn_1 : decode cX1_entriesIn 1 = .ok (.istore_n 2, 1) := by decide +kernel
theorem dX1_entriesIn_2 : decode cX1_entriesIn 2 = .ok (.aload_n 0, 1) := by decide +kernel
theorem dX1_entriesIn_3 : decode cX1_entriesIn 3 = .ok (.iload_n 1, 1) := by decide +kernel
theorem dX1_entriesIn_4 : decode cX1_entriesIn 4 = .ok (.invokevirtual 75, 3) := by decide +kernel
theorem dX1_entriesIn_7 : decode cX1_entriesIn 7 = .ok (.istore_n 3, 1) := by decide +kernel
theorem dX1_entriesIn_8 : decode cX1_entriesIn 8 = .ok (.iconst 0, 1) := by decide +kernel
theorem dX1_entriesIn_9 : decode cX1_entriesIn 9 = .ok (.istore 4, 2) := by decide +kernel
theorem dX1_entriesIn_11 : decode cX1_entriesIn 11 = .ok (.iload 4, 2) := by decide +kernel
theorem dX1_entriesIn_13 : decode cX1_entriesIn 13 = .ok (.iload_n 3, 1) := by decide +kernel
theorem dX1_entriesIn_14 : decode cX1_entriesIn 14 = .ok (.if_icmp .ge 23, 3) := by decide +kernel
theorem dX1_entriesIn_17 : decode cX1_entriesIn 17 = .ok (.iload_n 2, 1) := by decide +kernel
theorem dX1_entriesIn_18 : decode cX1_entriesIn 18 = .ok (.aload_n 0, 1) := by decide +kernel
theorem dX1_entriesIn_19 : decode cX1_entriesIn 19 = .ok (.aload_n 0, 1) := by decide +kernel
theorem dX1_entriesIn_20 : decode cX1_entriesIn 20 = .ok (.iload_n 1, 1) := by decide +kernel
theorem dX1_entriesIn_21 : decode cX1_entriesIn 21 = .ok (.iload 4, 2) := by decide +kernel
theorem dX1_entriesIn_23 : decode cX1_entriesIn 23 = .ok (.invokevirtual 79, 3) := by decide +kernel
theorem dX1_entriesIn_26 : decode cX1_entriesIn 26 = .ok (.invokevirtual 75, 3) := by decide +kernel
theorem dX1_entriesIn_29 : decode cX1_entriesIn 29 = .ok (.iadd, 1) := by decide +kernel
theorem dX1_entriesIn_30 : decode cX1_entriesIn 30 = .ok (.istore_n 2, 1) := by decide +kernel
theorem dX1_entriesIn_31 : decode cX1_entriesIn 31 = .ok (.iinc 4 1, 3) := by decide +kernel
theorem dX1_entriesIn_34 : decode cX1_entriesIn 34 = .ok (.goto (-23), 3) := by decide +kernel
theorem dX1_entriesIn_37 : decode cX1_entriesIn 37 = .ok (.iload_n 2, 1) := by decide +kernel
theorem dX1_entriesIn_38 : decode cX1_entriesIn 38 = .ok (.ireturn, 1) := by decide +kernel
set_option maxRecDepth 20000 in
theorem ggX1_sumIn_X1_sizeOf : GoodIn wsX1_sumIn wsX1_sizeOf := goodIn_r _ [5, 6, 21, 22, 23, 24, 25, 26, 27, 28, 29] (by decide +kernel) (by decide +kernel)
set_option maxRecDepth 20000 in
theorem gX1_sumIn_X1_sizeOf : GoodIn wsX1_sumIn (wsV RX1 75 RX1 yX1_sizeOf wsX1_sizeOf) := goodIn_app (goodIn_of _ (by decide +kernel)) ggX1_sumIn_X1_sizeOf
set_option maxRecDepth 20000 in
theorem ggX1_sumIn_X1_leafAt : GoodIn wsX1_sumIn wsX1_leafAt := goodIn_r _ [10, 11, 21, 22, 23, 24, 25, 26, 27, 28, 29] (by decide +kernel) (by decide +kernel)
set_option maxRecDepth 20000 in
theorem gX1_sumIn_X1_leafAt : GoodIn wsX1_sumIn (wsV RX1 79 RX1 yX1_leafAt wsX1_leafAt) := goodIn_app (goodIn_of _ (by decide +kernel)) ggX1_sumIn_X1_leafAt
set_option maxRecDepth 20000 in
theorem ggX1_sumIn_X1_sumOfLeaf : GoodIn wsX1_sumIn wsX1_sumOfLeaf := goodIn_r _ [15, 1, 2, 3, 4, 5, 6, 16, 17, 18, 19, 20, 21, 22, 23, 24, 25, 26, 27, 28, 29] (by decide +kernel) (by decide +kernel)
set_option maxRecDepth 20000 in
theorem gX1_sumIn_X1_sumOfLeaf : GoodIn wsX1_sumIn (wsV RX1 99 RX1 yX1_sumOfLeaf wsX1_sumOfLeaf) := goodIn_app (goodIn_of _ (by decide +kernel)) ggX1_sumIn_X1_sumOfLeaf
theorem dX1_sumIn_0 : decode cX1_sumIn 0 = .ok (.iconst 0, 1) := by decide +kernel
theorem dX1_sumIn_1 : decode cX1_sumIn 1 = .ok (.istore_n 2, 1) := by decide +kernel
theorem dX1_sumIn_2 : decode cX1_sumIn 2 = .ok (.aload_n 0, 1) := by decide +kernel
theorem dX1_sumIn_3 : decode cX1_sumIn 3 = .ok (.iload_n 1, 1) := by decide +kernel
theorem dX1_sumIn_4 : decode cX1_sumIn 4 = .ok (.invokevirtual 75, 3) := by decide +kernel
theorem dX1_sumIn_7 : decode cX1_sumIn 7 = .ok (.istore_n 3, 1) := by decide +kernel
theorem dX1_sumIn_8 : decode cX1_sumIn 8 = .ok (.iconst 0, 1) := by decide +kernel
theorem dX1_sumIn_9 : decode cX1_sumIn 9 = .ok (.istore 4, 2) := by decide +kernel
theorem dX1_sumIn_11 : decode cX1_sumIn 11 = .ok (.iload 4, 2) := by decide +kernel
theorem dX1_sumIn_13 : decode cX1_sumIn 13 = .ok (.iload_n 3, 1) := by decide +kernel
theorem dX1_sumIn_14 : decode cX1_sumIn 14 = .ok (.if_icmp .ge 23, 3) := by decide +kernel
theorem dX1_sumIn_17 : decode cX1_sumIn 17 = .ok (.iload_n 2, 1) := by decide +kernel
theorem dX1_sumIn_18 : decode cX1_sumIn 18 = .ok (.aload_n 0, 1) := by decide +kernel
theorem dX1_sumIn_19 : decode cX1_sumIn 19 = .ok (.aload_n 0, 1) := by decide +kernel
theorem dX1_sumIn_20 : decode cX1_sumIn 20 = .ok (.iload_n 1, 1) := by decide +kernel
theorem dX1_sumIn_21 : decode cX1_sumIn 21 = .ok (.iload 4, 2) := by decide +kernel
theorem dX1_sumIn_23 : decode cX1_sumIn 23 = .ok (.invokevirtual 79, 3) := by decide +kernel
theorem dX1_sumIn_26 : decode cX1_sumIn 26 = .ok (.invokevirtual 99, 3) := by decide +kernel
theorem dX1_sumIn_29 : decode cX1_sumIn 29 = .ok (.iadd, 1) := by decide +kernel
theorem dX1_sumIn_30 : decode cX1_sumIn 30 = .ok (.istore_n 2, 1) := by decide +kernel
theorem dX1_sumIn_31 : decode cX1_sumIn 31 = .ok (.iinc 4 1, 3) := by decide +kernel
theorem dX1_sumIn_34 : decode cX1_sumIn 34 = .ok (.goto (-23), 3) := by decide +kernel
theorem dX1_sumIn_37 : decode cX1_sumIn 37 = .ok (.iload_n 2, 1) := by decide +kernel
theorem dX1_sumIn_38 : decode cX1_sumIn 38 = .ok (.ireturn, 1) := by decide +kernel
set_option maxRecDepth 20000 in
theorem ggX1_entryPartIn_X1_sizeOf : GoodIn wsX1_entryPartIn wsX1_sizeOf := goodIn_r _ [5, 6, 26, 27, 28, 29, 30, 31, 32, 33, 34] (by decide +kernel) (by decide +kernel)
set_option maxRecDepth 20000 in
theorem gX1_entryPartIn_X1_sizeOf : GoodIn wsX1_entryPartIn (wsV RX1 75 RX1 yX1_sizeOf wsX1_sizeOf) := goodIn_app (goodIn_of _ (by decide +kernel)) ggX1_entryPartIn_X1_sizeOf
set_option maxRecDepth 20000 in
theorem ggX1_entryPartIn_X1_leafAt : GoodIn wsX1_entryPartIn wsX1_leafAt := goodIn_r _ [10, 11, 26, 27, 28, 29, 30, 31, 32, 33, 34] (by decide +kernel) (by decide +kernel)
set_option maxRecDepth 20000 in
theorem gX1_entryPartIn_X1_leafAt : GoodIn wsX1_entryPartIn (wsV RX1 79 RX1 yX1_leafAt wsX1_leafAt) := goodIn_app (goodIn_of _ (by decide +kernel)) ggX1_entryPartIn_X1_leafAt
set_option maxRecDepth 20000 in
theorem ggX1_entryPartIn_X1_leafPart : GoodIn wsX1_entryPartIn wsX1_leafPart := goodIn_r _ [15, 16, 17, 18, 4, 19, 20, 21, 22, 23, 24, 25, 26, 27, 28, 29, 30, 31, 32, 33, 34] (by decide +kernel) (by decide +kernel)
set_option maxRecDepth 20000 in
theorem gX1_entryPartIn_X1_leafPart : GoodIn wsX1_entryPartIn (wsV RX1 102 RX1 yX1_leafPart wsX1_leafPart) := goodIn_app (goodIn_of _ (by decide +kernel)) ggX1_entryPartIn_X1_leafPart
theorem dX1_entryPartIn_0 : decode cX1_entryPartIn 0 = .ok (.iload_n 2, 1) := by decide +kernel
theorem dX1_entryPartIn_1 : decode cX1_entryPartIn 1 = .ok (.istore 4, 2) := by decide +kernel
theorem dX1_entryPartIn_3 : decode cX1_entryPartIn 3 = .ok (.aload_n 0, 1) := by decide +kernel
theorem dX1_entryPartIn_4 : decode cX1_entryPartIn 4 = .ok (.iload_n 1, 1) := by decide +kernel
theorem dX1_entryPartIn_5 : decode cX1_entryPartIn 5 = .ok (.invokevirtual 75, 3) := by decide +kernel
theorem dX1_entryPartIn_8 : decode cX1_entryPartIn 8 = .ok (.istore 5, 2) := by decide +kernel
theorem dX1_entryPartIn_10 : decode cX1_entryPartIn 10 = .ok (.iconst 0, 1) := by decide +kernel
theorem dX1_entryPartIn_11 : decode cX1_entryPartIn 11 = .ok (.istore 6, 2) := by decide +kernel
theorem dX1_entryPartIn_13 : decode cX1_entryPartIn 13 = .ok (.iload 6, 2) := by decide +kernel
theorem dX1_entryPartIn_15 : decode cX1_entryPartIn 15 = .ok (.iload 5, 2) := by decide +kernel
theorem dX1_entryPartIn_17 : decode cX1_entryPartIn 17 = .ok (.if_icmp .ge 50, 3) := by decide +kernel
theorem dX1_entryPartIn_20 : decode cX1_entryPartIn 20 = .ok (.aload_n 0, 1) := by decide +kernel
theorem dX1_entryPartIn_21 : decode cX1_entryPartIn 21 = .ok (.iload_n 1, 1) := by decide +kernel
theorem dX1_entryPartIn_22 : decode cX1_entryPartIn 22 = .ok (.iload 6, 2) := by decide +kernel
theorem dX1_entryPartIn_24 : decode cX1_entryPartIn 24 = .ok (.invokevirtual 79, 3) := by decide +kernel
theorem dX1_entryPartIn_27 : decode cX1_entryPartIn 27 = .ok (.istore 7, 2) := by decide +kernel
theorem dX1_entryPartIn_29 : decode cX1_entryPartIn 29 = .ok (.iload 4, 2) := by decide +kernel
theorem dX1_entryPartIn_31 : decode cX1_entryPartIn 31 = .ok (.aload_n 0, 1) := by decide +kernel
theorem dX1_entryPartIn_32 : decode cX1_entryPartIn 32 = .ok (.iload 7, 2) := by decide +kernel
theorem dX1_entryPartIn_34 : decode cX1_entryPartIn 34 = .ok (.invokevirtual 75, 3) := by decide +kernel
theorem dX1_entryPartIn_37 : decode cX1_entryPartIn 37 = .ok (.if_icmp .ge 13, 3) := by decide +kernel
theorem dX1_entryPartIn_40 : decode cX1_entryPartIn 40 = .ok (.aload_n 0, 1) := by decide +kernel
theorem dX1_entryPartIn_41 : decode cX1_entryPartIn 41 = .ok (.iload 7, 2) := by decide +kernel
theorem dX1_entryPartIn_43 : decode cX1_entryPartIn 43 = .ok (.iload 4, 2) := by decide +kernel
theorem dX1_entryPartIn_45 : decode cX1_entryPartIn 45 = .ok (.iload_n 3, 1) := by decide +kernel
theorem dX1_entryPartIn_46 : decode cX1_entryPartIn 46 = .ok (.invokevirtual 102, 3) := by decide +kernel
theorem dX1_entryPartIn_49 : decode cX1_entryPartIn 49 = .ok (.ireturn, 1) := by decide +kernel
theorem dX1_entryPartIn_50 : decode cX1_entryPartIn 50 = .ok (.iload 4, 2) := by decide +kernel
theorem dX1_entryPartIn_52 : decode cX1_entryPartIn 52 = .ok (.aload_n 0, 1) := by decide +kernel
theorem dX1_entryPartIn_53 : decode cX1_entryPartIn 53 = .ok (.iload 7, 2) := by decide +kernel
theorem dX1_entryPartIn_55 : decode cX1_entryPartIn 55 = .ok (.invokevirtual 75, 3) := by decide +kernel
theorem dX1_entryPartIn_58 : decode cX1_entryPartIn 58 = .ok (.isub, 1) := by decide +kernel
theorem dX1_entryPartIn_59 : decode cX1_entryPartIn 59 = .ok (.istore 4, 2) := by decide +kernel
theorem dX1_entryPartIn_61 : decode cX1_entryPartIn 61 = .ok (.iinc 6 1, 3) := by decide +kernel
theorem dX1_entryPartIn_64 : decode cX1_entryPartIn 64 = .ok (.goto (-51), 3) := by decide +kernel
theorem dX1_entryPartIn_67 : decode cX1_entryPartIn 67 = .ok (.sipush (-1000), 3) := by decide +kernel
theorem dX1_entryPartIn_70 : decode cX1_entryPartIn 70 = .ok (.ireturn, 1) := by decide +kernel
theorem dX1_keyAt_0 : decode cX1_keyAt 0 = .ok (.iload_n 1, 1) := by decide +kernel
theorem dX1_keyAt_1 : decode cX1_keyAt 1 = .ok (.iconst 5, 1) := by decide +kernel
theorem dX1_keyAt_2 : decode cX1_keyAt 2 = .ok (.imul, 1) := by decide +kernel
theorem dX1_keyAt_3 : decode cX1_keyAt 3 = .ok (.iload_n 2, 1) := by decide +kernel
theorem dX1_keyAt_4 : decode cX1_keyAt 4 = .ok (.iadd, 1) := by decide +kernel
theorem dX1_keyAt_5 : decode cX1_keyAt 5 = .ok (.istore_n 3, 1) := by decide +kernel
theorem dX1_keyAt_6 : decode cX1_keyAt 6 = .ok (.iload_n 2, 1) := by decide +kernel
theorem dX1_keyAt_7 : decode cX1_keyAt 7 = .ok (.ifCond .lt 30, 3) := by decide +kernel
theorem dX1_keyAt_10 : decode cX1_keyAt 10 = .ok (.iload_n 2, 1) := by decide +kernel
theorem dX1_keyAt_11 : decode cX1_keyAt 11 = .ok (.iconst 5, 1) := by decide +kernel
theorem dX1_keyAt_12 : decode cX1_keyAt 12 = .ok (.if_icmp .ge 25, 3) := by decide +kernel
theorem dX1_keyAt_15 : decode cX1_keyAt 15 = .ok (.iload_n 3, 1) := by decide +kernel
theorem dX1_keyAt_16 : decode cX1_keyAt 16 = .ok (.ifCond .lt 21, 3) := by decide +kernel
theorem dX1_keyAt_19 : decode cX1_keyAt 19 = .ok (.iload_n 3, 1) := by decide +kernel
theorem dX1_keyAt_20 : decode cX1_keyAt 20 = .ok (.aload_n 0, 1) := by decide +kernel
theorem dX1_keyAt_21 : decode cX1_keyAt 21 = .ok (.getfield 30, 3) := by decide +kernel
theorem dX1_keyAt_24 : decode cX1_keyAt 24 = .ok (.arraylength, 1) := by decide +kernel
theorem dX1_keyAt_25 : decode cX1_keyAt 25 = .ok (.if_icmp .ge 12, 3) := by decide +kernel
theorem dX1_keyAt_28 : decode cX1_keyAt 28 = .ok (.aload_n 0, 1) := by decide +kernel
theorem dX1_keyAt_29 : decode cX1_keyAt 29 = .ok (.getfield 30, 3) := by decide +kernel
theorem dX1_keyAt_32 : decode cX1_keyAt 32 = .ok (.iload_n 3, 1) := by decide +kernel
theorem dX1_keyAt_33 : decode cX1_keyAt 33 = .ok (.iaload, 1) := by decide +kernel
theorem dX1_keyAt_34 : decode cX1_keyAt 34 = .ok (.goto 6, 3) := by decide +kernel
theorem dX1_keyAt_37 : decode cX1_keyAt 37 = .ok (.sipush (-1000), 3) := by decide +kernel
theorem dX1_keyAt_40 : decode cX1_keyAt 40 = .ok (.ireturn, 1) := by decide +kernel
theorem dX1_valueAt_0 : decode cX1_valueAt 0 = .ok (.iload_n 1, 1) := by decide +kernel
theorem dX1_valueAt_1 : decode cX1_valueAt 1 = .ok (.iconst 5, 1) := by decide +kernel
theorem dX1_valueAt_2 : decode cX1_valueAt 2 = .ok (.imul, 1) := by decide +kernel
theorem dX1_valueAt_3 : decode cX1_valueAt 3 = .ok (.iload_n 2, 1) := by decide +kernel
theorem dX1_valueAt_4 : decode cX1_valueAt 4 = .ok (.iadd, 1) := by decide +kernel
theorem dX1_valueAt_5 : decode cX1_valueAt 5 = .ok (.istore_n 3, 1) := by decide +kernel
theorem dX1_valueAt_6 : decode cX1_valueAt 6 = .ok (.iload_n 2, 1) := by decide +kernel
theorem dX1_valueAt_7 : decode cX1_valueAt 7 = .ok (.ifCond .lt 30, 3) := by decide +kernel
theorem dX1_valueAt_10 : decode cX1_valueAt 10 = .ok (.iload_n 2, 1) := by decide +kernel
theorem dX1_valueAt_11 : decode cX1_valueAt 11 = .ok (.iconst 5, 1) := by decide +kernel
theorem dX1_valueAt_12 : decode cX1_valueAt 12 = .ok (.if_icmp .ge 25, 3) := by decide +kernel
theorem dX1_valueAt_15 : decode cX1_valueAt 15 = .ok (.iload_n 3, 1) := by decide +kernel
theorem dX1_valueAt_16 : decode cX1_valueAt 16 = .ok (.ifCond .lt 21, 3) := by decide +kernel
theorem dX1_valueAt_19 : decode cX1_valueAt 19 = .ok (.iload_n 3, 1) := by decide +kernel
theorem dX1_valueAt_20 : decode cX1_valueAt 20 = .ok (.aload_n 0, 1) := by decide +kernel
theorem dX1_valueAt_21 : decode cX1_valueAt 21 = .ok (.getfield 33, 3) := by decide +kernel
theorem dX1_valueAt_24 : decode cX1_valueAt 24 = .ok (.arraylength, 1) := by decide +kernel
theorem dX1_valueAt_25 : decode cX1_valueAt 25 = .ok (.if_icmp .ge 12, 3) := by decide +kernel
theorem dX1_valueAt_28 : decode cX1_valueAt 28 = .ok (.aload_n 0, 1) := by decide +kernel
theorem dX1_valueAt_29 : decode cX1_valueAt 29 = .ok (.getfield 33, 3) := by decide +kernel
theorem dX1_valueAt_32 : decode cX1_valueAt 32 = .ok (.iload_n 3, 1) := by decide +kernel
theorem dX1_valueAt_33 : decode cX1_valueAt 33 = .ok (.iaload, 1) := by decide +kernel
theorem dX1_valueAt_34 : decode cX1_valueAt 34 = .ok (.goto 6, 3) := by decide +kernel
theorem dX1_valueAt_37 : decode cX1_valueAt 37 = .ok (.sipush (-1000), 3) := by decide +kernel
theorem dX1_valueAt_40 : decode cX1_valueAt 40 = .ok (.ireturn, 1) := by decide +kernel
set_option maxRecDepth 20000 in
theorem ggX1_leafPart_X1_keyAt : GoodIn wsX1_leafPart wsX1_keyAt := goodIn_r _ [5, 6, 12, 13, 14, 15, 16, 17, 18, 19, 20] (by decide +kernel) (by decide +kernel)
set_option maxRecDepth 20000 in
theorem gX1_leafPart_X1_keyAt : GoodIn wsX1_leafPart (wsV RX1 87 RX1 yX1_keyAt wsX1_keyAt) := goodIn_app (goodIn_of _ (by decide +kernel)) ggX1_leafPart_X1_keyAt
set_option maxRecDepth 20000 in
theorem ggX1_leafPart_X1_valueAt : GoodIn wsX1_leafPart wsX1_valueAt := goodIn_r _ [10, 11, 12, 13, 14, 15, 16, 17, 18, 19, 20] (by decide +kernel) (by decide +kernel)
set_option maxRecDepth 20000 in
theorem gX1_leafPart_X1_valueAt : GoodIn wsX1_leafPart (wsV RX1 96 RX1 yX1_valueAt wsX1_valueAt) := goodIn_app (goodIn_of _ (by decide +kernel)) ggX1_leafPart_X1_valueAt
theorem dX1_leafPart_0 : decode cX1_leafPart 0 = .ok (.iload_n 3, 1) := by decide +kernel
theorem dX1_leafPart_1 : decode cX1_leafPart 1 = .ok (.tableswitch 49 0 3 #[31, 38, 45, 47], 31) := by decide +kernel
theorem dX1_leafPart_32 : decode cX1_leafPart 32 = .ok (.aload_n 0, 1) := by decide +kernel
theorem dX1_leafPart_33 : decode cX1_leafPart 33 = .ok (.iload_n 1, 1) := by decide +kernel
theorem dX1_leafPart_34 : decode cX1_leafPart 34 = .ok (.iload_n 2, 1) := by decide +kernel
theorem dX1_leafPart_35 : decode cX1_leafPart 35 = .ok (.invokevirtual 87, 3) := by decide +kernel
theorem dX1_leafPart_38 : decode cX1_leafPart 38 = .ok (.ireturn, 1) := by decide +kernel
theorem dX1_leafPart_39 : decode cX1_leafPart 39 = .ok (.aload_n 0, 1) := by decide +kernel
theorem dX1_leafPart_40 : decode cX1_leafPart 40 = .ok (.iload_n 1, 1) := by decide +kernel
theorem dX1_leafPart_41 : decode cX1_leafPart 41 = .ok (.iload_n 2, 1) := by decide +kernel
theorem dX1_leafPart_42 : decode cX1_leafPart 42 = .ok (.invokevirtual 96, 3) := by decide +kernel
theorem dX1_leafPart_45 : decode cX1_leafPart 45 = .ok (.ireturn, 1) := by decide +kernel
theorem dX1_leafPart_46 : decode cX1_leafPart 46 = .ok (.iload_n 1, 1) := by decide +kernel
theorem dX1_leafPart_47 : decode cX1_leafPart 47 = .ok (.ireturn, 1) := by decide +kernel
theorem dX1_leafPart_48 : decode cX1_leafPart 48 = .ok (.iload_n 2, 1) := by decide +kernel
theorem dX1_leafPart_49 : decode cX1_leafPart 49 = .ok (.ireturn, 1) := by decide +kernel
theorem dX1_leafPart_50 : decode cX1_leafPart 50 = .ok (.sipush (-1000), 3) := by decide +kernel
theorem dX1_leafPart_53 : decode cX1_leafPart 53 = .ok (.ireturn, 1) := by decide +kernel
set_option maxRecDepth 20000 in
theorem ggX1_sumOfLeaf_X1_sizeOf : GoodIn wsX1_sumOfLeaf wsX1_sizeOf := goodIn_r _ [5, 6, 12, 13, 14, 15, 16, 17, 18, 19, 20] (by decide +kernel) (by decide +kernel)
set_option maxRecDepth 20000 in
theorem gX1_sumOfLeaf_X1_sizeOf : GoodIn wsX1_sumOfLeaf (wsV RX1 75 RX1 yX1_sizeOf wsX1_sizeOf) := goodIn_app (goodIn_of _ (by decide +kernel)) ggX1_sumOfLeaf_X1_sizeOf
set_option maxRecDepth 20000 in
theorem ggX1_sumOfLeaf_X1_valueAt : GoodIn wsX1_sumOfLeaf wsX1_valueAt := goodIn_r _ [10, 11, 12, 13, 14, 15, 16, 17, 18, 19, 20] (by decide +kernel) (by decide +kernel)
set_option maxRecDepth 20000 in
theorem gX1_sumOfLeaf_X1_valueAt : GoodIn wsX1_sumOfLeaf (wsV RX1 96 RX1 yX1_valueAt wsX1_valueAt) := goodIn_app (goodIn_of _ (by decide +kernel)) ggX1_sumOfLeaf_X1_valueAt
theorem dX1_sumOfLeaf_0 : decode cX1_sumOfLeaf 0 = .ok (.iconst 0, 1) := by decide +kernel
theorem dX1_sumOfLeaf_1 : decode cX1_sumOfLeaf 1 = .ok (.istore_n 2, 1) := by decide +kernel
theorem dX1_sumOfLeaf_2 : decode cX1_sumOfLeaf 2 = .ok (.aload_n 0, 1) := by decide +kernel
theorem dX1_sumOfLeaf_3 : decode cX1_sumOfLeaf 3 = .ok (.iload_n 1, 1) := by decide +kernel
theorem dX1_sumOfLeaf_4 : decode cX1_sumOfLeaf 4 = .ok (.invokevirtual 75, 3) := by decide +kernel
theorem dX1_sumOfLeaf_7 : decode cX1_sumOfLeaf 7 = .ok (.istore_n 3, 1) := by decide +kernel
theorem dX1_sumOfLeaf_8 : decode cX1_sumOfLeaf 8 = .ok (.iconst 0, 1) := by decide +kernel
theorem dX1_sumOfLeaf_9 : decode cX1_sumOfLeaf 9 = .ok (.istore 4, 2) := by decide +kernel
theorem dX1_sumOfLeaf_11 : decode cX1_sumOfLeaf 11 = .ok (.iload 4, 2) := by decide +kernel
theorem dX1_sumOfLeaf_13 : decode cX1_sumOfLeaf 13 = .ok (.iload_n 3, 1) := by decide +kernel
theorem dX1_sumOfLeaf_14 : decode cX1_sumOfLeaf 14 = .ok (.if_icmp .ge 19, 3) := by decide +kernel
theorem dX1_sumOfLeaf_17 : decode cX1_sumOfLeaf 17 = .ok (.iload_n 2, 1) := by decide +kernel
theorem dX1_sumOfLeaf_18 : decode cX1_sumOfLeaf 18 = .ok (.aload_n 0, 1) := by decide +kernel
theorem dX1_sumOfLeaf_19 : decode cX1_sumOfLeaf 19 = .ok (.iload_n 1, 1) := by decide +kernel
theorem dX1_sumOfLeaf_20 : decode cX1_sumOfLeaf 20 = .ok (.iload 4, 2) := by decide +kernel
theorem dX1_sumOfLeaf_22 : decode cX1_sumOfLeaf 22 = .ok (.invokevirtual 96, 3) := by decide +kernel
theorem dX1_sumOfLeaf_25 : decode cX1_sumOfLeaf 25 = .ok (.iadd, 1) := by decide +kernel
theorem dX1_sumOfLeaf_26 : decode cX1_sumOfLeaf 26 = .ok (.istore_n 2, 1) := by decide +kernel
theorem dX1_sumOfLeaf_27 : decode cX1_sumOfLeaf 27 = .ok (.iinc 4 1, 3) := by decide +kernel
theorem dX1_sumOfLeaf_30 : decode cX1_sumOfLeaf 30 = .ok (.goto (-19), 3) := by decide +kernel
theorem dX1_sumOfLeaf_33 : decode cX1_sumOfLeaf 33 = .ok (.iload_n 2, 1) := by decide +kernel
theorem dX1_sumOfLeaf_34 : decode cX1_sumOfLeaf 34 = .ok (.ireturn, 1) := by decide +kernel
set_option maxRecDepth 20000 in
theorem ggX1_entryPlace_X1_sizeOf : GoodIn wsX1_entryPlace wsX1_sizeOf := goodIn_r _ [5, 6, 12, 13, 14, 15, 16, 17, 18, 19, 20] (by decide +kernel) (by decide +kernel)
set_option maxRecDepth 20000 in
theorem gX1_entryPlace_X1_sizeOf : GoodIn wsX1_entryPlace (wsV RX1 75 RX1 yX1_sizeOf wsX1_sizeOf) := goodIn_app (goodIn_of _ (by decide +kernel)) ggX1_entryPlace_X1_sizeOf
set_option maxRecDepth 20000 in
theorem ggX1_entryPlace_X1_keyAt : GoodIn wsX1_entryPlace wsX1_keyAt := goodIn_r _ [10, 11, 12, 13, 14, 15, 16, 17, 18, 19, 20] (by decide +kernel) (by decide +kernel)
set_option maxRecDepth 20000 in
theorem gX1_entryPlace_X1_keyAt : GoodIn wsX1_entryPlace (wsV RX1 87 RX1 yX1_keyAt wsX1_keyAt) := goodIn_app (goodIn_of _ (by decide +kernel)) ggX1_entryPlace_X1_keyAt
theorem dX1_entryPlace_0 : decode cX1_entryPlace 0 = .ok (.aload_n 0, 1) := by decide +kernel
theorem dX1_entryPlace_1 : decode cX1_entryPlace 1 = .ok (.iload_n 1, 1) := by decide +kernel
theorem dX1_entryPlace_2 : decode cX1_entryPlace 2 = .ok (.invokevirtual 75, 3) := by decide +kernel
theorem dX1_entryPlace_5 : decode cX1_entryPlace 5 = .ok (.istore_n 3, 1) := by decide +kernel
theorem dX1_entryPlace_6 : decode cX1_entryPlace 6 = .ok (.iconst 0, 1) := by decide +kernel
theorem dX1_entryPlace_7 : decode cX1_entryPlace 7 = .ok (.istore 4, 2) := by decide +kernel
theorem dX1_entryPlace_9 : decode cX1_entryPlace 9 = .ok (.iload 4, 2) := by decide +kernel
theorem dX1_entryPlace_11 : decode cX1_entryPlace 11 = .ok (.iload_n 3, 1) := by decide +kernel
theorem dX1_entryPlace_12 : decode cX1_entryPlace 12 = .ok (.if_icmp .ge 23, 3) := by decide +kernel
theorem dX1_entryPlace_15 : decode cX1_entryPlace 15 = .ok (.aload_n 0, 1) := by decide +kernel
theorem dX1_entryPlace_16 : decode cX1_entryPlace 16 = .ok (.iload_n 1, 1) := by decide +kernel
theorem dX1_entryPlace_17 : decode cX1_entryPlace 17 = .ok (.iload 4, 2) := by decide +kernel
theorem dX1_entryPlace_19 : decode cX1_entryPlace 19 = .ok (.invokevirtual 87, 3) := by decide +kernel
theorem dX1_entryPlace_22 : decode cX1_entryPlace 22 = .ok (.iload_n 2, 1) := by decide +kernel
theorem dX1_entryPlace_23 : decode cX1_entryPlace 23 = .ok (.if_icmp .ne 6, 3) := by decide +kernel
theorem dX1_entryPlace_26 : decode cX1_entryPlace 26 = .ok (.iload 4, 2) := by decide +kernel
theorem dX1_entryPlace_28 : decode cX1_entryPlace 28 = .ok (.ireturn, 1) := by decide +kernel
theorem dX1_entryPlace_29 : decode cX1_entryPlace 29 = .ok (.iinc 4 1, 3) := by decide +kernel
theorem dX1_entryPlace_32 : decode cX1_entryPlace 32 = .ok (.goto (-23), 3) := by decide +kernel
theorem dX1_entryPlace_35 : decode cX1_entryPlace 35 = .ok (.sipush (-1000), 3) := by decide +kernel
theorem dX1_entryPlace_38 : decode cX1_entryPlace 38 = .ok (.ireturn, 1) := by decide +kernel
theorem dX1_setEntry_0 : decode cX1_setEntry 0 = .ok (.iload_n 1, 1) := by decide +kernel
theorem dX1_setEntry_1 : decode cX1_setEntry 1 = .ok (.ifCond .lt 41, 3) := by decide +kernel
theorem dX1_setEntry_4 : decode cX1_setEntry 4 = .ok (.iload_n 1, 1) := by decide +kernel
theorem dX1_setEntry_5 : decode cX1_setEntry 5 = .ok (.bipush 32, 2) := by decide +kernel
theorem dX1_setEntry_7 : decode cX1_setEntry 7 = .ok (.if_icmp .ge 35, 3) := by decide +kernel
theorem dX1_setEntry_10 : decode cX1_setEntry 10 = .ok (.iload_n 2, 1) := by decide +kernel
theorem dX1_setEntry_11 : decode cX1_setEntry 11 = .ok (.ifCond .lt 31, 3) := by decide +kernel
theorem dX1_setEntry_14 : decode cX1_setEntry 14 = .ok (.iload_n 2, 1) := by decide +kernel
theorem dX1_setEntry_15 : decode cX1_setEntry 15 = .ok (.iconst 5, 1) := by decide +kernel
theorem dX1_setEntry_16 : decode cX1_setEntry 16 = .ok (.if_icmp .ge 26, 3) := by decide +kernel
theorem dX1_setEntry_19 : decode cX1_setEntry 19 = .ok (.aload_n 0, 1) := by decide +kernel
theorem dX1_setEntry_20 : decode cX1_setEntry 20 = .ok (.getfield 30, 3) := by decide +kernel
theorem dX1_setEntry_23 : decode cX1_setEntry 23 = .ok (.iload_n 1, 1) := by decide +kernel
theorem dX1_setEntry_24 : decode cX1_setEntry 24 = .ok (.iconst 5, 1) := by decide +kernel
theorem dX1_setEntry_25 : decode cX1_setEntry 25 = .ok (.imul, 1) := by decide +kernel
theorem dX1_setEntry_26 : decode cX1_setEntry 26 = .ok (.iload_n 2, 1) := by decide +kernel
theorem dX1_setEntry_27 : decode cX1_setEntry 27 = .ok (.iadd, 1) := by decide +kernel
theorem dX1_setEntry_28 : decode cX1_setEntry 28 = .ok (.iload_n 3, 1) := by decide +kernel
theorem dX1_setEntry_29 : decode cX1_setEntry 29 = .ok (.iastore, 1) := by decide +kernel
theorem dX1_setEntry_30 : decode cX1_setEntry 30 = .ok (.aload_n 0, 1) := by decide +kernel
theorem dX1_setEntry_31 : decode cX1_setEntry 31 = .ok (.getfield 33, 3) := by decide +kernel
theorem dX1_setEntry_34 : decode cX1_setEntry 34 = .ok (.iload_n 1, 1) := by decide +kernel
theorem dX1_setEntry_35 : decode cX1_setEntry 35 = .ok (.iconst 5, 1) := by decide +kernel
theorem dX1_setEntry_36 : decode cX1_setEntry 36 = .ok (.imul, 1) := by decide +kernel
theorem dX1_setEntry_37 : decode cX1_setEntry 37 = .ok (.iload_n 2, 1) := by decide +kernel
theorem dX1_setEntry_38 : decode cX1_setEntry 38 = .ok (.iadd, 1) := by decide +kernel
theorem dX1_setEntry_39 : decode cX1_setEntry 39 = .ok (.iload 4, 2) := by decide +kernel
theorem dX1_setEntry_41 : decode cX1_setEntry 41 = .ok (.iastore, 1) := by decide +kernel
theorem dX1_setEntry_42 : decode cX1_setEntry 42 = .ok (.return_, 1) := by decide +kernel
set_option maxRecDepth 20000 in
theorem ggX1_moveEntry_X1_keyAt : GoodIn wsX1_moveEntry wsX1_keyAt := goodIn_r _ [5, 6, 16, 17, 18, 19, 20, 21, 22, 23, 24] (by decide +kernel) (by decide +kernel)
set_option maxRecDepth 20000 in
theorem gX1_moveEntry_X1_keyAt : GoodIn wsX1_moveEntry (wsV RX1 87 RX1 yX1_keyAt wsX1_keyAt) := goodIn_app (goodIn_of _ (by decide +kernel)) ggX1_moveEntry_X1_keyAt
set_option maxRecDepth 20000 in
theorem ggX1_moveEntry_X1_valueAt : GoodIn wsX1_moveEntry wsX1_valueAt := goodIn_r _ [10, 11, 16, 17, 18, 19, 20, 21, 22, 23, 24] (by decide +kernel) (by decide +kernel)
set_option maxRecDepth 20000 in
theorem gX1_moveEntry_X1_valueAt : GoodIn wsX1_moveEntry (wsV RX1 96 RX1 yX1_valueAt wsX1_valueAt) := goodIn_app (goodIn_of _ (by decide +kernel)) ggX1_moveEntry_X1_valueAt
set_option maxRecDepth 20000 in
theorem ggX1_moveEntry_X1_setEntry : GoodIn wsX1_moveEntry wsX1_setEntry := goodIn_r _ [15, 6, 11, 16, 17, 18, 19, 20, 21, 22, 23, 24] (by decide +kernel) (by decide +kernel)
set_option maxRecDepth 20000 in
theorem gX1_moveEntry_X1_setEntry : GoodIn wsX1_moveEntry (wsV RX1 106 RX1 yX1_setEntry wsX1_setEntry) := goodIn_app (goodIn_of _ (by decide +kernel)) ggX1_moveEntry_X1_setEntry
theorem dX1_moveEntry_0 : decode cX1_moveEntry 0 = .ok (.aload_n 0, 1) := by decide +kernel
theorem dX1_moveEntry_1 : decode cX1_moveEntry 1 = .ok (.iload_n 3, 1) := by decide +kernel
theorem dX1_moveEntry_2 : decode cX1_moveEntry 2 = .ok (.iload 4, 2) := by decide +kernel
theorem dX1_moveEntry_4 : decode cX1_moveEntry 4 = .ok (.aload_n 0, 1) := by decide +kernel
theorem dX1_moveEntry_5 : decode cX1_moveEntry 5 = .ok (.iload_n 1, 1) := by decide +kernel
theorem dX1_moveEntry_6 : decode cX1_moveEntry 6 = .ok (.iload_n 2, 1) := by decide +kernel
theorem dX1_moveEntry_7 : decode cX1_moveEntry 7 = .ok (.invokevirtual 87, 3) := by decide +kernel
theorem dX1_moveEntry_10 : decode cX1_moveEntry 10 = .ok (.aload_n 0, 1) := by decide +kernel
theorem dX1_moveEntry_11 : decode cX1_moveEntry 11 = .ok (.iload_n 1, 1) := by decide +kernel
theorem dX1_moveEntry_12 : decode cX1_moveEntry 12 = .ok (.iload_n 2, 1) := by decide +kernel
theorem dX1_moveEntry_13 : decode cX1_moveEntry 13 = .ok (.invokevirtual 96, 3) := by decide +kernel
theorem dX1_moveEntry_16 : decode cX1_moveEntry 16 = .ok (.invokevirtual 106, 3) := by decide +kernel
theorem dX1_moveEntry_19 : decode cX1_moveEntry 19 = .ok (.return_, 1) := by decide +kernel
set_option maxRecDepth 20000 in
theorem ggX1_insertEntry_X1_sizeOf : GoodIn wsX1_insertEntry wsX1_sizeOf := goodIn_r _ [6, 1, 28, 29, 30, 31, 32, 33, 34, 35, 36] (by decide +kernel) (by decide +kernel)
set_option maxRecDepth 20000 in
theorem gX1_insertEntry_X1_sizeOf : GoodIn wsX1_insertEntry (wsV RX1 75 RX1 yX1_sizeOf wsX1_sizeOf) := goodIn_app (goodIn_of _ (by decide +kernel)) ggX1_insertEntry_X1_sizeOf
set_option maxRecDepth 20000 in
theorem ggX1_insertEntry_X1_keyAt : GoodIn wsX1_insertEntry wsX1_keyAt := goodIn_r _ [10, 11, 28, 29, 30, 31, 32, 33, 34, 35, 36] (by decide +kernel) (by decide +kernel)
set_option maxRecDepth 20000 in
theorem gX1_insertEntry_X1_keyAt : GoodIn wsX1_insertEntry (wsV RX1 87 RX1 yX1_keyAt wsX1_keyAt) := goodIn_app (goodIn_of _ (by decide +kernel)) ggX1_insertEntry_X1_keyAt
set_option maxRecDepth 20000 in
theorem ggX1_insertEntry_X1_moveEntry : GoodIn wsX1_insertEntry wsX1_moveEntry := goodIn_r _ [15, 7, 8, 9, 5, 10, 11, 16, 17, 18, 19, 20, 21, 22, 23, 24, 28, 29, 30, 31, 32, 33, 34, 35, 36] (by decide +kernel) (by decide +kernel)
set_option maxRecDepth 20000 in
theorem gX1_insertEntry_X1_moveEntry : GoodIn wsX1_insertEntry (wsV RX1 110 RX1 yX1_moveEntry wsX1_moveEntry) := goodIn_app (goodIn_of _ (by decide +kernel)) ggX1_insertEntry_X1_moveEntry
set_option maxRecDepth 20000 in
theorem ggX1_insertEntry_X1_setEntry : GoodIn wsX1_insertEntry wsX1_setEntry := goodIn_r _ [24, 11, 20, 28, 29, 30, 31, 32, 33, 34, 35, 36] (by decide +kernel) (by decide +kernel)
set_option maxRecDepth 20000 in
theorem gX1_insertEntry_X1_setEntry : GoodIn wsX1_insertEntry (wsV RX1 106 RX1 yX1_setEntry wsX1_setEntry) := goodIn_app (goodIn_of _ (by decide +kernel)) ggX1_insertEntry_X1_setEntry
set_option maxRecDepth 20000 in
theorem ggX1_insertEntry_X6_setCell : GoodIn wsX1_insertEntry wsX6_setCell := goodIn_r _ [27] (by decide +kernel) (by decide +kernel)
set_option maxRecDepth 20000 in
theorem gX1_insertEntry_X6_setCell_n63 : GoodIn wsX1_insertEntry (wsX6_setCell) := ggX1_insertEntry_X6_setCell
theorem dX1_insertEntry_0 : decode cX1_insertEntry 0 = .ok (.aload_n 0, 1) := by decide +kernel
theorem dX1_insertEntry_1 : decode cX1_insertEntry 1 = .ok (.iload_n 1, 1) := by decide +kernel
theorem dX1_insertEntry_2 : decode cX1_insertEntry 2 = .ok (.invokevirtual 75, 3) := by decide +kernel
theorem dX1_insertEntry_5 : decode cX1_insertEntry 5 = .ok (.istore 4, 2) := by decide +kernel
theorem dX1_insertEntry_7 : decode cX1_insertEntry 7 = .ok (.iload 4, 2) := by decide +kernel
theorem dX1_insertEntry_9 : decode cX1_insertEntry 9 = .ok (.istore 5, 2) := by decide +kernel
theorem dX1_insertEntry_11 : decode cX1_insertEntry 11 = .ok (.iload 5, 2) := by decide +kernel
theorem dX1_insertEntry_13 : decode cX1_insertEntry 13 = .ok (.ifCond .le 34, 3) := by decide +kernel
theorem dX1_insertEntry_16 : decode cX1_insertEntry 16 = .ok (.aload_n 0, 1) := by decide +kernel
theorem dX1_insertEntry_17 : decode cX1_insertEntry 17 = .ok (.iload_n 1, 1) := by decide +kernel
theorem dX1_insertEntry_18 : decode cX1_insertEntry 18 = .ok (.iload 5, 2) := by decide +kernel
theorem dX1_insertEntry_20 : decode cX1_insertEntry 20 = .ok (.iconst 1, 1) := by decide +kernel
theorem dX1_insertEntry_21 : decode cX1_insertEntry 21 = .ok (.isub, 1) := by decide +kernel
theorem dX1_insertEntry_22 : decode cX1_insertEntry 22 = .ok (.invokevirtual 87, 3) := by decide +kernel
theorem dX1_insertEntry_25 : decode cX1_insertEntry 25 = .ok (.iload_n 2, 1) := by decide +kernel
theorem dX1_insertEntry_26 : decode cX1_insertEntry 26 = .ok (.if_icmp .le 21, 3) := by decide +kernel
theorem dX1_insertEntry_29 : decode cX1_insertEntry 29 = .ok (.aload_n 0, 1) := by decide +kernel
theorem dX1_insertEntry_30 : decode cX1_insertEntry 30 = .ok (.iload_n 1, 1) := by decide +kernel
theorem dX1_insertEntry_31 : decode cX1_insertEntry 31 = .ok (.iload 5, 2) := by decide +kernel
theorem dX1_insertEntry_33 : decode cX1_insertEntry 33 = .ok (.iconst 1, 1) := by decide +kernel
theorem dX1_insertEntry_34 : decode cX1_insertEntry 34 = .ok (.isub, 1) := by decide +kernel
theorem dX1_insertEntry_35 : decode cX1_insertEntry 35 = .ok (.iload_n 1, 1) := by decide +kernel
theorem dX1_insertEntry_36 : decode cX1_insertEntry 36 = .ok (.iload 5, 2) := by decide +kernel
theorem dX1_insertEntry_38 : decode cX1_insertEntry 38 = .ok (.invokevirtual 110, 3) := by decide +kernel
theorem dX1_insertEntry_41 : decode cX1_insertEntry 41 = .ok (.iinc 5 (-1), 3) := by decide +kernel
theorem dX1_insertEntry_44 : decode cX1_insertEntry 44 = .ok (.goto (-33), 3) := by decide +kernel
theorem dX1_insertEntry_47 : decode cX1_insertEntry 47 = .ok (.aload_n 0, 1) := by decide +kernel
theorem dX1_insertEntry_48 : decode cX1_insertEntry 48 = .ok (.iload_n 1, 1) := by decide +kernel
theorem dX1_insertEntry_49 : decode cX1_insertEntry 49 = .ok (.iload 5, 2) := by decide +kernel
theorem dX1_insertEntry_51 : decode cX1_insertEntry 51 = .ok (.iload_n 2, 1) := by decide +kernel
theorem dX1_insertEntry_52 : decode cX1_insertEntry 52 = .ok (.iload_n 3, 1) := by decide +kernel
theorem dX1_insertEntry_53 : decode cX1_insertEntry 53 = .ok (.invokevirtual 106, 3) := by decide +kernel
theorem dX1_insertEntry_56 : decode cX1_insertEntry 56 = .ok (.aload_n 0, 1) := by decide +kernel
theorem dX1_insertEntry_57 : decode cX1_insertEntry 57 = .ok (.getfield 18, 3) := by decide +kernel
theorem dX1_insertEntry_60 : decode cX1_insertEntry 60 = .ok (.iload_n 1, 1) := by decide +kernel
theorem dX1_insertEntry_61 : decode cX1_insertEntry 61 = .ok (.iload 4, 2) := by decide +kernel
theorem dX1_insertEntry_63 : decode cX1_insertEntry 63 = .ok (.iconst 1, 1) := by decide +kernel
theorem dX1_insertEntry_64 : decode cX1_insertEntry 64 = .ok (.iadd, 1) := by decide +kernel
theorem dX1_insertEntry_65 : decode cX1_insertEntry 65 = .ok (.invokestatic 63, 3) := by decide +kernel
theorem dX1_insertEntry_68 : decode cX1_insertEntry 68 = .ok (.return_, 1) := by decide +kernel
set_option maxRecDepth 20000 in
theorem ggX1_cutEntry_X1_sizeOf : GoodIn wsX1_cutEntry wsX1_sizeOf := goodIn_r _ [6, 1, 28, 29, 30, 31, 32, 33, 34, 35, 36] (by decide +kernel) (by decide +kernel)
set_option maxRecDepth 20000 in
theorem gX1_cutEntry_X1_sizeOf : GoodIn wsX1_cutEntry (wsV RX1 75 RX1 yX1_sizeOf wsX1_sizeOf) := goodIn_app (goodIn_of _ (by decide +kernel)) ggX1_cutEntry_X1_sizeOf
set_option maxRecDepth 20000 in
theorem ggX1_cutEntry_X1_moveEntry : GoodIn wsX1_cutEntry wsX1_moveEntry := goodIn_r _ [10, 11, 12, 13, 5, 14, 15, 16, 17, 18, 19, 20, 21, 22, 23, 24, 28, 29, 30, 31, 32, 33, 34, 35, 36] (by decide +kernel) (by decide +kernel)
set_option maxRecDepth 20000 in
theorem gX1_cutEntry_X1_moveEntry : GoodIn wsX1_cutEntry (wsV RX1 110 RX1 yX1_moveEntry wsX1_moveEntry) := goodIn_app (goodIn_of _ (by decide +kernel)) ggX1_cutEntry_X1_moveEntry
set_option maxRecDepth 20000 in
theorem ggX1_cutEntry_X6_setCell : GoodIn wsX1_cutEntry wsX6_setCell := goodIn_r _ [27] (by decide +kernel) (by decide +kernel)
set_option maxRecDepth 20000 in
theorem gX1_cutEntry_X6_setCell_n63 : GoodIn wsX1_cutEntry (wsX6_setCell) := ggX1_cutEntry_X6_setCell
theorem dX1_cutEntry_0 : decode cX1_cutEntry 0 = .ok (.aload_n 0, 1) := by decide +kernel
theorem dX1_cutEntry_1 : decode cX1_cutEntry 1 = .ok (.iload_n 1, 1) := by decide +kernel
theorem dX1_cutEntry_2 : decode cX1_cutEntry 2 = .ok (.invokevirtual 75, 3) := by decide +kernel
theorem dX1_cutEntry_5 : decode cX1_cutEntry 5 = .ok (.istore_n 3, 1) := by decide +kernel
theorem dX1_cutEntry_6 : decode cX1_cutEntry 6 = .ok (.iload_n 2, 1) := by decide +kernel
theorem dX1_cutEntry_7 : decode cX1_cutEntry 7 = .ok (.istore 4, 2) := by decide +kernel
theorem dX1_cutEntry_9 : decode cX1_cutEntry 9 = .ok (.iload 4, 2) := by decide +kernel
theorem dX1_cutEntry_11 : decode cX1_cutEntry 11 = .ok (.iload_n 3, 1) := by decide +kernel
theorem dX1_cutEntry_12 : decode cX1_cutEntry 12 = .ok (.iconst 1, 1) := by decide +kernel
theorem dX1_cutEntry_13 : decode cX1_cutEntry 13 = .ok (.isub, 1) := by decide +kernel
theorem dX1_cutEntry_14 : decode cX1_cutEntry 14 = .ok (.if_icmp .ge 21, 3) := by decide +kernel
theorem dX1_cutEntry_17 : decode cX1_cutEntry 17 = .ok (.aload_n 0, 1) := by decide +kernel
theorem dX1_cutEntry_18 : decode cX1_cutEntry 18 = .ok (.iload_n 1, 1) := by decide +kernel
theorem dX1_cutEntry_19 : decode cX1_cutEntry 19 = .ok (.iload 4, 2) := by decide +kernel
theorem dX1_cutEntry_21 : decode cX1_cutEntry 21 = .ok (.iconst 1, 1) := by decide +kernel
theorem dX1_cutEntry_22 : decode cX1_cutEntry 22 = .ok (.iadd, 1) := by decide +kernel
theorem dX1_cutEntry_23 : decode cX1_cutEntry 23 = .ok (.iload_n 1, 1) := by decide +kernel
theorem dX1_cutEntry_24 : decode cX1_cutEntry 24 = .ok (.iload 4, 2) := by decide +kernel
theorem dX1_cutEntry_26 : decode cX1_cutEntry 26 = .ok (.invokevirtual 110, 3) := by decide +kernel
theorem dX1_cutEntry_29 : decode cX1_cutEntry 29 = .ok (.iinc 4 1, 3) := by decide +kernel
theorem dX1_cutEntry_32 : decode cX1_cutEntry 32 = .ok (.goto (-23), 3) := by decide +kernel
theorem dX1_cutEntry_35 : decode cX1_cutEntry 35 = .ok (.aload_n 0, 1) := by decide +kernel
theorem dX1_cutEntry_36 : decode cX1_cutEntry 36 = .ok (.getfield 18, 3) := by decide +kernel
theorem dX1_cutEntry_39 : decode cX1_cutEntry 39 = .ok (.iload_n 1, 1) := by decide +kernel
theorem dX1_cutEntry_40 : decode cX1_cutEntry 40 = .ok (.iload_n 3, 1) := by decide +kernel
theorem dX1_cutEntry_41 : decode cX1_cutEntry 41 = .ok (.iconst 1, 1) := by decide +kernel
theorem dX1_cutEntry_42 : decode cX1_cutEntry 42 = .ok (.isub, 1) := by decide +kernel
theorem dX1_cutEntry_43 : decode cX1_cutEntry 43 = .ok (.invokestatic 63, 3) := by decide +kernel
theorem dX1_cutEntry_46 : decode cX1_cutEntry 46 = .ok (.return_, 1) := by decide +kernel
set_option maxRecDepth 20000 in
theorem ggX1_copyLeaf_X1_sizeOf : GoodIn wsX1_copyLeaf wsX1_sizeOf := goodIn_r _ [6, 1, 28, 29, 30, 31, 32, 33, 34, 35, 36] (by decide +kernel) (by decide +kernel)
set_option maxRecDepth 20000 in
theorem gX1_copyLeaf_X1_sizeOf : GoodIn wsX1_copyLeaf (wsV RX1 75 RX1 yX1_sizeOf wsX1_sizeOf) := goodIn_app (goodIn_of _ (by decide +kernel)) ggX1_copyLeaf_X1_sizeOf
set_option maxRecDepth 20000 in
theorem ggX1_copyLeaf_X1_moveEntry : GoodIn wsX1_copyLeaf wsX1_moveEntry := goodIn_r _ [10, 11, 12, 13, 5, 14, 15, 16, 17, 18, 19, 20, 21, 22, 23, 24, 28, 29, 30, 31, 32, 33, 34, 35, 36] (by decide +kernel) (by decide +kernel)
set_option maxRecDepth 20000 in
theorem gX1_copyLeaf_X1_moveEntry : GoodIn wsX1_copyLeaf (wsV RX1 110 RX1 yX1_moveEntry wsX1_moveEntry) := goodIn_app (goodIn_of _ (by decide +kernel)) ggX1_copyLeaf_X1_moveEntry
set_option maxRecDepth 20000 in
theorem ggX1_copyLeaf_X6_setCell : GoodIn wsX1_copyLeaf wsX6_setCell := goodIn_r _ [27] (by decide +kernel) (by decide +kernel)
set_option maxRecDepth 20000 in
theorem gX1_copyLeaf_X6_setCell_n63 : GoodIn wsX1_copyLeaf (wsX6_setCell) := ggX1_copyLeaf_X6_setCell
theorem dX1_copyLeaf_0 : decode cX1_copyLeaf 0 = .ok (.aload_n 0, 1) := by decide +kernel
theorem dX1_copyLeaf_1 : decode cX1_copyLeaf 1 = .ok (.iload_n 1, 1) := by decide +kernel
theorem dX1_copyLeaf_2 : decode cX1_copyLeaf 2 = .ok (.invokevirtual 75, 3) := by decide +kernel
theorem dX1_copyLeaf_5 : decode cX1_copyLeaf 5 = .ok (.istore_n 3, 1) := by decide +kernel
theorem dX1_copyLeaf_6 : decode cX1_copyLeaf 6 = .ok (.iconst 0, 1) := by decide +kernel
theorem dX1_copyLeaf_7 : decode cX1_copyLeaf 7 = .ok (.istore 4, 2) := by decide +kernel
theorem dX1_copyLeaf_9 : decode cX1_copyLeaf 9 = .ok (.iload 4, 2) := by decide +kernel
theorem dX1_copyLeaf_11 : decode cX1_copyLeaf 11 = .ok (.iload_n 3, 1) := by decide +kernel
theorem dX1_copyLeaf_12 : decode cX1_copyLeaf 12 = .ok (.if_icmp .ge 19, 3) := by decide +kernel
theorem dX1_copyLeaf_15 : decode cX1_copyLeaf 15 = .ok (.aload_n 0, 1) := by decide +kernel
theorem dX1_copyLeaf_16 : decode cX1_copyLeaf 16 = .ok (.iload_n 1, 1) := by decide +kernel
theorem dX1_copyLeaf_17 : decode cX1_copyLeaf 17 = .ok (.iload 4, 2) := by decide +kernel
theorem dX1_copyLeaf_19 : decode cX1_copyLeaf 19 = .ok (.iload_n 2, 1) := by decide +kernel
theorem dX1_copyLeaf_20 : decode cX1_copyLeaf 20 = .ok (.iload 4, 2) := by decide +kernel
theorem dX1_copyLeaf_22 : decode cX1_copyLeaf 22 = .ok (.invokevirtual 110, 3) := by decide +kernel
theorem dX1_copyLeaf_25 : decode cX1_copyLeaf 25 = .ok (.iinc 4 1, 3) := by decide +kernel
theorem dX1_copyLeaf_28 : decode cX1_copyLeaf 28 = .ok (.goto (-19), 3) := by decide +kernel
theorem dX1_copyLeaf_31 : decode cX1_copyLeaf 31 = .ok (.aload_n 0, 1) := by decide +kernel
theorem dX1_copyLeaf_32 : decode cX1_copyLeaf 32 = .ok (.getfield 18, 3) := by decide +kernel
theorem dX1_copyLeaf_35 : decode cX1_copyLeaf 35 = .ok (.iload_n 2, 1) := by decide +kernel
theorem dX1_copyLeaf_36 : decode cX1_copyLeaf 36 = .ok (.iload_n 3, 1) := by decide +kernel
theorem dX1_copyLeaf_37 : decode cX1_copyLeaf 37 = .ok (.invokestatic 63, 3) := by decide +kernel
theorem dX1_copyLeaf_40 : decode cX1_copyLeaf 40 = .ok (.return_, 1) := by decide +kernel
set_option maxRecDepth 20000 in
theorem ggX1_splitLeaf_X1_sizeOf : GoodIn wsX1_splitLeaf wsX1_sizeOf := goodIn_r _ [6, 1, 28, 29, 30, 31, 32, 33, 34, 35, 36] (by decide +kernel) (by decide +kernel)
set_option maxRecDepth 20000 in
theorem gX1_splitLeaf_X1_sizeOf : GoodIn wsX1_splitLeaf (wsV RX1 75 RX1 yX1_sizeOf wsX1_sizeOf) := goodIn_app (goodIn_of _ (by decide +kernel)) ggX1_splitLeaf_X1_sizeOf
set_option maxRecDepth 20000 in
theorem ggX1_splitLeaf_X1_moveEntry : GoodIn wsX1_splitLeaf wsX1_moveEntry := goodIn_r _ [10, 11, 12, 13, 5, 14, 15, 16, 17, 18, 19, 20, 21, 22, 23, 24, 28, 29, 30, 31, 32, 33, 34, 35, 36] (by decide +kernel) (by decide +kernel)
set_option maxRecDepth 20000 in
theorem gX1_splitLeaf_X1_moveEntry : GoodIn wsX1_splitLeaf (wsV RX1 110 RX1 yX1_moveEntry wsX1_moveEntry) := goodIn_app (goodIn_of _ (by decide +kernel)) ggX1_splitLeaf_X1_moveEntry
set_option maxRecDepth 20000 in
theorem ggX1_splitLeaf_X6_setCell : GoodIn wsX1_splitLeaf wsX6_setCell := goodIn_r _ [27] (by decide +kernel) (by decide +kernel)
set_option maxRecDepth 20000 in
theorem gX1_splitLeaf_X6_setCell_n63 : GoodIn wsX1_splitLeaf (wsX6_setCell) := ggX1_splitLeaf_X6_setCell
theorem dX1_splitLeaf_0 : decode cX1_splitLeaf 0 = .ok (.aload_n 0, 1) := by decide +kernel
theorem dX1_splitLeaf_1 : decode cX1_splitLeaf 1 = .ok (.iload_n 1, 1) := by decide +kernel
theorem dX1_splitLeaf_2 : decode cX1_splitLeaf 2 = .ok (.invokevirtual 75, 3) := by decide +kernel
theorem dX1_splitLeaf_5 : decode cX1_splitLeaf 5 = .ok (.iconst 2, 1) := by decide +kernel
theorem dX1_splitLeaf_6 : decode cX1_splitLeaf 6 = .ok (.isub, 1) := by decide +kernel
theorem dX1_splitLeaf_7 : decode cX1_splitLeaf 7 = .ok (.istore_n 3, 1) := by decide +kernel
theorem dX1_splitLeaf_8 : decode cX1_splitLeaf 8 = .ok (.iconst 0, 1) := by decide +kernel
theorem dX1_splitLeaf_9 : decode cX1_splitLeaf 9 = .ok (.istore 4, 2) := by decide +kernel
theorem dX1_splitLeaf_11 : decode cX1_splitLeaf 11 = .ok (.iload 4, 2) := by decide +kernel
theorem dX1_splitLeaf_13 : decode cX1_splitLeaf 13 = .ok (.iconst 2, 1) := by decide +kernel
theorem dX1_splitLeaf_14 : decode cX1_splitLeaf 14 = .ok (.if_icmp .ge 21, 3) := by decide +kernel
theorem dX1_splitLeaf_17 : decode cX1_splitLeaf 17 = .ok (.aload_n 0, 1) := by decide +kernel
theorem dX1_splitLeaf_18 : decode cX1_splitLeaf 18 = .ok (.iload_n 1, 1) := by decide +kernel
theorem dX1_splitLeaf_19 : decode cX1_splitLeaf 19 = .ok (.iload_n 3, 1) := by decide +kernel
theorem dX1_splitLeaf_20 : decode cX1_splitLeaf 20 = .ok (.iload 4, 2) := by decide +kernel
theorem dX1_splitLeaf_22 : decode cX1_splitLeaf 22 = .ok (.iadd, 1) := by decide +kernel
theorem dX1_splitLeaf_23 : decode cX1_splitLeaf 23 = .ok (.iload_n 2, 1) := by decide +kernel
theorem dX1_splitLeaf_24 : decode cX1_splitLeaf 24 = .ok (.iload 4, 2) := by decide +kernel
theorem dX1_splitLeaf_26 : decode cX1_splitLeaf 26 = .ok (.invokevirtual 110, 3) := by decide +kernel
theorem dX1_splitLeaf_29 : decode cX1_splitLeaf 29 = .ok (.iinc 4 1, 3) := by decide +kernel
theorem dX1_splitLeaf_32 : decode cX1_splitLeaf 32 = .ok (.goto (-21), 3) := by decide +kernel
theorem dX1_splitLeaf_35 : decode cX1_splitLeaf 35 = .ok (.aload_n 0, 1) := by decide +kernel
theorem dX1_splitLeaf_36 : decode cX1_splitLeaf 36 = .ok (.getfield 18, 3) := by decide +kernel
theorem dX1_splitLeaf_39 : decode cX1_splitLeaf 39 = .ok (.iload_n 1, 1) := by decide +kernel
theorem dX1_splitLeaf_40 : decode cX1_splitLeaf 40 = .ok (.iload_n 3, 1) := by decide +kernel
theorem dX1_splitLeaf_41 : decode cX1_splitLeaf 41 = .ok (.invokestatic 63, 3) := by decide +kernel
theorem dX1_splitLeaf_44 : decode cX1_splitLeaf 44 = .ok (.aload_n 0, 1) := by decide +kernel
theorem dX1_splitLeaf_45 : decode cX1_splitLeaf 45 = .ok (.getfield 18, 3) := by decide +kernel
theorem dX1_splitLeaf_48 : decode cX1_splitLeaf 48 = .ok (.iload_n 2, 1) := by decide +kernel
theorem dX1_splitLeaf_49 : decode cX1_splitLeaf 49 = .ok (.iconst 2, 1) := by decide +kernel
theorem dX1_splitLeaf_50 : decode cX1_splitLeaf 50 = .ok (.invokestatic 63, 3) := by decide +kernel
theorem dX1_splitLeaf_53 : decode cX1_splitLeaf 53 = .ok (.return_, 1) := by decide +kernel
theorem dX3_init_0 : decode cX3_init 0 = .ok (.aload_n 0, 1) := by decide +kernel
theorem dX3_init_1 : decode cX3_init 1 = .ok (.invokespecial 3, 3) := by decide +kernel
theorem dX3_init_4 : decode cX3_init 4 = .ok (.aload_n 0, 1) := by decide +kernel
theorem dX3_init_5 : decode cX3_init 5 = .ok (.sipush 150, 3) := by decide +kernel
theorem dX3_init_8 : decode cX3_init 8 = .ok (.newarray .int, 2) := by decide +kernel
theorem dX3_init_10 : decode cX3_init 10 = .ok (.putfield 9, 3) := by decide +kernel
theorem dX3_init_13 : decode cX3_init 13 = .ok (.aload_n 0, 1) := by decide +kernel
theorem dX3_init_14 : decode cX3_init 14 = .ok (.iconst 0, 1) := by decide +kernel
theorem dX3_init_15 : decode cX3_init 15 = .ok (.putfield 15, 3) := by decide +kernel
theorem dX3_init_18 : decode cX3_init 18 = .ok (.aload_n 0, 1) := by decide +kernel
theorem dX3_init_19 : decode cX3_init 19 = .ok (.iconst 0, 1) := by decide +kernel
theorem dX3_init_20 : decode cX3_init 20 = .ok (.putfield 19, 3) := by decide +kernel
theorem dX3_init_23 : decode cX3_init 23 = .ok (.aload_n 0, 1) := by decide +kernel
theorem dX3_init_24 : decode cX3_init 24 = .ok (.sipush (-1000), 3) := by decide +kernel
theorem dX3_init_27 : decode cX3_init 27 = .ok (.putfield 22, 3) := by decide +kernel
theorem dX3_init_30 : decode cX3_init 30 = .ok (.aload_n 0, 1) := by decide +kernel
theorem dX3_init_31 : decode cX3_init 31 = .ok (.aconst_null, 1) := by decide +kernel
theorem dX3_init_32 : decode cX3_init 32 = .ok (.putfield 25, 3) := by decide +kernel
theorem dX3_init_35 : decode cX3_init 35 = .ok (.aload_n 0, 1) := by decide +kernel
theorem dX3_init_36 : decode cX3_init 36 = .ok (.iconst 0, 1) := by decide +kernel
theorem dX3_init_37 : decode cX3_init 37 = .ok (.putfield 29, 3) := by decide +kernel
theorem dX3_init_40 : decode cX3_init 40 = .ok (.aload_n 0, 1) := by decide +kernel
theorem dX3_init_41 : decode cX3_init 41 = .ok (.iconst 0, 1) := by decide +kernel
theorem dX3_init_42 : decode cX3_init 42 = .ok (.putfield 32, 3) := by decide +kernel
theorem dX3_init_45 : decode cX3_init 45 = .ok (.return_, 1) := by decide +kernel
theorem dX3_appendFault_0 : decode cX3_appendFault 0 = .ok (.iload_n 1, 1) := by decide +kernel
theorem dX3_appendFault_1 : decode cX3_appendFault 1 = .ok (.ifCond .lt 9, 3) := by decide +kernel
theorem dX3_appendFault_4 : decode cX3_appendFault 4 = .ok (.iload_n 1, 1) := by decide +kernel
theorem dX3_appendFault_5 : decode cX3_appendFault 5 = .ok (.bipush 127, 2) := by decide +kernel
theorem dX3_appendFault_7 : decode cX3_appendFault 7 = .ok (.if_icmp .le 5, 3) := by decide +kernel
theorem dX3_appendFault_10 : decode cX3_appendFault 10 = .ok (.iconst 2, 1) := by decide +kernel
theorem dX3_appendFault_11 : decode cX3_appendFault 11 = .ok (.ireturn, 1) := by decide +kernel
theorem dX3_appendFault_12 : decode cX3_appendFault 12 = .ok (.aload_n 0, 1) := by decide +kernel
theorem dX3_appendFault_13 : decode cX3_appendFault 13 = .ok (.getfield 15, 3) := by decide +kernel
theorem dX3_appendFault_16 : decode cX3_appendFault 16 = .ok (.sipush 150, 3) := by decide +kernel
theorem dX3_appendFault_19 : decode cX3_appendFault 19 = .ok (.if_icmp .ge 7, 3) := by decide +kernel
theorem dX3_appendFault_22 : decode cX3_appendFault 22 = .ok (.iconst 0, 1) := by decide +kernel
theorem dX3_appendFault_23 : decode cX3_appendFault 23 = .ok (.goto 4, 3) := by decide +kernel
theorem dX3_appendFault_26 : decode cX3_appendFault 26 = .ok (.iconst 3, 1) := by decide +kernel
theorem dX3_appendFault_27 : decode cX3_appendFault 27 = .ok (.ireturn, 1) := by decide +kernel
set_option maxRecDepth 20000 in
theorem ggX3_append_X6_setCell : GoodIn wsX3_append wsX6_setCell := goodIn_r _ [5] (by decide +kernel) (by decide +kernel)
set_option maxRecDepth 20000 in
theorem gX3_append_X6_setCell_n35 : GoodIn wsX3_append (wsX6_setCell) := ggX3_append_X6_setCell
theorem dX3_append_0 : decode cX3_append 0 = .ok (.aload_n 0, 1) := by decide +kernel
theorem dX3_append_1 : decode cX3_append 1 = .ok (.getfield 9, 3) := by decide +kernel
theorem dX3_append_4 : decode cX3_append 4 = .ok (.aload_n 0, 1) := by decide +kernel
theorem dX3_append_5 : decode cX3_append 5 = .ok (.getfield 15, 3) := by decide +kernel
theorem dX3_append_8 : decode cX3_append 8 = .ok (.iload_n 1, 1) := by decide +kernel
theorem dX3_append_9 : decode cX3_append 9 = .ok (.invokestatic 35, 3) := by decide +kernel
theorem dX3_append_12 : decode cX3_append 12 = .ok (.aload_n 0, 1) := by decide +kernel
theorem dX3_append_13 : decode cX3_append 13 = .ok (.dup, 1) := by decide +kernel
theorem dX3_append_14 : decode cX3_append 14 = .ok (.getfield 15, 3) := by decide +kernel
theorem dX3_append_17 : decode cX3_append 17 = .ok (.iconst 1, 1) := by decide +kernel
theorem dX3_append_18 : decode cX3_append 18 = .ok (.iadd, 1) := by decide +kernel
theorem dX3_append_19 : decode cX3_append 19 = .ok (.putfield 15, 3) := by decide +kernel
theorem dX3_append_22 : decode cX3_append 22 = .ok (.aload_n 0, 1) := by decide +kernel
theorem dX3_append_23 : decode cX3_append 23 = .ok (.getfield 15, 3) := by decide +kernel
theorem dX3_append_26 : decode cX3_append 26 = .ok (.ireturn, 1) := by decide +kernel
theorem dX3_clear_0 : decode cX3_clear 0 = .ok (.aload_n 0, 1) := by decide +kernel
theorem dX3_clear_1 : decode cX3_clear 1 = .ok (.getfield 15, 3) := by decide +kernel
theorem dX3_clear_4 : decode cX3_clear 4 = .ok (.istore_n 1, 1) := by decide +kernel
theorem dX3_clear_5 : decode cX3_clear 5 = .ok (.aload_n 0, 1) := by decide +kernel
theorem dX3_clear_6 : decode cX3_clear 6 = .ok (.iconst 0, 1) := by decide +kernel
theorem dX3_clear_7 : decode cX3_clear 7 = .ok (.putfield 15, 3) := by decide +kernel
theorem dX3_clear_10 : decode cX3_clear 10 = .ok (.iload_n 1, 1) := by decide +kernel
theorem dX3_clear_11 : decode cX3_clear 11 = .ok (.ireturn, 1) := by decide +kernel
theorem dX3_rewind_0 : decode cX3_rewind 0 = .ok (.aload_n 0, 1) := by decide +kernel
theorem dX3_rewind_1 : decode cX3_rewind 1 = .ok (.iconst 0, 1) := by decide +kernel
theorem dX3_rewind_2 : decode cX3_rewind 2 = .ok (.putfield 19, 3) := by decide +kernel
theorem dX3_rewind_5 : decode cX3_rewind 5 = .ok (.aload_n 0, 1) := by decide +kernel
theorem dX3_rewind_6 : decode cX3_rewind 6 = .ok (.sipush (-1000), 3) := by decide +kernel
theorem dX3_rewind_9 : decode cX3_rewind 9 = .ok (.putfield 22, 3) := by decide +kernel
theorem dX3_rewind_12 : decode cX3_rewind 12 = .ok (.return_, 1) := by decide +kernel
set_option maxRecDepth 20000 in
theorem ggX3_findFault_X3_rewind : GoodIn wsX3_findFault wsX3_rewind := goodIn_r _ [6, 7, 1, 108, 109, 110, 111, 112, 113, 114] (by decide +kernel) (by decide +kernel)
set_option maxRecDepth 20000 in
theorem gX3_findFault_X3_rewind : GoodIn wsX3_findFault (wsV RX3 39 RX3 yX3_rewind wsX3_rewind) := goodIn_app (goodIn_of _ (by decide +kernel)) ggX3_findFault_X3_rewind
set_option maxRecDepth 20000 in
theorem ggX3_findFault_X3_scanCommand : GoodIn wsX3_findFault wsX3_scanCommand := goodIn_r _ [11, 7, 12, 13, 14, 15, 16, 5, 17, 18, 19, 20, 21, 22, 23, 24, 25, 26, 27, 28, 29, 1, 30, 31, 32, 33, 34, 35, 36, 37, 38, 39, 40, 41, 42, 43, 44, 45, 46, 47, 48, 49, 50, 51, 52, 53, 54, 55, 56, 57, 58, 59, 60, 61, 62, 63, 64, 65, 66, 67, 68, 69, 70, 71, 72, 73, 74, 75, 76, 77, 78, 79, 80, 81, 82, 83, 84, 85, 86, 87, 88, 89, 90, 91, 92, 93, 94, 95, 96, 97, 98, 99, 100, 101, 102, 103, 104, 105, 106, 107, 108, 109, 110, 111, 112, 113, 114] (by decide +kernel) (by decide +kernel)
set_option maxRecDepth 20000 in
theorem gX3_findFault_X3_scanCommand : GoodIn wsX3_findFault (wsV RX3 42 RX3 yX3_scanCommand wsX3_scanCommand) := goodIn_app (goodIn_of _ (by decide +kernel)) ggX3_findFault_X3_scanCommand
theorem dX3_findFault_0 : decode cX3_findFault 0 = .ok (.aload_n 0, 1) := by decide +kernel
theorem dX3_findFault_1 : decode cX3_findFault 1 = .ok (.invokevirtual 39, 3) := by decide +kernel
theorem dX3_findFault_4 : decode cX3_findFault 4 = .ok (.iconst 0, 1) := by decide +kernel
theorem dX3_findFault_5 : decode cX3_findFault 5 = .ok (.istore_n 1, 1) := by decide +kernel
theorem dX3_findFault_6 : decode cX3_findFault 6 = .ok (.iload_n 1, 1) := by decide +kernel
theorem dX3_findFault_7 : decode cX3_findFault 7 = .ok (.sipush 150, 3) := by decide +kernel
theorem dX3_findFault_10 : decode cX3_findFault 10 = .ok (.if_icmp .ge 16, 3) := by decide +kernel
theorem dX3_findFault_13 : decode cX3_findFault 13 = .ok (.aload_n 0, 1) := by decide +kernel
theorem dX3_findFault_14 : decode cX3_findFault 14 = .ok (.invokevirtual 42, 3) := by decide +kernel
theorem dX3_findFault_17 : decode cX3_findFault 17 = .ok (.ifCond .eq 9, 3) := by decide +kernel
theorem dX3_findFault_20 : decode cX3_findFault 20 = .ok (.iinc 1 1, 3) := by decide +kernel
theorem dX3_findFault_23 : decode cX3_findFault 23 = .ok (.goto (-17), 3) := by decide +kernel
theorem dX3_findFault_26 : decode cX3_findFault 26 = .ok (.aload_n 0, 1) := by decide +kernel
theorem dX3_findFault_27 : decode cX3_findFault 27 = .ok (.getfield 22, 3) := by decide +kernel
theorem dX3_findFault_30 : decode cX3_findFault 30 = .ok (.ireturn, 1) := by decide +kernel
set_option maxRecDepth 20000 in
theorem ggX3_scanCommand_X3_skipSpaces : GoodIn wsX3_scanCommand wsX3_skipSpaces := goodIn_r _ [8, 1, 2, 9, 10, 11, 7, 12, 13, 100, 101, 102, 103, 104, 105, 106] (by decide +kernel) (by decide +kernel)
set_option maxRecDepth 20000 in
theorem gX3_scanCommand_X3_skipSpaces : GoodIn wsX3_scanCommand (wsV RX3 46 RX3 yX3_skipSpaces wsX3_skipSpaces) := goodIn_app (goodIn_of _ (by decide +kernel)) ggX3_scanCommand_X3_skipSpaces
set_option maxRecDepth 20000 in
theorem ggX3_scanCommand_X3_byteAt : GoodIn wsX3_scanCommand wsX3_byteAt := goodIn_r _ [12, 2, 13, 100, 101, 102, 103, 104, 105, 106] (by decide +kernel) (by decide +kernel)
set_option maxRecDepth 20000 in
theorem gX3_scanCommand_X3_byteAt : GoodIn wsX3_scanCommand (wsV RX3 49 RX3 yX3_byteAt wsX3_byteAt) := goodIn_app (goodIn_of _ (by decide +kernel)) ggX3_scanCommand_X3_byteAt
set_option maxRecDepth 20000 in
theorem ggX3_scanCommand_X3_isLetter : GoodIn wsX3_scanCommand wsX3_isLetter := goodIn_r _ [16] (by decide +kernel) (by decide +kernel)
set_option maxRecDepth 20000 in
theorem gX3_scanCommand_X3_isLetter : GoodIn wsX3_scanCommand (va_wsS RX3 53 yX3_isLetter wsX3_isLetter) := goodIn_app (goodIn_of _ (by decide +kernel)) ggX3_scanCommand_X3_isLetter
set_option maxRecDepth 20000 in
theorem ggX3_scanCommand_X3_failAt : GoodIn wsX3_scanCommand wsX3_failAt := goodIn_r _ [20, 21, 100, 101, 102, 103, 104, 105, 106] (by decide +kernel) (by decide +kernel)
set_option maxRecDepth 20000 in
theorem gX3_scanCommand_X3_failAt : GoodIn wsX3_scanCommand (wsV RX3 57 RX3 yX3_failAt wsX3_failAt) := goodIn_app (goodIn_of _ (by decide +kernel)) ggX3_scanCommand_X3_failAt
set_option maxRecDepth 20000 in
theorem ggX3_scanCommand_X3_skipLetters : GoodIn wsX3_scanCommand wsX3_skipLetters := goodIn_r _ [25, 1, 2, 9, 10, 11, 7, 12, 13, 14, 15, 16, 100, 101, 102, 103, 104, 105, 106] (by decide +kernel) (by decide +kernel)
set_option maxRecDepth 20000 in
theorem gX3_scanCommand_X3_skipLetters : GoodIn wsX3_scanCommand (wsV RX3 60 RX3 yX3_skipLetters wsX3_skipLetters) := goodIn_app (goodIn_of _ (by decide +kernel)) ggX3_scanCommand_X3_skipLetters
set_option maxRecDepth 20000 in
theorem ggX3_scanCommand_X3_commandNamed : GoodIn wsX3_scanCommand wsX3_commandNamed := goodIn_r _ [29, 30, 31, 32, 7, 33, 1, 34, 35, 36, 37, 38, 39, 40, 41, 42, 43, 44, 45, 46, 47, 48, 49, 50, 51, 52, 53, 54, 55, 56, 57, 58, 59, 60, 61, 62, 63, 64, 65, 66, 67, 68, 69, 70, 71, 72, 73, 74, 75, 76, 77, 78, 79, 80, 81, 82, 9, 10, 11, 12, 2, 13, 100, 101, 102, 103, 104, 105, 106] (by decide +kernel) (by decide +kernel)
set_option maxRecDepth 20000 in
theorem gX3_scanCommand_X3_commandNamed : GoodIn wsX3_scanCommand (wsV RX3 63 RX3 yX3_commandNamed wsX3_commandNamed) := goodIn_app (goodIn_of _ (by decide +kernel)) ggX3_scanCommand_X3_commandNamed
set_option maxRecDepth 20000 in
theorem ggX3_scanCommand_X3_scanNumbers : GoodIn wsX3_scanCommand wsX3_scanNumbers := goodIn_r _ [86, 87, 21, 88, 89, 90, 91, 7, 92, 1, 9, 10, 11, 12, 2, 13, 17, 18, 19, 20, 4, 5, 6, 8, 93, 94, 95, 100, 101, 102, 103, 104, 105, 106] (by decide +kernel) (by decide +kernel)
set_option maxRecDepth 20000 in
theorem gX3_scanCommand_X3_scanNumbers : GoodIn wsX3_scanCommand (wsV RX3 72 RX3 yX3_scanNumbers wsX3_scanNumbers) := goodIn_app (goodIn_of _ (by decide +kernel)) ggX3_scanCommand_X3_scanNumbers
set_option maxRecDepth 20000 in
theorem ggX3_scanCommand_X3_scanSemicolon : GoodIn wsX3_scanCommand wsX3_scanSemicolon := goodIn_r _ [99, 1, 4, 5, 6, 7, 8, 2, 9, 10, 11, 12, 13, 17, 18, 19, 20, 21, 100, 101, 102, 103, 104, 105, 106] (by decide +kernel) (by decide +kernel)
set_option maxRecDepth 20000 in
theorem gX3_scanCommand_X3_scanSemicolon : GoodIn wsX3_scanCommand (wsV RX3 75 RX3 yX3_scanSemicolon wsX3_scanSemicolon) := goodIn_app (goodIn_of _ (by decide +kernel)) ggX3_scanCommand_X3_scanSemicolon
theorem dX3_scanCommand_0 : decode cX3_scanCommand 0 = .ok (.aload_n 0, 1) := by decide +kernel
theorem dX3_scanCommand_1 : decode cX3_scanCommand 1 = .ok (.invokevirtual 46, 3) := by decide +kernel
theorem dX3_scanCommand_4 : decode cX3_scanCommand 4 = .ok (.aload_n 0, 1) := by decide +kernel
theorem dX3_scanCommand_5 : decode cX3_scanCommand 5 = .ok (.getfield 19, 3) := by decide +kernel
theorem dX3_scanCommand_8 : decode cX3_scanCommand 8 = .ok (.aload_n 0, 1) := by decide +kernel
theorem dX3_scanCommand_9 : decode cX3_scanCommand 9 = .ok (.getfield 15, 3) := by decide +kernel
theorem dX3_scanCommand_12 : decode cX3_scanCommand 12 = .ok (.if_icmp .lt 5, 3) := by decide +kernel
theorem dX3_scanCommand_15 : decode cX3_scanCommand 15 = .ok (.iconst 0, 1) := by decide +kernel
theorem dX3_scanCommand_16 : decode cX3_scanCommand 16 = .ok (.ireturn, 1) := by decide +kernel
theorem dX3_scanCommand_17 : decode cX3_scanCommand 17 = .ok (.aload_n 0, 1) := by decide +kernel
theorem dX3_scanCommand_18 : decode cX3_scanCommand 18 = .ok (.aload_n 0, 1) := by decide +kernel
theorem dX3_scanCommand_19 : decode cX3_scanCommand 19 = .ok (.getfield 19, 3) := by decide +kernel
theorem dX3_scanCommand_22 : decode cX3_scanCommand 22 = .ok (.invokevirtual 49, 3) := by decide +kernel
theorem dX3_scanCommand_25 : decode cX3_scanCommand 25 = .ok (.invokestatic 53, 3) := by decide +kernel
theorem dX3_scanCommand_28 : decode cX3_scanCommand 28 = .ok (.ifCond .ne 12, 3) := by decide +kernel
theorem dX3_scanCommand_31 : decode cX3_scanCommand 31 = .ok (.aload_n 0, 1) := by decide +kernel
theorem dX3_scanCommand_32 : decode cX3_scanCommand 32 = .ok (.aload_n 0, 1) := by decide +kernel
theorem dX3_scanCommand_33 : decode cX3_scanCommand 33 = .ok (.getfield 19, 3) := by decide +kernel
theorem dX3_scanCommand_36 : decode cX3_scanCommand 36 = .ok (.invokevirtual 57, 3) := by decide +kernel
theorem dX3_scanCommand_39 : decode cX3_scanCommand 39 = .ok (.ireturn, 1) := by decide +kernel
theorem dX3_scanCommand_40 : decode cX3_scanCommand 40 = .ok (.aload_n 0, 1) := by decide +kernel
theorem dX3_scanCommand_41 : decode cX3_scanCommand 41 = .ok (.getfield 19, 3) := by decide +kernel
theorem dX3_scanCommand_44 : decode cX3_scanCommand 44 = .ok (.istore_n 1, 1) := by decide +kernel
theorem dX3_scanCommand_45 : decode cX3_scanCommand 45 = .ok (.aload_n 0, 1) := by decide +kernel
theorem dX3_scanCommand_46 : decode cX3_scanCommand 46 = .ok (.invokevirtual 60, 3) := by decide +kernel
theorem dX3_scanCommand_49 : decode cX3_scanCommand 49 = .ok (.aload_n 0, 1) := by decide +kernel
theorem dX3_scanCommand_50 : decode cX3_scanCommand 50 = .ok (.aload_n 0, 1) := by decide +kernel
theorem dX3_scanCommand_51 : decode cX3_scanCommand 51 = .ok (.iload_n 1, 1) := by decide +kernel
theorem dX3_scanCommand_52 : decode cX3_scanCommand 52 = .ok (.invokevirtual 63, 3) := by decide +kernel
theorem dX3_scanCommand_55 : decode cX3_scanCommand 55 = .ok (.putfield 25, 3) := by decide +kernel
theorem dX3_scanCommand_58 : decode cX3_scanCommand 58 = .ok (.aload_n 0, 1) := by decide +kernel
theorem dX3_scanCommand_59 : decode cX3_scanCommand 59 = .ok (.getfield 25, 3) := by decide +kernel
theorem dX3_scanCommand_62 : decode cX3_scanCommand 62 = .ok (.ifnonnull 9, 3) := by decide +kernel
theorem dX3_scanCommand_65 : decode cX3_scanCommand 65 = .ok (.aload_n 0, 1) := by decide +kernel
theorem dX3_scanCommand_66 : decode cX3_scanCommand 66 = .ok (.iload_n 1, 1) := by decide +kernel
theorem dX3_scanCommand_67 : decode cX3_scanCommand 67 = .ok (.invokevirtual 57, 3) := by decide +kernel
theorem dX3_scanCommand_70 : decode cX3_scanCommand 70 = .ok (.ireturn, 1) := by decide +kernel
theorem dX3_scanCommand_71 : decode cX3_scanCommand 71 = .ok (.aload_n 0, 1) := by decide +kernel
theorem dX3_scanCommand_72 : decode cX3_scanCommand 72 = .ok (.aload_n 0, 1) := by decide +kernel
theorem dX3_scanCommand_73 : decode cX3_scanCommand 73 = .ok (.getfield 25, 3) := by decide +kernel
theorem dX3_scanCommand_76 : decode cX3_scanCommand 76 = .ok (.getfield 67, 3) := by decide +kernel
theorem dX3_scanCommand_79 : decode cX3_scanCommand 79 = .ok (.invokevirtual 72, 3) := by decide +kernel
theorem dX3_scanCommand_82 : decode cX3_scanCommand 82 = .ok (.ifCond .eq 14, 3) := by decide +kernel
theorem dX3_scanCommand_85 : decode cX3_scanCommand 85 = .ok (.aload_n 0, 1) := by decide +kernel
theorem dX3_scanCommand_86 : decode cX3_scanCommand 86 = .ok (.invokevirtual 75, 3) := by decide +kernel
theorem dX3_scanCommand_89 : decode cX3_scanCommand 89 = .ok (.ifCond .eq 7, 3) := by decide +kernel
theorem dX3_scanCommand_92 : decode cX3_scanCommand 92 = .ok (.iconst 1, 1) := by decide +kernel
theorem dX3_scanCommand_93 : decode cX3_scanCommand 93 = .ok (.goto 4, 3) := by decide +kernel
theorem dX3_scanCommand_96 : decode cX3_scanCommand 96 = .ok (.iconst 0, 1) := by decide +kernel
theorem dX3_scanCommand_97 : decode cX3_scanCommand 97 = .ok (.ireturn, 1) := by decide +kernel
set_option maxRecDepth 20000 in
theorem ggX3_scanNumbers_X3_scanNumber : GoodIn wsX3_scanNumbers wsX3_scanNumber := goodIn_r _ [8, 9, 10, 11, 12, 7, 13, 14, 15, 16, 17, 18, 19, 2, 20, 21, 22, 23, 24, 25, 26, 27, 28, 29, 30, 31, 32, 33] (by decide +kernel) (by decide +kernel)
set_option maxRecDepth 20000 in
theorem gX3_scanNumbers_X3_scanNumber : GoodIn wsX3_scanNumbers (wsV RX3 78 RX3 yX3_scanNumber wsX3_scanNumber) := goodIn_app (goodIn_of _ (by decide +kernel)) ggX3_scanNumbers_X3_scanNumber
theorem dX3_scanNumbers_0 : decode cX3_scanNumbers 0 = .ok (.iload_n 1, 1) := by decide +kernel
theorem dX3_scanNumbers_1 : decode cX3_scanNumbers 1 = .ok (.ifCond .le 11, 3) := by decide +kernel
theorem dX3_scanNumbers_4 : decode cX3_scanNumbers 4 = .ok (.aload_n 0, 1) := by decide +kernel
theorem dX3_scanNumbers_5 : decode cX3_scanNumbers 5 = .ok (.aload_n 0, 1) := by decide +kernel
theorem dX3_scanNumbers_6 : decode cX3_scanNumbers 6 = .ok (.invokevirtual 78, 3) := by decide +kernel
theorem dX3_scanNumbers_9 : decode cX3_scanNumbers 9 = .ok (.putfield 29, 3) := by decide +kernel
theorem dX3_scanNumbers_12 : decode cX3_scanNumbers 12 = .ok (.iload_n 1, 1) := by decide +kernel
theorem dX3_scanNumbers_13 : decode cX3_scanNumbers 13 = .ok (.iconst 1, 1) := by decide +kernel
theorem dX3_scanNumbers_14 : decode cX3_scanNumbers 14 = .ok (.if_icmp .le 21, 3) := by decide +kernel
theorem dX3_scanNumbers_17 : decode cX3_scanNumbers 17 = .ok (.aload_n 0, 1) := by decide +kernel
theorem dX3_scanNumbers_18 : decode cX3_scanNumbers 18 = .ok (.getfield 22, 3) := by decide +kernel
theorem dX3_scanNumbers_21 : decode cX3_scanNumbers 21 = .ok (.sipush (-1000), 3) := by decide +kernel
theorem dX3_scanNumbers_24 : decode cX3_scanNumbers 24 = .ok (.if_icmp .ne 11, 3) := by decide +kernel
theorem dX3_scanNumbers_27 : decode cX3_scanNumbers 27 = .ok (.aload_n 0, 1) := by decide +kernel
theorem dX3_scanNumbers_28 : decode cX3_scanNumbers 28 = .ok (.aload_n 0, 1) := by decide +kernel
theorem dX3_scanNumbers_29 : decode cX3_scanNumbers 29 = .ok (.invokevirtual 78, 3) := by decide +kernel
theorem dX3_scanNumbers_32 : decode cX3_scanNumbers 32 = .ok (.putfield 32, 3) := by decide +kernel
theorem dX3_scanNumbers_35 : decode cX3_scanNumbers 35 = .ok (.aload_n 0, 1) := by decide +kernel
theorem dX3_scanNumbers_36 : decode cX3_scanNumbers 36 = .ok (.getfield 22, 3) := by decide +kernel
theorem dX3_scanNumbers_39 : decode cX3_scanNumbers 39 = .ok (.sipush (-1000), 3) := by decide +kernel
theorem dX3_scanNumbers_42 : decode cX3_scanNumbers 42 = .ok (.if_icmp .ne 7, 3) := by decide +kernel
theorem dX3_scanNumbers_45 : decode cX3_scanNumbers 45 = .ok (.iconst 1, 1) := by decide +kernel
theorem dX3_scanNumbers_46 : decode cX3_scanNumbers 46 = .ok (.goto 4, 3) := by decide +kernel
theorem dX3_scanNumbers_49 : decode cX3_scanNumbers 49 = .ok (.iconst 0, 1) := by decide +kernel
theorem dX3_scanNumbers_50 : decode cX3_scanNumbers 50 = .ok (.ireturn, 1) := by decide +kernel
set_option maxRecDepth 20000 in
theorem ggX3_scanNumber_X3_byteAt : GoodIn wsX3_scanNumber wsX3_byteAt := goodIn_r _ [6, 7, 8, 21, 22, 23, 24, 25, 26, 27] (by decide +kernel) (by decide +kernel)
set_option maxRecDepth 20000 in
theorem gX3_scanNumber_X3_byteAt : GoodIn wsX3_scanNumber (wsV RX3 49 RX3 yX3_byteAt wsX3_byteAt) := goodIn_app (goodIn_of _ (by decide +kernel)) ggX3_scanNumber_X3_byteAt
set_option maxRecDepth 20000 in
theorem ggX3_scanNumber_X3_failAt : GoodIn wsX3_scanNumber wsX3_failAt := goodIn_r _ [12, 13, 21, 22, 23, 24, 25, 26, 27] (by decide +kernel) (by decide +kernel)
set_option maxRecDepth 20000 in
theorem gX3_scanNumber_X3_failAt : GoodIn wsX3_scanNumber (wsV RX3 57 RX3 yX3_failAt wsX3_failAt) := goodIn_app (goodIn_of _ (by decide +kernel)) ggX3_scanNumber_X3_failAt
set_option maxRecDepth 20000 in
theorem ggX3_scanNumber_X3_skipSpaces : GoodIn wsX3_scanNumber wsX3_skipSpaces := goodIn_r _ [17, 1, 7, 2, 3, 4, 5, 6, 8, 21, 22, 23, 24, 25, 26, 27] (by decide +kernel) (by decide +kernel)
set_option maxRecDepth 20000 in
theorem gX3_scanNumber_X3_skipSpaces : GoodIn wsX3_scanNumber (wsV RX3 46 RX3 yX3_skipSpaces wsX3_skipSpaces) := goodIn_app (goodIn_of _ (by decide +kernel)) ggX3_scanNumber_X3_skipSpaces
set_option maxRecDepth 20000 in
theorem ggX3_scanNumber_X3_isDigit : GoodIn wsX3_scanNumber wsX3_isDigit := goodIn_r _ [20] (by decide +kernel) (by decide +kernel)
set_option maxRecDepth 20000 in
theorem gX3_scanNumber_X3_isDigit : GoodIn wsX3_scanNumber (va_wsS RX3 82 yX3_isDigit wsX3_isDigit) := goodIn_app (goodIn_of _ (by decide +kernel)) ggX3_scanNumber_X3_isDigit
theorem dX3_scanNumber_0 : decode cX3_scanNumber 0 = .ok (.aload_n 0, 1) := by decide +kernel
theorem dX3_scanNumber_1 : decode cX3_scanNumber 1 = .ok (.aload_n 0, 1) := by decide +kernel
theorem dX3_scanNumber_2 : decode cX3_scanNumber 2 = .ok (.getfield 19, 3) := by decide +kernel
theorem dX3_scanNumber_5 : decode cX3_scanNumber 5 = .ok (.invokevirtual 49, 3) := by decide +kernel
theorem dX3_scanNumber_8 : decode cX3_scanNumber 8 = .ok (.bipush 32, 2) := by decide +kernel
theorem dX3_scanNumber_10 : decode cX3_scanNumber 10 = .ok (.if_icmp .eq 14, 3) := by decide +kernel
theorem dX3_scanNumber_13 : decode cX3_scanNumber 13 = .ok (.aload_n 0, 1) := by decide +kernel
theorem dX3_scanNumber_14 : decode cX3_scanNumber 14 = .ok (.aload_n 0, 1) := by decide +kernel
theorem dX3_scanNumber_15 : decode cX3_scanNumber 15 = .ok (.getfield 19, 3) := by decide +kernel
theorem dX3_scanNumber_18 : decode cX3_scanNumber 18 = .ok (.invokevirtual 57, 3) := by decide +kernel
theorem dX3_scanNumber_21 : decode cX3_scanNumber 21 = .ok (.pop, 1) := by decide +kernel
theorem dX3_scanNumber_22 : decode cX3_scanNumber 22 = .ok (.iconst 0, 1) := by decide +kernel
theorem dX3_scanNumber_23 : decode cX3_scanNumber 23 = .ok (.ireturn, 1) := by decide +kernel
theorem dX3_scanNumber_24 : decode cX3_scanNumber 24 = .ok (.aload_n 0, 1) := by decide +kernel
theorem dX3_scanNumber_25 : decode cX3_scanNumber 25 = .ok (.invokevirtual 46, 3) := by decide +kernel
theorem dX3_scanNumber_28 : decode cX3_scanNumber 28 = .ok (.aload_n 0, 1) := by decide +kernel
theorem dX3_scanNumber_29 : decode cX3_scanNumber 29 = .ok (.aload_n 0, 1) := by decide +kernel
theorem dX3_scanNumber_30 : decode cX3_scanNumber 30 = .ok (.getfield 19, 3) := by decide +kernel
theorem dX3_scanNumber_33 : decode cX3_scanNumber 33 = .ok (.invokevirtual 49, 3) := by decide +kernel
theorem dX3_scanNumber_36 : decode cX3_scanNumber 36 = .ok (.invokestatic 82, 3) := by decide +kernel
theorem dX3_scanNumber_39 : decode cX3_scanNumber 39 = .ok (.ifCond .ne 14, 3) := by decide +kernel
theorem dX3_scanNumber_42 : decode cX3_scanNumber 42 = .ok (.aload_n 0, 1) := by decide +kernel
theorem dX3_scanNumber_43 : decode cX3_scanNumber 43 = .ok (.aload_n 0, 1) := by decide +kernel
theorem dX3_scanNumber_44 : decode cX3_scanNumber 44 = .ok (.getfield 19, 3) := by decide +kernel
theorem dX3_scanNumber_47 : decode cX3_scanNumber 47 = .ok (.invokevirtual 57, 3) := by decide +kernel
theorem dX3_scanNumber_50 : decode cX3_scanNumber 50 = .ok (.pop, 1) := by decide +kernel
theorem dX3_scanNumber_51 : decode cX3_scanNumber 51 = .ok (.iconst 0, 1) := by decide +kernel
theorem dX3_scanNumber_52 : decode cX3_scanNumber 52 = .ok (.ireturn, 1) := by decide +kernel
theorem dX3_scanNumber_53 : decode cX3_scanNumber 53 = .ok (.iconst 0, 1) := by decide +kernel
theorem dX3_scanNumber_54 : decode cX3_scanNumber 54 = .ok (.istore_n 1, 1) := by decide +kernel
theorem dX3_scanNumber_55 : decode cX3_scanNumber 55 = .ok (.iconst 0, 1) := by decide +kernel
theorem dX3_scanNumber_56 : decode cX3_scanNumber 56 = .ok (.istore_n 2, 1) := by decide +kernel
theorem dX3_scanNumber_57 : decode cX3_scanNumber 57 = .ok (.iload_n 2, 1) := by decide +kernel
theorem dX3_scanNumber_58 : decode cX3_scanNumber 58 = .ok (.iconst 3, 1) := by decide +kernel
theorem dX3_scanNumber_59 : decode cX3_scanNumber 59 = .ok (.if_icmp .ge 50, 3) := by decide +kernel
theorem dX3_scanNumber_62 : decode cX3_scanNumber 62 = .ok (.aload_n 0, 1) := by decide +kernel
theorem dX3_scanNumber_63 : decode cX3_scanNumber 63 = .ok (.aload_n 0, 1) := by decide +kernel
theorem dX3_scanNumber_64 : decode cX3_scanNumber 64 = .ok (.getfield 19, 3) := by decide +kernel
theorem dX3_scanNumber_67 : decode cX3_scanNumber 67 = .ok (.invokevirtual 49, 3) := by decide +kernel
theorem dX3_scanNumber_70 : decode cX3_scanNumber 70 = .ok (.invokestatic 82, 3) := by decide +kernel
theorem dX3_scanNumber_73 : decode cX3_scanNumber 73 = .ok (.ifCond .eq 36, 3) := by decide +kernel
theorem dX3_scanNumber_76 : decode cX3_scanNumber 76 = .ok (.bipush 10, 2) := by decide +kernel
theorem dX3_scanNumber_78 : decode cX3_scanNumber 78 = .ok (.iload_n 1, 1) := by decide +kernel
theorem dX3_scanNumber_79 : decode cX3_scanNumber 79 = .ok (.imul, 1) := by decide +kernel
theorem dX3_scanNumber_80 : decode cX3_scanNumber 80 = .ok (.aload_n 0, 1) := by decide +kernel
theorem dX3_scanNumber_81 : decode cX3_scanNumber 81 = .ok (.aload_n 0, 1) := by decide +kernel
theorem dX3_scanNumber_82 : decode cX3_scanNumber 82 = .ok (.getfield 19, 3) := by decide +kernel
theorem dX3_scanNumber_85 : decode cX3_scanNumber 85 = .ok (.invokevirtual 49, 3) := by decide +kernel
theorem dX3_scanNumber_88 : decode cX3_scanNumber 88 = .ok (.iadd, 1) := by decide +kernel
theorem dX3_scanNumber_89 : decode cX3_scanNumber 89 = .ok (.bipush 48, 2) := by decide +kernel
theorem dX3_scanNumber_91 : decode cX3_scanNumber 91 = .ok (.isub, 1) := by decide +kernel
theorem dX3_scanNumber_92 : decode cX3_scanNumber 92 = .ok (.istore_n 1, 1) := by decide +kernel
theorem dX3_scanNumber_93 : decode cX3_scanNumber 93 = .ok (.aload_n 0, 1) := by decide +kernel
theorem dX3_scanNumber_94 : decode cX3_scanNumber 94 = .ok (.dup, 1) := by decide +kernel
theorem dX3_scanNumber_95 : decode cX3_scanNumber 95 = .ok (.getfield 19, 3) := by decide +kernel
theorem dX3_scanNumber_98 : decode cX3_scanNumber 98 = .ok (.iconst 1, 1) := by decide +kernel
theorem dX3_scanNumber_99 : decode cX3_scanNumber 99 = .ok (.iadd, 1) := by decide +kernel
theorem dX3_scanNumber_100 : decode cX3_scanNumber 100 = .ok (.putfield 19, 3) := by decide +kernel
theorem dX3_scanNumber_103 : decode cX3_scanNumber 103 = .ok (.iinc 2 1, 3) := by decide +kernel
theorem dX3_scanNumber_106 : decode cX3_scanNumber 106 = .ok (.goto (-49), 3) := by decide +kernel
theorem dX3_scanNumber_109 : decode cX3_scanNumber 109 = .ok (.iload_n 1, 1) := by decide +kernel
theorem dX3_scanNumber_110 : decode cX3_scanNumber 110 = .ok (.ireturn, 1) := by decide +kernel
set_option maxRecDepth 20000 in
theorem ggX3_scanSemicolon_X3_skipSpaces : GoodIn wsX3_scanSemicolon wsX3_skipSpaces := goodIn_r _ [6, 1, 7, 8, 9, 10, 5, 11, 12, 18, 19, 20, 21, 22, 23, 24] (by decide +kernel) (by decide +kernel)
set_option maxRecDepth 20000 in
theorem gX3_scanSemicolon_X3_skipSpaces : GoodIn wsX3_scanSemicolon (wsV RX3 46 RX3 yX3_skipSpaces wsX3_skipSpaces) := goodIn_app (goodIn_of _ (by decide +kernel)) ggX3_scanSemicolon_X3_skipSpaces
set_option maxRecDepth 20000 in
theorem ggX3_scanSemicolon_X3_byteAt : GoodIn wsX3_scanSemicolon wsX3_byteAt := goodIn_r _ [11, 7, 12, 18, 19, 20, 21, 22, 23, 24] (by decide +kernel) (by decide +kernel)
set_option maxRecDepth 20000 in
theorem gX3_scanSemicolon_X3_byteAt : GoodIn wsX3_scanSemicolon (wsV RX3 49 RX3 yX3_byteAt wsX3_byteAt) := goodIn_app (goodIn_of _ (by decide +kernel)) ggX3_scanSemicolon_X3_byteAt
set_option maxRecDepth 20000 in
theorem ggX3_scanSemicolon_X3_failAt : GoodIn wsX3_scanSemicolon wsX3_failAt := goodIn_r _ [16, 17, 18, 19, 20, 21, 22, 23, 24] (by decide +kernel) (by decide +kernel)
set_option maxRecDepth 20000 in
theorem gX3_scanSemicolon_X3_failAt : GoodIn wsX3_scanSemicolon (wsV RX3 57 RX3 yX3_failAt wsX3_failAt) := goodIn_app (goodIn_of _ (by decide +kernel)) ggX3_scanSemicolon_X3_failAt
theorem dX3_scanSemicolon_0 : decode cX3_scanSemicolon 0 = .ok (.aload_n 0, 1) := by decide +kernel
theorem dX3_scanSemicolon_1 : decode cX3_scanSemicolon 1 = .ok (.invokevirtual 46, 3) := by decide +kernel
theorem dX3_scanSemicolon_4 : decode cX3_scanSemicolon 4 = .ok (.aload_n 0, 1) := by decide +kernel
theorem dX3_scanSemicolon_5 : decode cX3_scanSemicolon 5 = .ok (.aload_n 0, 1) := by decide +kernel
theorem dX3_scanSemicolon_6 : decode cX3_scanSemicolon 6 = .ok (.getfield 19, 3) := by decide +kernel
theorem dX3_scanSemicolon_9 : decode cX3_scanSemicolon 9 = .ok (.invokevirtual 49, 3) := by decide +kernel
theorem dX3_scanSemicolon_12 : decode cX3_scanSemicolon 12 = .ok (.bipush 59, 2) := by decide +kernel
theorem dX3_scanSemicolon_14 : decode cX3_scanSemicolon 14 = .ok (.if_icmp .eq 12, 3) := by decide +kernel
theorem dX3_scanSemicolon_17 : decode cX3_scanSemicolon 17 = .ok (.aload_n 0, 1) := by decide +kernel
theorem dX3_scanSemicolon_18 : decode cX3_scanSemicolon 18 = .ok (.aload_n 0, 1) := by decide +kernel
theorem dX3_scanSemicolon_19 : decode cX3_scanSemicolon 19 = .ok (.getfield 19, 3) := by decide +kernel
theorem dX3_scanSemicolon_22 : decode cX3_scanSemicolon 22 = .ok (.invokevirtual 57, 3) := by decide +kernel
theorem dX3_scanSemicolon_25 : decode cX3_scanSemicolon 25 = .ok (.ireturn, 1) := by decide +kernel
theorem dX3_scanSemicolon_26 : decode cX3_scanSemicolon 26 = .ok (.aload_n 0, 1) := by decide +kernel
theorem dX3_scanSemicolon_27 : decode cX3_scanSemicolon 27 = .ok (.dup, 1) := by decide +kernel
theorem dX3_scanSemicolon_28 : decode cX3_scanSemicolon 28 = .ok (.getfield 19, 3) := by decide +kernel
theorem dX3_scanSemicolon_31 : decode cX3_scanSemicolon 31 = .ok (.iconst 1, 1) := by decide +kernel
theorem dX3_scanSemicolon_32 : decode cX3_scanSemicolon 32 = .ok (.iadd, 1) := by decide +kernel
theorem dX3_scanSemicolon_33 : decode cX3_scanSemicolon 33 = .ok (.putfield 19, 3) := by decide +kernel
theorem dX3_scanSemicolon_36 : decode cX3_scanSemicolon 36 = .ok (.iconst 1, 1) := by decide +kernel
theorem dX3_scanSemicolon_37 : decode cX3_scanSemicolon 37 = .ok (.ireturn, 1) := by decide +kernel
theorem dX3_failAt_0 : decode cX3_failAt 0 = .ok (.aload_n 0, 1) := by decide +kernel
theorem dX3_failAt_1 : decode cX3_failAt 1 = .ok (.iload_n 1, 1) := by decide +kernel
theorem dX3_failAt_2 : decode cX3_failAt 2 = .ok (.putfield 22, 3) := by decide +kernel
theorem dX3_failAt_5 : decode cX3_failAt 5 = .ok (.iconst 0, 1) := by decide +kernel
theorem dX3_failAt_6 : decode cX3_failAt 6 = .ok (.ireturn, 1) := by decide +kernel
set_option maxRecDepth 20000 in
theorem ggX3_skipSpaces_X3_byteAt : GoodIn wsX3_skipSpaces wsX3_byteAt := goodIn_r _ [7, 2, 8, 9, 10, 11, 12, 13, 14, 15] (by decide +kernel) (by decide +kernel)
set_option maxRecDepth 20000 in
theorem gX3_skipSpaces_X3_byteAt : GoodIn wsX3_skipSpaces (wsV RX3 49 RX3 yX3_byteAt wsX3_byteAt) := goodIn_app (goodIn_of _ (by decide +kernel)) ggX3_skipSpaces_X3_byteAt
theorem dX3_skipSpaces_0 : decode cX3_skipSpaces 0 = .ok (.aload_n 0, 1) := by decide +kernel
theorem dX3_skipSpaces_1 : decode cX3_skipSpaces 1 = .ok (.getfield 19, 3) := by decide +kernel
theorem dX3_skipSpaces_4 : decode cX3_skipSpaces 4 = .ok (.aload_n 0, 1) := by decide +kernel
theorem dX3_skipSpaces_5 : decode cX3_skipSpaces 5 = .ok (.getfield 15, 3) := by decide +kernel
theorem dX3_skipSpaces_8 : decode cX3_skipSpaces 8 = .ok (.if_icmp .ge 29, 3) := by decide +kernel
theorem dX3_skipSpaces_11 : decode cX3_skipSpaces 11 = .ok (.aload_n 0, 1) := by decide +kernel
theorem dX3_skipSpaces_12 : decode cX3_skipSpaces 12 = .ok (.aload_n 0, 1) := by decide +kernel
theorem dX3_skipSpaces_13 : decode cX3_skipSpaces 13 = .ok (.getfield 19, 3) := by decide +kernel
theorem dX3_skipSpaces_16 : decode cX3_skipSpaces 16 = .ok (.invokevirtual 49, 3) := by decide +kernel
theorem dX3_skipSpaces_19 : decode cX3_skipSpaces 19 = .ok (.bipush 32, 2) := by decide +kernel
theorem dX3_skipSpaces_21 : decode cX3_skipSpaces 21 = .ok (.if_icmp .ne 16, 3) := by decide +kernel
theorem dX3_skipSpaces_24 : decode cX3_skipSpaces 24 = .ok (.aload_n 0, 1) := by decide +kernel
theorem dX3_skipSpaces_25 : decode cX3_skipSpaces 25 = .ok (.dup, 1) := by decide +kernel
theorem dX3_skipSpaces_26 : decode cX3_skipSpaces 26 = .ok (.getfield 19, 3) := by decide +kernel
theorem dX3_skipSpaces_29 : decode cX3_skipSpaces 29 = .ok (.iconst 1, 1) := by decide +kernel
theorem dX3_skipSpaces_30 : decode cX3_skipSpaces 30 = .ok (.iadd, 1) := by decide +kernel
theorem dX3_skipSpaces_31 : decode cX3_skipSpaces 31 = .ok (.putfield 19, 3) := by decide +kernel
theorem dX3_skipSpaces_34 : decode cX3_skipSpaces 34 = .ok (.goto (-34), 3) := by decide +kernel
theorem dX3_skipSpaces_37 : decode cX3_skipSpaces 37 = .ok (.return_, 1) := by decide +kernel
set_option maxRecDepth 20000 in
theorem ggX3_skipLetters_X3_byteAt : GoodIn wsX3_skipLetters wsX3_byteAt := goodIn_r _ [7, 2, 8, 12, 13, 14, 15, 16, 17, 18] (by decide +kernel) (by decide +kernel)
set_option maxRecDepth 20000 in
theorem gX3_skipLetters_X3_byteAt : GoodIn wsX3_skipLetters (wsV RX3 49 RX3 yX3_byteAt wsX3_byteAt) := goodIn_app (goodIn_of _ (by decide +kernel)) ggX3_skipLetters_X3_byteAt
set_option maxRecDepth 20000 in
theorem ggX3_skipLetters_X3_isLetter : GoodIn wsX3_skipLetters wsX3_isLetter := goodIn_r _ [11] (by decide +kernel) (by decide +kernel)
set_option maxRecDepth 20000 in
theorem gX3_skipLetters_X3_isLetter : GoodIn wsX3_skipLetters (va_wsS RX3 53 yX3_isLetter wsX3_isLetter) := goodIn_app (goodIn_of _ (by decide +kernel)) ggX3_skipLetters_X3_isLetter
theorem dX3_skipLetters_0 : decode cX3_skipLetters 0 = .ok (.aload_n 0, 1) := by decide +kernel
theorem dX3_skipLetters_1 : decode cX3_skipLetters 1 = .ok (.getfield 19, 3) := by decide +kernel
theorem dX3_skipLetters_4 : decode cX3_skipLetters 4 = .ok (.aload_n 0, 1) := by decide +kernel
theorem dX3_skipLetters_5 : decode cX3_skipLetters 5 = .ok (.getfield 15, 3) := by decide +kernel
theorem dX3_skipLetters_8 : decode cX3_skipLetters 8 = .ok (.if_icmp .ge 30, 3) := by decide +kernel
theorem dX3_skipLetters_11 : decode cX3_skipLetters 11 = .ok (.aload_n 0, 1) := by decide +kernel
theorem dX3_skipLetters_12 : decode cX3_skipLetters 12 = .ok (.aload_n 0, 1) := by decide +kernel
theorem dX3_skipLetters_13 : decode cX3_skipLetters 13 = .ok (.getfield 19, 3) := by decide +kernel
theorem dX3_skipLetters_16 : decode cX3_skipLetters 16 = .ok (.invokevirtual 49, 3) := by decide +kernel
theorem dX3_skipLetters_19 : decode cX3_skipLetters 19 = .ok (.invokestatic 53, 3) := by decide +kernel
theorem dX3_skipLetters_22 : decode cX3_skipLetters 22 = .ok (.ifCond .eq 16, 3) := by decide +kernel
theorem dX3_skipLetters_25 : decode cX3_skipLetters 25 = .ok (.aload_n 0, 1) := by decide +kernel
theorem dX3_skipLetters_26 : decode cX3_skipLetters 26 = .ok (.dup, 1) := by decide +kernel
theorem dX3_skipLetters_27 : decode cX3_skipLetters 27 = .ok (.getfield 19, 3) := by decide +kernel
theorem dX3_skipLetters_30 : decode cX3_skipLetters 30 = .ok (.iconst 1, 1) := by decide +kernel
theorem dX3_skipLetters_31 : decode cX3_skipLetters 31 = .ok (.iadd, 1) := by decide +kernel
theorem dX3_skipLetters_32 : decode cX3_skipLetters 32 = .ok (.putfield 19, 3) := by decide +kernel
theorem dX3_skipLetters_35 : decode cX3_skipLetters 35 = .ok (.goto (-35), 3) := by decide +kernel
theorem dX3_skipLetters_38 : decode cX3_skipLetters 38 = .ok (.return_, 1) := by decide +kernel
set_option maxRecDepth 20000 in
theorem ggX3_commandNamed_X3_isWord : GoodIn wsX3_commandNamed wsX3_isWord := goodIn_r _ [5, 6, 7, 8, 9, 10, 11, 12, 13, 14, 15, 16, 17, 18, 19, 20, 21, 22, 23, 24, 25, 26, 27, 28, 29, 30, 31, 32, 33, 34, 35, 36, 37, 38, 39, 40, 41, 42, 43, 44, 45, 46, 47, 48, 49, 50, 51, 52, 53, 54, 55, 56, 57, 58, 4, 59, 60, 61, 62, 63, 64, 65, 66, 67, 68] (by decide +kernel) (by decide +kernel)
set_option maxRecDepth 20000 in
theorem gX3_commandNamed_X3_isWord : GoodIn wsX3_commandNamed (wsV RX3 93 RX3 yX3_isWord wsX3_isWord) := goodIn_app (goodIn_of _ (by decide +kernel)) ggX3_commandNamed_X3_isWord
theorem dX3_commandNamed_0 : decode cX3_commandNamed 0 = .ok (.getstatic 85, 3) := by decide +kernel
theorem dX3_commandNamed_3 : decode cX3_commandNamed 3 = .ok (.astore_n 2, 1) := by decide +kernel
theorem dX3_commandNamed_4 : decode cX3_commandNamed 4 = .ok (.aload_n 2, 1) := by decide +kernel
theorem dX3_commandNamed_5 : decode cX3_commandNamed 5 = .ok (.arraylength, 1) := by decide +kernel
theorem dX3_commandNamed_6 : decode cX3_commandNamed 6 = .ok (.istore_n 3, 1) := by decide +kernel
theorem dX3_commandNamed_7 : decode cX3_commandNamed 7 = .ok (.iconst 0, 1) := by decide +kernel
theorem dX3_commandNamed_8 : decode cX3_commandNamed 8 = .ok (.istore 4, 2) := by decide +kernel
theorem dX3_commandNamed_10 : decode cX3_commandNamed 10 = .ok (.iload 4, 2) := by decide +kernel
theorem dX3_commandNamed_12 : decode cX3_commandNamed 12 = .ok (.iload_n 3, 1) := by decide +kernel
theorem dX3_commandNamed_13 : decode cX3_commandNamed 13 = .ok (.if_icmp .ge 31, 3) := by decide +kernel
theorem dX3_commandNamed_16 : decode cX3_commandNamed 16 = .ok (.aload_n 2, 1) := by decide +kernel
theorem dX3_commandNamed_17 : decode cX3_commandNamed 17 = .ok (.iload 4, 2) := by decide +kernel
theorem dX3_commandNamed_19 : decode cX3_commandNamed 19 = .ok (.aaload, 1) := by decide +kernel
theorem dX3_commandNamed_20 : decode cX3_commandNamed 20 = .ok (.astore 5, 2) := by decide +kernel
theorem dX3_commandNamed_22 : decode cX3_commandNamed 22 = .ok (.aload_n 0, 1) := by decide +kernel
theorem dX3_commandNamed_23 : decode cX3_commandNamed 23 = .ok (.aload 5, 2) := by decide +kernel
theorem dX3_commandNamed_25 : decode cX3_commandNamed 25 = .ok (.getfield 89, 3) := by decide +kernel
theorem dX3_commandNamed_28 : decode cX3_commandNamed 28 = .ok (.iload_n 1, 1) := by decide +kernel
theorem dX3_commandNamed_29 : decode cX3_commandNamed 29 = .ok (.invokevirtual 93, 3) := by decide +kernel
theorem dX3_commandNamed_32 : decode cX3_commandNamed 32 = .ok (.ifCond .eq 6, 3) := by decide +kernel
theorem dX3_commandNamed_35 : decode cX3_commandNamed 35 = .ok (.aload 5, 2) := by decide +kernel
theorem dX3_commandNamed_37 : decode cX3_commandNamed 37 = .ok (.areturn, 1) := by decide +kernel
theorem dX3_commandNamed_38 : decode cX3_commandNamed 38 = .ok (.iinc 4 1, 3) := by decide +kernel
theorem dX3_commandNamed_41 : decode cX3_commandNamed 41 = .ok (.goto (-31), 3) := by decide +kernel
theorem dX3_commandNamed_44 : decode cX3_commandNamed 44 = .ok (.aconst_null, 1) := by decide +kernel
theorem dX3_commandNamed_45 : decode cX3_commandNamed 45 = .ok (.areturn, 1) := by decide +kernel
set_option maxRecDepth 20000 in
theorem ggX3_isWord_J0_length_8abf5 : GoodIn wsX3_isWord wsJ0_length_8abf5 := goodIn_r _ [6, 7, 8, 9, 10, 5, 11, 12, 13] (by decide +kernel) (by decide +kernel)
set_option maxRecDepth 20000 in
theorem gX3_isWord_J0_length_8abf5 : GoodIn wsX3_isWord (wsV RX3 97 RJ0 yJ0_length_8abf5 wsJ0_length_8abf5) := goodIn_app (goodIn_of _ (by decide +kernel)) ggX3_isWord_J0_length_8abf5
set_option maxRecDepth 20000 in
theorem ggX3_isWord_J0_charAt_5068e : GoodIn wsX3_isWord wsJ0_charAt_5068e := goodIn_r _ [17, 7, 18, 19, 20, 5, 21, 12, 13, 22, 23, 24, 25, 26, 27, 28, 29, 30, 31, 32, 33, 34, 35, 36, 37, 38, 39, 40, 41, 42, 43, 44, 45, 46, 47, 48, 49, 50] (by decide +kernel) (by decide +kernel)
set_option maxRecDepth 20000 in
theorem gX3_isWord_J0_charAt_5068e : GoodIn wsX3_isWord (wsV RX3 101 RJ0 yJ0_charAt_5068e wsJ0_charAt_5068e) := goodIn_app (goodIn_of _ (by decide +kernel)) ggX3_isWord_J0_charAt_5068e
set_option maxRecDepth 20000 in
theorem ggX3_isWord_X3_byteAt : GoodIn wsX3_isWord wsX3_byteAt := goodIn_r _ [55, 56, 57, 58, 59, 60, 61, 62, 63, 64] (by decide +kernel) (by decide +kernel)
set_option maxRecDepth 20000 in
theorem gX3_isWord_X3_byteAt : GoodIn wsX3_isWord (wsV RX3 49 RX3 yX3_byteAt wsX3_byteAt) := goodIn_app (goodIn_of _ (by decide +kernel)) ggX3_isWord_X3_byteAt
theorem dX3_isWord_0 : decode cX3_isWord 0 = .ok (.aload_n 1, 1) := by decide +kernel
theorem dX3_isWord_1 : decode cX3_isWord 1 = .ok (.invokevirtual 97, 3) := by decide +kernel
theorem dX3_isWord_4 : decode cX3_isWord 4 = .ok (.aload_n 0, 1) := by decide +kernel
theorem dX3_isWord_5 : decode cX3_isWord 5 = .ok (.getfield 19, 3) := by decide +kernel
theorem dX3_isWord_8 : decode cX3_isWord 8 = .ok (.iload_n 2, 1) := by decide +kernel
theorem dX3_isWord_9 : decode cX3_isWord 9 = .ok (.isub, 1) := by decide +kernel
theorem dX3_isWord_10 : decode cX3_isWord 10 = .ok (.if_icmp .eq 5, 3) := by decide +kernel
theorem dX3_isWord_13 : decode cX3_isWord 13 = .ok (.iconst 0, 1) := by decide +kernel
theorem dX3_isWord_14 : decode cX3_isWord 14 = .ok (.ireturn, 1) := by decide +kernel
theorem dX3_isWord_15 : decode cX3_isWord 15 = .ok (.iconst 0, 1) := by decide +kernel
theorem dX3_isWord_16 : decode cX3_isWord 16 = .ok (.istore_n 3, 1) := by decide +kernel
theorem dX3_isWord_17 : decode cX3_isWord 17 = .ok (.iload_n 3, 1) := by decide +kernel
theorem dX3_isWord_18 : decode cX3_isWord 18 = .ok (.aload_n 1, 1) := by decide +kernel
theorem dX3_isWord_19 : decode cX3_isWord 19 = .ok (.invokevirtual 97, 3) := by decide +kernel
theorem dX3_isWord_22 : decode cX3_isWord 22 = .ok (.if_icmp .ge 26, 3) := by decide +kernel
theorem dX3_isWord_25 : decode cX3_isWord 25 = .ok (.aload_n 1, 1) := by decide +kernel
theorem dX3_isWord_26 : decode cX3_isWord 26 = .ok (.iload_n 3, 1) := by decide +kernel
theorem dX3_isWord_27 : decode cX3_isWord 27 = .ok (.invokevirtual 101, 3) := by decide +kernel
theorem dX3_isWord_30 : decode cX3_isWord 30 = .ok (.aload_n 0, 1) := by decide +kernel
theorem dX3_isWord_31 : decode cX3_isWord 31 = .ok (.iload_n 2, 1) := by decide +kernel
theorem dX3_isWord_32 : decode cX3_isWord 32 = .ok (.iload_n 3, 1) := by decide +kernel
theorem dX3_isWord_33 : decode cX3_isWord 33 = .ok (.iadd, 1) := by decide +kernel
theorem dX3_isWord_34 : decode cX3_isWord 34 = .ok (.invokevirtual 49, 3) := by decide +kernel
theorem dX3_isWord_37 : decode cX3_isWord 37 = .ok (.if_icmp .eq 5, 3) := by decide +kernel
theorem dX3_isWord_40 : decode cX3_isWord 40 = .ok (.iconst 0, 1) := by decide +kernel
theorem dX3_isWord_41 : decode cX3_isWord 41 = .ok (.ireturn, 1) := by decide +kernel
theorem dX3_isWord_42 : decode cX3_isWord 42 = .ok (.iinc 3 1, 3) := by decide +kernel
theorem dX3_isWord_45 : decode cX3_isWord 45 = .ok (.goto (-28), 3) := by decide +kernel
theorem dX3_isWord_48 : decode cX3_isWord 48 = .ok (.iconst 1, 1) := by decide +kernel
theorem dX3_isWord_49 : decode cX3_isWord 49 = .ok (.ireturn, 1) := by decide +kernel
theorem dX3_byteAt_0 : decode cX3_byteAt 0 = .ok (.iload_n 1, 1) := by decide +kernel
theorem dX3_byteAt_1 : decode cX3_byteAt 1 = .ok (.ifCond .lt 27, 3) := by decide +kernel
theorem dX3_byteAt_4 : decode cX3_byteAt 4 = .ok (.iload_n 1, 1) := by decide +kernel
theorem dX3_byteAt_5 : decode cX3_byteAt 5 = .ok (.aload_n 0, 1) := by decide +kernel
theorem dX3_byteAt_6 : decode cX3_byteAt 6 = .ok (.getfield 15, 3) := by decide +kernel
theorem dX3_byteAt_9 : decode cX3_byteAt 9 = .ok (.if_icmp .ge 19, 3) := by decide +kernel
theorem dX3_byteAt_12 : decode cX3_byteAt 12 = .ok (.iload_n 1, 1) := by decide +kernel
theorem dX3_byteAt_13 : decode cX3_byteAt 13 = .ok (.sipush 150, 3) := by decide +kernel
theorem dX3_byteAt_16 : decode cX3_byteAt 16 = .ok (.if_icmp .ge 12, 3) := by decide +kernel
theorem dX3_byteAt_19 : decode cX3_byteAt 19 = .ok (.aload_n 0, 1) := by decide +kernel
theorem dX3_byteAt_20 : decode cX3_byteAt 20 = .ok (.getfield 9, 3) := by decide +kernel
theorem dX3_byteAt_23 : decode cX3_byteAt 23 = .ok (.iload_n 1, 1) := by decide +kernel
theorem dX3_byteAt_24 : decode cX3_byteAt 24 = .ok (.iaload, 1) := by decide +kernel
theorem dX3_byteAt_25 : decode cX3_byteAt 25 = .ok (.goto 4, 3) := by decide +kernel
theorem dX3_byteAt_28 : decode cX3_byteAt 28 = .ok (.iconst (-1), 1) := by decide +kernel
theorem dX3_byteAt_29 : decode cX3_byteAt 29 = .ok (.ireturn, 1) := by decide +kernel
theorem dX3_isLetter_0 : decode cX3_isLetter 0 = .ok (.iload_n 0, 1) := by decide +kernel
theorem dX3_isLetter_1 : decode cX3_isLetter 1 = .ok (.bipush 97, 2) := by decide +kernel
theorem dX3_isLetter_3 : decode cX3_isLetter 3 = .ok (.if_icmp .lt 13, 3) := by decide +kernel
theorem dX3_isLetter_6 : decode cX3_isLetter 6 = .ok (.iload_n 0, 1) := by decide +kernel
theorem dX3_isLetter_7 : decode cX3_isLetter 7 = .ok (.bipush 122, 2) := by decide +kernel
theorem dX3_isLetter_9 : decode cX3_isLetter 9 = .ok (.if_icmp .gt 7, 3) := by decide +kernel
theorem dX3_isLetter_12 : decode cX3_isLetter 12 = .ok (.iconst 1, 1) := by decide +kernel
theorem dX3_isLetter_13 : decode cX3_isLetter 13 = .ok (.goto 4, 3) := by decide +kernel
theorem dX3_isLetter_16 : decode cX3_isLetter 16 = .ok (.iconst 0, 1) := by decide +kernel
theorem dX3_isLetter_17 : decode cX3_isLetter 17 = .ok (.ireturn, 1) := by decide +kernel
theorem dX3_isDigit_0 : decode cX3_isDigit 0 = .ok (.iload_n 0, 1) := by decide +kernel
theorem dX3_isDigit_1 : decode cX3_isDigit 1 = .ok (.bipush 48, 2) := by decide +kernel
theorem dX3_isDigit_3 : decode cX3_isDigit 3 = .ok (.if_icmp .lt 13, 3) := by decide +kernel
theorem dX3_isDigit_6 : decode cX3_isDigit 6 = .ok (.iload_n 0, 1) := by decide +kernel
theorem dX3_isDigit_7 : decode cX3_isDigit 7 = .ok (.bipush 57, 2) := by decide +kernel
theorem dX3_isDigit_9 : decode cX3_isDigit 9 = .ok (.if_icmp .gt 7, 3) := by decide +kernel
theorem dX3_isDigit_12 : decode cX3_isDigit 12 = .ok (.iconst 1, 1) := by decide +kernel
theorem dX3_isDigit_13 : decode cX3_isDigit 13 = .ok (.goto 4, 3) := by decide +kernel
theorem dX3_isDigit_16 : decode cX3_isDigit 16 = .ok (.iconst 0, 1) := by decide +kernel
theorem dX3_isDigit_17 : decode cX3_isDigit 17 = .ok (.ireturn, 1) := by decide +kernel
set_option maxRecDepth 20000 in
theorem ggX4_init_X1_init : GoodIn wsX4_init wsX1_init := goodIn_r _ [20, 21, 2, 3, 8, 22, 23, 24, 25, 26, 27, 28, 29, 30, 31, 32, 33, 44, 45, 46, 47, 48, 49, 50, 51, 52] (by decide +kernel) (by decide +kernel)
set_option maxRecDepth 20000 in
theorem gX4_init_X1_init : GoodIn wsX4_init (wsX1_init) := ggX4_init_X1_init
set_option maxRecDepth 20000 in
theorem ggX4_init_X6_fillRow : GoodIn wsX4_init wsX6_fillRow := goodIn_r _ [33] (by decide +kernel) (by decide +kernel)
set_option maxRecDepth 20000 in
theorem gX4_init_X6_fillRow_n48 : GoodIn wsX4_init (wsX6_fillRow) := ggX4_init_X6_fillRow
set_option maxRecDepth 20000 in
theorem ggX4_init_X1_useFresh : GoodIn wsX4_init wsX1_useFresh := goodIn_r _ [37, 22, 23, 24, 25, 26, 38, 32, 39, 44, 45, 46, 47, 48, 49, 50, 51, 52] (by decide +kernel) (by decide +kernel)
set_option maxRecDepth 20000 in
theorem gX4_init_X1_useFresh : GoodIn wsX4_init (wsV RX4 52 RX1 yX1_useFresh wsX1_useFresh) := goodIn_app (goodIn_of _ (by decide +kernel)) ggX4_init_X1_useFresh
set_option maxRecDepth 20000 in
theorem ggX4_init_X1_keepFresh : GoodIn wsX4_init wsX1_keepFresh := goodIn_r _ [43, 26, 31, 32, 33, 44, 45, 46, 47, 48, 49, 50, 51, 52] (by decide +kernel) (by decide +kernel)
set_option maxRecDepth 20000 in
theorem gX4_init_X1_keepFresh : GoodIn wsX4_init (wsV RX4 56 RX1 yX1_keepFresh wsX1_keepFresh) := goodIn_app (goodIn_of _ (by decide +kernel)) ggX4_init_X1_keepFresh
set_option maxRecDepth 20000 in
theorem ggX4_init_X6_setCell : GoodIn wsX4_init wsX6_setCell := goodIn_r _ [39] (by decide +kernel) (by decide +kernel)
set_option maxRecDepth 20000 in
theorem gX4_init_X6_setCell_n59 : GoodIn wsX4_init (wsX6_setCell) := ggX4_init_X6_setCell
theorem dX4_init_0 : decode cX4_init 0 = .ok (.aload_n 0, 1) := by decide +kernel
theorem dX4_init_1 : decode cX4_init 1 = .ok (.invokespecial 3, 3) := by decide +kernel
theorem dX4_init_4 : decode cX4_init 4 = .ok (.aload_n 0, 1) := by decide +kernel
theorem dX4_init_5 : decode cX4_init 5 = .ok (.new 9, 3) := by decide +kernel
theorem dX4_init_8 : decode cX4_init 8 = .ok (.dup, 1) := by decide +kernel
theorem dX4_init_9 : decode cX4_init 9 = .ok (.invokespecial 11, 3) := by decide +kernel
theorem dX4_init_12 : decode cX4_init 12 = .ok (.putfield 12, 3) := by decide +kernel
theorem dX4_init_15 : decode cX4_init 15 = .ok (.aload_n 0, 1) := by decide +kernel
theorem dX4_init_16 : decode cX4_init 16 = .ok (.iconst 2, 1) := by decide +kernel
theorem dX4_init_17 : decode cX4_init 17 = .ok (.newarray .int, 2) := by decide +kernel
theorem dX4_init_19 : decode cX4_init 19 = .ok (.putfield 18, 3) := by decide +kernel
theorem dX4_init_22 : decode cX4_init 22 = .ok (.aload_n 0, 1) := by decide +kernel
theorem dX4_init_23 : decode cX4_init 23 = .ok (.iconst 2, 1) := by decide +kernel
theorem dX4_init_24 : decode cX4_init 24 = .ok (.newarray .int, 2) := by decide +kernel
theorem dX4_init_26 : decode cX4_init 26 = .ok (.putfield 22, 3) := by decide +kernel
theorem dX4_init_29 : decode cX4_init 29 = .ok (.aload_n 0, 1) := by decide +kernel
theorem dX4_init_30 : decode cX4_init 30 = .ok (.iconst 2, 1) := by decide +kernel
theorem dX4_init_31 : decode cX4_init 31 = .ok (.newarray .int, 2) := by decide +kernel
theorem dX4_init_33 : decode cX4_init 33 = .ok (.putfield 25, 3) := by decide +kernel
theorem dX4_init_36 : decode cX4_init 36 = .ok (.aload_n 0, 1) := by decide +kernel
theorem dX4_init_37 : decode cX4_init 37 = .ok (.iconst 4, 1) := by decide +kernel
theorem dX4_init_38 : decode cX4_init 38 = .ok (.newarray .int, 2) := by decide +kernel
theorem dX4_init_40 : decode cX4_init 40 = .ok (.putfield 28, 3) := by decide +kernel
theorem dX4_init_43 : decode cX4_init 43 = .ok (.aload_n 0, 1) := by decide +kernel
theorem dX4_init_44 : decode cX4_init 44 = .ok (.iconst 4, 1) := by decide +kernel
theorem dX4_init_45 : decode cX4_init 45 = .ok (.newarray .int, 2) := by decide +kernel
theorem dX4_init_47 : decode cX4_init 47 = .ok (.putfield 31, 3) := by decide +kernel
theorem dX4_init_50 : decode cX4_init 50 = .ok (.aload_n 0, 1) := by decide +kernel
theorem dX4_init_51 : decode cX4_init 51 = .ok (.iconst 0, 1) := by decide +kernel
theorem dX4_init_52 : decode cX4_init 52 = .ok (.putfield 34, 3) := by decide +kernel
theorem dX4_init_55 : decode cX4_init 55 = .ok (.aload_n 0, 1) := by decide +kernel
theorem dX4_init_56 : decode cX4_init 56 = .ok (.sipush (-1000), 3) := by decide +kernel
theorem dX4_init_59 : decode cX4_init 59 = .ok (.putfield 38, 3) := by decide +kernel
theorem dX4_init_62 : decode cX4_init 62 = .ok (.aload_n 0, 1) := by decide +kernel
theorem dX4_init_63 : decode cX4_init 63 = .ok (.iconst 0, 1) := by decide +kernel
theorem dX4_init_64 : decode cX4_init 64 = .ok (.putfield 42, 3) := by decide +kernel
theorem dX4_init_67 : decode cX4_init 67 = .ok (.aload_n 0, 1) := by decide +kernel
theorem dX4_init_68 : decode cX4_init 68 = .ok (.iconst 0, 1) := by decide +kernel
theorem dX4_init_69 : decode cX4_init 69 = .ok (.putfield 45, 3) := by decide +kernel
theorem dX4_init_72 : decode cX4_init 72 = .ok (.aload_n 0, 1) := by decide +kernel
theorem dX4_init_73 : decode cX4_init 73 = .ok (.getfield 28, 3) := by decide +kernel
theorem dX4_init_76 : decode cX4_init 76 = .ok (.sipush (-1000), 3) := by decide +kernel
theorem dX4_init_79 : decode cX4_init 79 = .ok (.invokestatic 48, 3) := by decide +kernel
theorem dX4_init_82 : decode cX4_init 82 = .ok (.aload_n 0, 1) := by decide +kernel
theorem dX4_init_83 : decode cX4_init 83 = .ok (.getfield 31, 3) := by decide +kernel
theorem dX4_init_86 : decode cX4_init 86 = .ok (.sipush (-1000), 3) := by decide +kernel
theorem dX4_init_89 : decode cX4_init 89 = .ok (.invokestatic 48, 3) := by decide +kernel
theorem dX4_init_92 : decode cX4_init 92 = .ok (.aload_n 0, 1) := by decide +kernel
theorem dX4_init_93 : decode cX4_init 93 = .ok (.getfield 12, 3) := by decide +kernel
theorem dX4_init_96 : decode cX4_init 96 = .ok (.iconst 0, 1) := by decide +kernel
theorem dX4_init_97 : decode cX4_init 97 = .ok (.iconst 1, 1) := by decide +kernel
theorem dX4_init_98 : decode cX4_init 98 = .ok (.invokevirtual 52, 3) := by decide +kernel
theorem dX4_init_101 : decode cX4_init 101 = .ok (.aload_n 0, 1) := by decide +kernel
theorem dX4_init_102 : decode cX4_init 102 = .ok (.getfield 12, 3) := by decide +kernel
theorem dX4_init_105 : decode cX4_init 105 = .ok (.invokevirtual 56, 3) := by decide +kernel
theorem dX4_init_108 : decode cX4_init 108 = .ok (.aload_n 0, 1) := by decide +kernel
theorem dX4_init_109 : decode cX4_init 109 = .ok (.getfield 18, 3) := by decide +kernel
theorem dX4_init_112 : decode cX4_init 112 = .ok (.iconst 0, 1) := by decide +kernel
theorem dX4_init_113 : decode cX4_init 113 = .ok (.iconst 1, 1) := by decide +kernel
theorem dX4_init_114 : decode cX4_init 114 = .ok (.invokestatic 59, 3) := by decide +kernel
theorem dX4_init_117 : decode cX4_init 117 = .ok (.aload_n 0, 1) := by decide +kernel
theorem dX4_init_118 : decode cX4_init 118 = .ok (.getfield 25, 3) := by decide +kernel
theorem dX4_init_121 : decode cX4_init 121 = .ok (.iconst 0, 1) := by decide +kernel
theorem dX4_init_122 : decode cX4_init 122 = .ok (.iconst 1, 1) := by decide +kernel
theorem dX4_init_123 : decode cX4_init 123 = .ok (.invokestatic 59, 3) := by decide +kernel
theorem dX4_init_126 : decode cX4_init 126 = .ok (.aload_n 0, 1) := by decide +kernel
theorem dX4_init_127 : decode cX4_init 127 = .ok (.getfield 22, 3) := by decide +kernel
theorem dX4_init_130 : decode cX4_init 130 = .ok (.iconst 1, 1) := by decide +kernel
theorem dX4_init_131 : decode cX4_init 131 = .ok (.sipush (-1000), 3) := by decide +kernel
theorem dX4_init_134 : decode cX4_init 134 = .ok (.invokestatic 59, 3) := by decide +kernel
theorem dX4_init_137 : decode cX4_init 137 = .ok (.return_, 1) := by decide +kernel
set_option maxRecDepth 20000 in
theorem ggX4_copyFrom_X1_copyFrom : GoodIn wsX4_copyFrom wsX1_copyFrom := goodIn_r _ [15, 16, 17, 18, 19, 20, 21, 22, 23, 24, 25, 26, 27, 38, 39, 40, 41, 42, 43, 44, 45, 46] (by decide +kernel) (by decide +kernel)
set_option maxRecDepth 20000 in
theorem gX4_copyFrom_X1_copyFrom : GoodIn wsX4_copyFrom (wsV RX4 63 RX1 yX1_copyFrom wsX1_copyFrom) := goodIn_app (goodIn_of _ (by decide +kernel)) ggX4_copyFrom_X1_copyFrom
set_option maxRecDepth 20000 in
theorem ggX4_copyFrom_X6_copyRow : GoodIn wsX4_copyFrom wsX6_copyRow := goodIn_r _ [27] (by decide +kernel) (by decide +kernel)
set_option maxRecDepth 20000 in
theorem gX4_copyFrom_X6_copyRow_n67 : GoodIn wsX4_copyFrom (wsX6_copyRow) := ggX4_copyFrom_X6_copyRow
theorem dX4_copyFrom_0 : decode cX4_copyFrom 0 = .ok (.aload_n 0, 1) := by decide +kernel
theorem dX4_copyFrom_1 : decode cX4_copyFrom 1 = .ok (.getfield 12, 3) := by decide +kernel
theorem dX4_copyFrom_4 : decode cX4_copyFrom 4 = .ok (.aload_n 1, 1) := by decide +kernel
theorem dX4_copyFrom_5 : decode cX4_copyFrom 5 = .ok (.getfield 12, 3) := by decide +kernel
theorem dX4_copyFrom_8 : decode cX4_copyFrom 8 = .ok (.invokevirtual 63, 3) := by decide +kernel
theorem dX4_copyFrom_11 : decode cX4_copyFrom 11 = .ok (.aload_n 1, 1) := by decide +kernel
theorem dX4_copyFrom_12 : decode cX4_copyFrom 12 = .ok (.getfield 18, 3) := by decide +kernel
theorem dX4_copyFrom_15 : decode cX4_copyFrom 15 = .ok (.aload_n 0, 1) := by decide +kernel
theorem dX4_copyFrom_16 : decode cX4_copyFrom 16 = .ok (.getfield 18, 3) := by decide +kernel
theorem dX4_copyFrom_19 : decode cX4_copyFrom 19 = .ok (.invokestatic 67, 3) := by decide +kernel
theorem dX4_copyFrom_22 : decode cX4_copyFrom 22 = .ok (.aload_n 1, 1) := by decide +kernel
theorem dX4_copyFrom_23 : decode cX4_copyFrom 23 = .ok (.getfield 22, 3) := by decide +kernel
theorem dX4_copyFrom_26 : decode cX4_copyFrom 26 = .ok (.aload_n 0, 1) := by decide +kernel
theorem dX4_copyFrom_27 : decode cX4_copyFrom 27 = .ok (.getfield 22, 3) := by decide +kernel
theorem dX4_copyFrom_30 : decode cX4_copyFrom 30 = .ok (.invokestatic 67, 3) := by decide +kernel
theorem dX4_copyFrom_33 : decode cX4_copyFrom 33 = .ok (.aload_n 1, 1) := by decide +kernel
theorem dX4_copyFrom_34 : decode cX4_copyFrom 34 = .ok (.getfield 25, 3) := by decide +kernel
theorem dX4_copyFrom_37 : decode cX4_copyFrom 37 = .ok (.aload_n 0, 1) := by decide +kernel
theorem dX4_copyFrom_38 : decode cX4_copyFrom 38 = .ok (.getfield 25, 3) := by decide +kernel
theorem dX4_copyFrom_41 : decode cX4_copyFrom 41 = .ok (.invokestatic 67, 3) := by decide +kernel
theorem dX4_copyFrom_44 : decode cX4_copyFrom 44 = .ok (.aload_n 1, 1) := by decide +kernel
theorem dX4_copyFrom_45 : decode cX4_copyFrom 45 = .ok (.getfield 28, 3) := by decide +kernel
theorem dX4_copyFrom_48 : decode cX4_copyFrom 48 = .ok (.aload_n 0, 1) := by decide +kernel
theorem dX4_copyFrom_49 : decode cX4_copyFrom 49 = .ok (.getfield 28, 3) := by decide +kernel
theorem dX4_copyFrom_52 : decode cX4_copyFrom 52 = .ok (.invokestatic 67, 3) := by decide +kernel
theorem dX4_copyFrom_55 : decode cX4_copyFrom 55 = .ok (.aload_n 1, 1) := by decide +kernel
theorem dX4_copyFrom_56 : decode cX4_copyFrom 56 = .ok (.getfield 31, 3) := by decide +kernel
theorem dX4_copyFrom_59 : decode cX4_copyFrom 59 = .ok (.aload_n 0, 1) := by decide +kernel
theorem dX4_copyFrom_60 : decode cX4_copyFrom 60 = .ok (.getfield 31, 3) := by decide +kernel
theorem dX4_copyFrom_63 : decode cX4_copyFrom 63 = .ok (.invokestatic 67, 3) := by decide +kernel
theorem dX4_copyFrom_66 : decode cX4_copyFrom 66 = .ok (.aload_n 0, 1) := by decide +kernel
theorem dX4_copyFrom_67 : decode cX4_copyFrom 67 = .ok (.aload_n 1, 1) := by decide +kernel
theorem dX4_copyFrom_68 : decode cX4_copyFrom 68 = .ok (.getfield 34, 3) := by decide +kernel
theorem dX4_copyFrom_71 : decode cX4_copyFrom 71 = .ok (.putfield 34, 3) := by decide +kernel
theorem dX4_copyFrom_74 : decode cX4_copyFrom 74 = .ok (.aload_n 0, 1) := by decide +kernel
theorem dX4_copyFrom_75 : decode cX4_copyFrom 75 = .ok (.aload_n 1, 1) := by decide +kernel
theorem dX4_copyFrom_76 : decode cX4_copyFrom 76 = .ok (.getfield 38, 3) := by decide +kernel
theorem dX4_copyFrom_79 : decode cX4_copyFrom 79 = .ok (.putfield 38, 3) := by decide +kernel
theorem dX4_copyFrom_82 : decode cX4_copyFrom 82 = .ok (.aload_n 0, 1) := by decide +kernel
theorem dX4_copyFrom_83 : decode cX4_copyFrom 83 = .ok (.aload_n 1, 1) := by decide +kernel
theorem dX4_copyFrom_84 : decode cX4_copyFrom 84 = .ok (.getfield 42, 3) := by decide +kernel
theorem dX4_copyFrom_87 : decode cX4_copyFrom 87 = .ok (.putfield 42, 3) := by decide +kernel
theorem dX4_copyFrom_90 : decode cX4_copyFrom 90 = .ok (.aload_n 0, 1) := by decide +kernel
theorem dX4_copyFrom_91 : decode cX4_copyFrom 91 = .ok (.aload_n 1, 1) := by decide +kernel
theorem dX4_copyFrom_92 : decode cX4_copyFrom 92 = .ok (.getfield 45, 3) := by decide +kernel
theorem dX4_copyFrom_95 : decode cX4_copyFrom 95 = .ok (.putfield 45, 3) := by decide +kernel
theorem dX4_copyFrom_98 : decode cX4_copyFrom 98 = .ok (.return_, 1) := by decide +kernel
theorem dX4_currentRoot_0 : decode cX4_currentRoot 0 = .ok (.iconst 0, 1) := by decide +kernel
theorem dX4_currentRoot_1 : decode cX4_currentRoot 1 = .ok (.istore_n 1, 1) := by decide +kernel
theorem dX4_currentRoot_2 : decode cX4_currentRoot 2 = .ok (.sipush (-1000), 3) := by decide +kernel
theorem dX4_currentRoot_5 : decode cX4_currentRoot 5 = .ok (.istore_n 2, 1) := by decide +kernel
theorem dX4_currentRoot_6 : decode cX4_currentRoot 6 = .ok (.iconst 0, 1) := by decide +kernel
theorem dX4_currentRoot_7 : decode cX4_currentRoot 7 = .ok (.istore_n 3, 1) := by decide +kernel
theorem dX4_currentRoot_8 : decode cX4_currentRoot 8 = .ok (.iload_n 3, 1) := by decide +kernel
theorem dX4_currentRoot_9 : decode cX4_currentRoot 9 = .ok (.iconst 2, 1) := by decide +kernel
theorem dX4_currentRoot_10 : decode cX4_currentRoot 10 = .ok (.if_icmp .ge 38, 3) := by decide +kernel
theorem dX4_currentRoot_13 : decode cX4_currentRoot 13 = .ok (.aload_n 0, 1) := by decide +kernel
theorem dX4_currentRoot_14 : decode cX4_currentRoot 14 = .ok (.getfield 25, 3) := by decide +kernel
theorem dX4_currentRoot_17 : decode cX4_currentRoot 17 = .ok (.iload_n 3, 1) := by decide +kernel
theorem dX4_currentRoot_18 : decode cX4_currentRoot 18 = .ok (.iaload, 1) := by decide +kernel
theorem dX4_currentRoot_19 : decode cX4_currentRoot 19 = .ok (.iconst 1, 1) := by decide +kernel
theorem dX4_currentRoot_20 : decode cX4_currentRoot 20 = .ok (.if_icmp .ne 22, 3) := by decide +kernel
theorem dX4_currentRoot_23 : decode cX4_currentRoot 23 = .ok (.aload_n 0, 1) := by decide +kernel
theorem dX4_currentRoot_24 : decode cX4_currentRoot 24 = .ok (.getfield 18, 3) := by decide +kernel
theorem dX4_currentRoot_27 : decode cX4_currentRoot 27 = .ok (.iload_n 3, 1) := by decide +kernel
theorem dX4_currentRoot_28 : decode cX4_currentRoot 28 = .ok (.iaload, 1) := by decide +kernel
theorem dX4_currentRoot_29 : decode cX4_currentRoot 29 = .ok (.iload_n 2, 1) := by decide +kernel
theorem dX4_currentRoot_30 : decode cX4_currentRoot 30 = .ok (.if_icmp .le 12, 3) := by decide +kernel
theorem dX4_currentRoot_33 : decode cX4_currentRoot 33 = .ok (.iload_n 3, 1) := by decide +kernel
theorem dX4_currentRoot_34 : decode cX4_currentRoot 34 = .ok (.istore_n 1, 1) := by decide +kernel
theorem dX4_currentRoot_35 : decode cX4_currentRoot 35 = .ok (.aload_n 0, 1) := by decide +kernel
theorem dX4_currentRoot_36 : decode cX4_currentRoot 36 = .ok (.getfield 18, 3) := by decide +kernel
theorem dX4_currentRoot_39 : decode cX4_currentRoot 39 = .ok (.iload_n 3, 1) := by decide +kernel
theorem dX4_currentRoot_40 : decode cX4_currentRoot 40 = .ok (.iaload, 1) := by decide +kernel
theorem dX4_currentRoot_41 : decode cX4_currentRoot 41 = .ok (.istore_n 2, 1) := by decide +kernel
theorem dX4_currentRoot_42 : decode cX4_currentRoot 42 = .ok (.iinc 3 1, 3) := by decide +kernel
theorem dX4_currentRoot_45 : decode cX4_currentRoot 45 = .ok (.goto (-37), 3) := by decide +kernel
theorem dX4_currentRoot_48 : decode cX4_currentRoot 48 = .ok (.iload_n 1, 1) := by decide +kernel
theorem dX4_currentRoot_49 : decode cX4_currentRoot 49 = .ok (.ireturn, 1) := by decide +kernel
set_option maxRecDepth 20000 in
theorem ggX4_currentDirectory_X4_currentRoot : GoodIn wsX4_currentDirectory wsX4_currentRoot := goodIn_r _ [6, 7, 8, 12, 13, 14, 15, 16, 17, 18, 19, 20, 21] (by decide +kernel) (by decide +kernel)
set_option maxRecDepth 20000 in
theorem gX4_currentDirectory_X4_currentRoot : GoodIn wsX4_currentDirectory (wsV RX4 71 RX4 yX4_currentRoot wsX4_currentRoot) := goodIn_app (goodIn_of _ (by decide +kernel)) ggX4_currentDirectory_X4_currentRoot
set_option maxRecDepth 20000 in
theorem ggX4_currentDirectory_X6_cell : GoodIn wsX4_currentDirectory wsX6_cell := goodIn_r _ [11] (by decide +kernel) (by decide +kernel)
set_option maxRecDepth 20000 in
theorem gX4_currentDirectory_X6_cell_n75 : GoodIn wsX4_currentDirectory (wsX6_cell) := ggX4_currentDirectory_X6_cell
theorem dX4_currentDirectory_0 : decode cX4_currentDirectory 0 = .ok (.aload_n 0, 1) := by decide +kernel
theorem dX4_currentDirectory_1 : decode cX4_currentDirectory 1 = .ok (.getfield 22, 3) := by decide +kernel
theorem dX4_currentDirectory_4 : decode cX4_currentDirectory 4 = .ok (.aload_n 0, 1) := by decide +kernel
theorem dX4_currentDirectory_5 : decode cX4_currentDirectory 5 = .ok (.invokevirtual 71, 3) := by decide +kernel
theorem dX4_currentDirectory_8 : decode cX4_currentDirectory 8 = .ok (.invokestatic 75, 3) := by decide +kernel
theorem dX4_currentDirectory_11 : decode cX4_currentDirectory 11 = .ok (.ireturn, 1) := by decide +kernel
set_option maxRecDepth 20000 in
theorem ggX4_currentCount_X4_currentRoot : GoodIn wsX4_currentCount wsX4_currentRoot := goodIn_r _ [6, 7, 1, 11, 12, 13, 14, 15, 16, 17, 18, 19, 20] (by decide +kernel) (by decide +kernel)
set_option maxRecDepth 20000 in
theorem gX4_currentCount_X4_currentRoot : GoodIn wsX4_currentCount (wsV RX4 71 RX4 yX4_currentRoot wsX4_currentRoot) := goodIn_app (goodIn_of _ (by decide +kernel)) ggX4_currentCount_X4_currentRoot
set_option maxRecDepth 20000 in
theorem ggX4_currentCount_X6_cell : GoodIn wsX4_currentCount wsX6_cell := goodIn_r _ [10] (by decide +kernel) (by decide +kernel)
set_option maxRecDepth 20000 in
theorem gX4_currentCount_X6_cell_n75 : GoodIn wsX4_currentCount (wsX6_cell) := ggX4_currentCount_X6_cell
theorem dX4_currentCount_0 : decode cX4_currentCount 0 = .ok (.aload_n 0, 1) := by decide +kernel
theorem dX4_currentCount_1 : decode cX4_currentCount 1 = .ok (.getfield 18, 3) := by decide +kernel
theorem dX4_currentCount_4 : decode cX4_currentCount 4 = .ok (.aload_n 0, 1) := by decide +kernel
theorem dX4_currentCount_5 : decode cX4_currentCount 5 = .ok (.invokevirtual 71, 3) := by decide +kernel
theorem dX4_currentCount_8 : decode cX4_currentCount 8 = .ok (.invokestatic 75, 3) := by decide +kernel
theorem dX4_currentCount_11 : decode cX4_currentCount 11 = .ok (.ireturn, 1) := by decide +kernel
set_option maxRecDepth 20000 in
theorem ggX4_neededCount_X4_neededCountBut : GoodIn wsX4_neededCount wsX4_neededCountBut := goodIn_r _ [5, 6, 7, 8, 9, 10, 11, 12, 13, 14, 15, 16, 17, 18, 19, 20, 21, 22, 23] (by decide +kernel) (by decide +kernel)
set_option maxRecDepth 20000 in
theorem gX4_neededCount_X4_neededCountBut : GoodIn wsX4_neededCount (wsV RX4 79 RX4 yX4_neededCountBut wsX4_neededCountBut) := goodIn_app (goodIn_of _ (by decide +kernel)) ggX4_neededCount_X4_neededCountBut
theorem dX4_neededCount_0 : decode cX4_neededCount 0 = .ok (.aload_n 0, 1) := by decide +kernel
theorem dX4_neededCount_1 : decode cX4_neededCount 1 = .ok (.sipush (-1000), 3) := by decide +kernel
theorem dX4_neededCount_4 : decode cX4_neededCount 4 = .ok (.invokevirtual 79, 3) := by decide +kernel
theorem dX4_neededCount_7 : decode cX4_neededCount 7 = .ok (.ireturn, 1) := by decide +kernel
theorem dX4_neededCountBut_0 : decode cX4_neededCountBut 0 = .ok (.ldc 83, 2) := by decide +kernel
theorem dX4_neededCountBut_2 : decode cX4_neededCountBut 2 = .ok (.istore_n 2, 1) := by decide +kernel
theorem dX4_neededCountBut_3 : decode cX4_neededCountBut 3 = .ok (.iconst 0, 1) := by decide +kernel
theorem dX4_neededCountBut_4 : decode cX4_neededCountBut 4 = .ok (.istore_n 3, 1) := by decide +kernel
theorem dX4_neededCountBut_5 : decode cX4_neededCountBut 5 = .ok (.iload_n 3, 1) := by decide +kernel
theorem dX4_neededCountBut_6 : decode cX4_neededCountBut 6 = .ok (.iconst 2, 1) := by decide +kernel
theorem dX4_neededCountBut_7 : decode cX4_neededCountBut 7 = .ok (.if_icmp .ge 30, 3) := by decide +kernel
theorem dX4_neededCountBut_10 : decode cX4_neededCountBut 10 = .ok (.aload_n 0, 1) := by decide +kernel
theorem dX4_neededCountBut_11 : decode cX4_neededCountBut 11 = .ok (.getfield 25, 3) := by decide +kernel
theorem dX4_neededCountBut_14 : decode cX4_neededCountBut 14 = .ok (.iload_n 3, 1) := by decide +kernel
theorem dX4_neededCountBut_15 : decode cX4_neededCountBut 15 = .ok (.iaload, 1) := by decide +kernel
theorem dX4_neededCountBut_16 : decode cX4_neededCountBut 16 = .ok (.iconst 1, 1) := by decide +kernel
theorem dX4_neededCountBut_17 : decode cX4_neededCountBut 17 = .ok (.if_icmp .ne 14, 3) := by decide +kernel
theorem dX4_neededCountBut_20 : decode cX4_neededCountBut 20 = .ok (.iload_n 2, 1) := by decide +kernel
theorem dX4_neededCountBut_21 : decode cX4_neededCountBut 21 = .ok (.aload_n 0, 1) := by decide +kernel
theorem dX4_neededCountBut_22 : decode cX4_neededCountBut 22 = .ok (.getfield 18, 3) := by decide +kernel
theorem dX4_neededCountBut_25 : decode cX4_neededCountBut 25 = .ok (.iload_n 3, 1) := by decide +kernel
theorem dX4_neededCountBut_26 : decode cX4_neededCountBut 26 = .ok (.iaload, 1) := by decide +kernel
theorem dX4_neededCountBut_27 : decode cX4_neededCountBut 27 = .ok (.invokestatic 84, 3) := by decide +kernel
theorem dX4_neededCountBut_30 : decode cX4_neededCountBut 30 = .ok (.istore_n 2, 1) := by decide +kernel
theorem dX4_neededCountBut_31 : decode cX4_neededCountBut 31 = .ok (.iinc 3 1, 3) := by decide +kernel
theorem dX4_neededCountBut_34 : decode cX4_neededCountBut 34 = .ok (.goto (-29), 3) := by decide +kernel
theorem dX4_neededCountBut_37 : decode cX4_neededCountBut 37 = .ok (.iconst 0, 1) := by decide +kernel
theorem dX4_neededCountBut_38 : decode cX4_neededCountBut 38 = .ok (.istore_n 3, 1) := by decide +kernel
theorem dX4_neededCountBut_39 : decode cX4_neededCountBut 39 = .ok (.iload_n 3, 1) := by decide +kernel
theorem dX4_neededCountBut_40 : decode cX4_neededCountBut 40 = .ok (.iconst 4, 1) := by decide +kernel
theorem dX4_neededCountBut_41 : decode cX4_neededCountBut 41 = .ok (.if_icmp .ge 37, 3) := by decide +kernel
theorem dX4_neededCountBut_44 : decode cX4_neededCountBut 44 = .ok (.iload_n 3, 1) := by decide +kernel
theorem dX4_neededCountBut_45 : decode cX4_neededCountBut 45 = .ok (.iload_n 1, 1) := by decide +kernel
theorem dX4_neededCountBut_46 : decode cX4_neededCountBut 46 = .ok (.if_icmp .eq 26, 3) := by decide +kernel
theorem dX4_neededCountBut_49 : decode cX4_neededCountBut 49 = .ok (.aload_n 0, 1) := by decide +kernel
theorem dX4_neededCountBut_50 : decode cX4_neededCountBut 50 = .ok (.getfield 28, 3) := by decide +kernel
theorem dX4_neededCountBut_53 : decode cX4_neededCountBut 53 = .ok (.iload_n 3, 1) := by decide +kernel
theorem dX4_neededCountBut_54 : decode cX4_neededCountBut 54 = .ok (.iaload, 1) := by decide +kernel
theorem dX4_neededCountBut_55 : decode cX4_neededCountBut 55 = .ok (.sipush (-1000), 3) := by decide +kernel
theorem dX4_neededCountBut_58 : decode cX4_neededCountBut 58 = .ok (.if_icmp .eq 14, 3) := by decide +kernel
theorem dX4_neededCountBut_61 : decode cX4_neededCountBut 61 = .ok (.iload_n 2, 1) := by decide +kernel
theorem dX4_neededCountBut_62 : decode cX4_neededCountBut 62 = .ok (.aload_n 0, 1) := by decide +kernel
theorem dX4_neededCountBut_63 : decode cX4_neededCountBut 63 = .ok (.getfield 28, 3) := by decide +kernel
theorem dX4_neededCountBut_66 : decode cX4_neededCountBut 66 = .ok (.iload_n 3, 1) := by decide +kernel
theorem dX4_neededCountBut_67 : decode cX4_neededCountBut 67 = .ok (.iaload, 1) := by decide +kernel
theorem dX4_neededCountBut_68 : decode cX4_neededCountBut 68 = .ok (.invokestatic 84, 3) := by decide +kernel
theorem dX4_neededCountBut_71 : decode cX4_neededCountBut 71 = .ok (.istore_n 2, 1) := by decide +kernel
theorem dX4_neededCountBut_72 : decode cX4_neededCountBut 72 = .ok (.iinc 3 1, 3) := by decide +kernel
theorem dX4_neededCountBut_75 : decode cX4_neededCountBut 75 = .ok (.goto (-36), 3) := by decide +kernel
theorem dX4_neededCountBut_78 : decode cX4_neededCountBut 78 = .ok (.iload_n 2, 1) := by decide +kernel
theorem dX4_neededCountBut_79 : decode cX4_neededCountBut 79 = .ok (.ireturn, 1) := by decide +kernel
theorem dX4_beginFault_0 : decode cX4_beginFault 0 = .ok (.aload_n 0, 1) := by decide +kernel
theorem dX4_beginFault_1 : decode cX4_beginFault 1 = .ok (.getfield 34, 3) := by decide +kernel
theorem dX4_beginFault_4 : decode cX4_beginFault 4 = .ok (.ifCond .eq 7, 3) := by decide +kernel
theorem dX4_beginFault_7 : decode cX4_beginFault 7 = .ok (.iconst 3, 1) := by decide +kernel
theorem dX4_beginFault_8 : decode cX4_beginFault 8 = .ok (.goto 4, 3) := by decide +kernel
theorem dX4_beginFault_11 : decode cX4_beginFault 11 = .ok (.iconst 0, 1) := by decide +kernel
theorem dX4_beginFault_12 : decode cX4_beginFault 12 = .ok (.ireturn, 1) := by decide +kernel
set_option maxRecDepth 20000 in
theorem ggX4_putFault_X6_isBelow : GoodIn wsX4_putFault wsX6_isBelow := goodIn_r _ [4] (by decide +kernel) (by decide +kernel)
set_option maxRecDepth 20000 in
theorem gX4_putFault_X6_isBelow_n90 : GoodIn wsX4_putFault (wsX6_isBelow) := ggX4_putFault_X6_isBelow
set_option maxRecDepth 20000 in
theorem ggX4_putFault_X4_hindranceToPut : GoodIn wsX4_putFault wsX4_hindranceToPut := goodIn_r _ [9, 10, 11, 12, 8, 13, 14, 15, 16, 17, 18, 19, 20, 21, 22, 23, 24, 25, 26, 27, 28, 29, 30, 31, 32, 33, 34, 35, 36, 37, 38, 39, 40, 41, 42, 43, 44, 45, 3, 46, 47, 48, 49, 50, 51, 52, 53, 54, 55, 56, 57, 58, 59, 60, 61, 62, 63, 64, 65, 66, 67, 68, 69, 70, 71, 72, 73, 74, 75, 76, 77, 78, 79, 80, 81, 82, 83, 84, 85, 86, 87, 88, 89, 90, 91, 92, 93, 94, 95, 96, 97, 98, 99, 100, 101, 102, 103, 104, 105] (by decide +kernel) (by decide +kernel)
set_option maxRecDepth 20000 in
theorem gX4_putFault_X4_hindranceToPut : GoodIn wsX4_putFault (wsV RX4 94 RX4 yX4_hindranceToPut wsX4_hindranceToPut) := goodIn_app (goodIn_of _ (by decide +kernel)) ggX4_putFault_X4_hindranceToPut
theorem dX4_putFault_0 : decode cX4_putFault 0 = .ok (.iload_n 1, 1) := by decide +kernel
theorem dX4_putFault_1 : decode cX4_putFault 1 = .ok (.bipush 100, 2) := by decide +kernel
theorem dX4_putFault_3 : decode cX4_putFault 3 = .ok (.invokestatic 90, 3) := by decide +kernel
theorem dX4_putFault_6 : decode cX4_putFault 6 = .ok (.ifCond .eq 17, 3) := by decide +kernel
theorem dX4_putFault_9 : decode cX4_putFault 9 = .ok (.iload_n 2, 1) := by decide +kernel
theorem dX4_putFault_10 : decode cX4_putFault 10 = .ok (.sipush (-999), 3) := by decide +kernel
theorem dX4_putFault_13 : decode cX4_putFault 13 = .ok (.if_icmp .lt 10, 3) := by decide +kernel
theorem dX4_putFault_16 : decode cX4_putFault 16 = .ok (.iload_n 2, 1) := by decide +kernel
theorem dX4_putFault_17 : decode cX4_putFault 17 = .ok (.sipush 999, 3) := by decide +kernel
theorem dX4_putFault_20 : decode cX4_putFault 20 = .ok (.if_icmp .le 5, 3) := by decide +kernel
theorem dX4_putFault_23 : decode cX4_putFault 23 = .ok (.iconst 2, 1) := by decide +kernel
theorem dX4_putFault_24 : decode cX4_putFault 24 = .ok (.ireturn, 1) := by decide +kernel
theorem dX4_putFault_25 : decode cX4_putFault 25 = .ok (.aload_n 0, 1) := by decide +kernel
theorem dX4_putFault_26 : decode cX4_putFault 26 = .ok (.getfield 34, 3) := by decide +kernel
theorem dX4_putFault_29 : decode cX4_putFault 29 = .ok (.ifCond .eq 15, 3) := by decide +kernel
theorem dX4_putFault_32 : decode cX4_putFault 32 = .ok (.aload_n 0, 1) := by decide +kernel
theorem dX4_putFault_33 : decode cX4_putFault 33 = .ok (.iload_n 1, 1) := by decide +kernel
theorem dX4_putFault_34 : decode cX4_putFault 34 = .ok (.invokevirtual 94, 3) := by decide +kernel
theorem dX4_putFault_37 : decode cX4_putFault 37 = .ok (.ifCond .ne 7, 3) := by decide +kernel
theorem dX4_putFault_40 : decode cX4_putFault 40 = .ok (.iconst 0, 1) := by decide +kernel
theorem dX4_putFault_41 : decode cX4_putFault 41 = .ok (.goto 4, 3) := by decide +kernel
theorem dX4_putFault_44 : decode cX4_putFault 44 = .ok (.iconst 3, 1) := by decide +kernel
theorem dX4_putFault_45 : decode cX4_putFault 45 = .ok (.ireturn, 1) := by decide +kernel
set_option maxRecDepth 20000 in
theorem ggX4_removeFault_X6_isBelow : GoodIn wsX4_removeFault wsX6_isBelow := goodIn_r _ [4] (by decide +kernel) (by decide +kernel)
set_option maxRecDepth 20000 in
theorem gX4_removeFault_X6_isBelow_n90 : GoodIn wsX4_removeFault (wsX6_isBelow) := ggX4_removeFault_X6_isBelow
set_option maxRecDepth 20000 in
theorem ggX4_removeFault_X4_draftedValue : GoodIn wsX4_removeFault wsX4_draftedValue := goodIn_r _ [9, 10, 11, 12, 13, 14, 15, 16, 17, 18, 19, 20, 21, 22, 23, 24, 25, 26, 27, 28, 29, 30, 31, 32, 33, 34, 35, 36, 37, 38, 39, 40, 41, 42, 43, 44, 97, 98, 99, 100, 101, 102, 103, 104, 105, 106, 107, 108, 109, 110, 111, 112, 113, 114, 115] (by decide +kernel) (by decide +kernel)
set_option maxRecDepth 20000 in
theorem gX4_removeFault_X4_draftedValue : GoodIn wsX4_removeFault (wsV RX4 97 RX4 yX4_draftedValue wsX4_draftedValue) := goodIn_app (goodIn_of _ (by decide +kernel)) ggX4_removeFault_X4_draftedValue
set_option maxRecDepth 20000 in
theorem ggX4_removeFault_X4_digsToRemove : GoodIn wsX4_removeFault wsX4_digsToRemove := goodIn_r _ [48, 10, 11, 49, 18, 19, 15, 20, 21, 22, 23, 24, 25, 26, 27, 28, 29, 30, 31, 32, 33, 34, 35, 50, 51, 52, 53, 8, 54, 55, 56, 57, 58, 59, 60, 3, 61, 62, 97, 98, 99, 100, 101, 102, 103, 104, 105, 106, 107, 108, 109, 110, 111, 112, 113, 114, 115] (by decide +kernel) (by decide +kernel)
set_option maxRecDepth 20000 in
theorem gX4_removeFault_X4_digsToRemove : GoodIn wsX4_removeFault (wsV RX4 100 RX4 yX4_digsToRemove wsX4_digsToRemove) := goodIn_app (goodIn_of _ (by decide +kernel)) ggX4_removeFault_X4_digsToRemove
set_option maxRecDepth 20000 in
theorem ggX4_removeFault_X4_bedsToDig : GoodIn wsX4_removeFault wsX4_bedsToDig := goodIn_r _ [66, 10, 67, 68, 69, 8, 70, 71, 72, 73, 74, 75, 76, 77, 78, 79, 80, 81, 82, 83, 84, 85, 15, 86, 87, 88, 89, 90, 91, 92, 60, 3, 61, 93, 94, 95, 96, 97, 98, 99, 100, 101, 102, 103, 104, 105, 106, 107, 108, 109, 110, 111, 112, 113, 114, 115] (by decide +kernel) (by decide +kernel)
set_option maxRecDepth 20000 in
theorem gX4_removeFault_X4_bedsToDig : GoodIn wsX4_removeFault (wsV RX4 103 RX4 yX4_bedsToDig wsX4_bedsToDig) := goodIn_app (goodIn_of _ (by decide +kernel)) ggX4_removeFault_X4_bedsToDig
