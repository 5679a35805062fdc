theorem dX4_commitDraft_56 : decode cX4_commitDraft 56 = .ok (.putfield 42, 3) := by decide +kernel
theorem dX4_commitDraft_59 : decode cX4_commitDraft 59 = .ok (.aload_n 0, 1) := by decide +kernel
theorem dX4_commitDraft_60 : decode cX4_commitDraft 60 = .ok (.getfield 12, 3) := by decide +kernel
theorem dX4_commitDraft_63 : decode cX4_commitDraft 63 = .ok (.invokevirtual 56, 3) := by decide +kernel
theorem dX4_commitDraft_66 : decode cX4_commitDraft 66 = .ok (.aload_n 0, 1) := by decide +kernel
theorem dX4_commitDraft_67 : decode cX4_commitDraft 67 = .ok (.invokevirtual 182, 3) := by decide +kernel
theorem dX4_commitDraft_70 : decode cX4_commitDraft 70 = .ok (.aload_n 0, 1) := by decide +kernel
theorem dX4_commitDraft_71 : decode cX4_commitDraft 71 = .ok (.getfield 12, 3) := by decide +kernel
theorem dX4_commitDraft_74 : decode cX4_commitDraft 74 = .ok (.aload_n 0, 1) := by decide +kernel
theorem dX4_commitDraft_75 : decode cX4_commitDraft 75 = .ok (.invokevirtual 116, 3) := by decide +kernel
theorem dX4_commitDraft_78 : decode cX4_commitDraft 78 = .ok (.invokevirtual 191, 3) := by decide +kernel
theorem dX4_commitDraft_81 : decode cX4_commitDraft 81 = .ok (.ireturn, 1) := by decide +kernel
set_option maxRecDepth 20000 in
theorem ggX4_writeAsleepRoot_X4_currentRoot : GoodIn wsX4_writeAsleepRoot wsX4_currentRoot := goodIn_r _ [9, 1, 4, 19, 20, 21, 22, 23, 24, 25, 26, 27, 28] (by decide +kernel) (by decide +kernel)
set_option maxRecDepth 20000 in
theorem gX4_writeAsleepRoot_X4_currentRoot : GoodIn wsX4_writeAsleepRoot (wsV RX4 71 RX4 yX4_currentRoot wsX4_currentRoot) := goodIn_app (goodIn_of _ (by decide +kernel)) ggX4_writeAsleepRoot_X4_currentRoot
set_option maxRecDepth 20000 in
theorem ggX4_writeAsleepRoot_X4_currentCount : GoodIn wsX4_writeAsleepRoot wsX4_currentCount := goodIn_r _ [13, 4, 5, 6, 7, 8, 9, 1, 14, 15, 16, 19, 20, 21, 22, 23, 24, 25, 26, 27, 28] (by decide +kernel) (by decide +kernel)
set_option maxRecDepth 20000 in
theorem gX4_writeAsleepRoot_X4_currentCount : GoodIn wsX4_writeAsleepRoot (wsV RX4 116 RX4 yX4_currentCount wsX4_currentCount) := goodIn_app (goodIn_of _ (by decide +kernel)) ggX4_writeAsleepRoot_X4_currentCount
set_option maxRecDepth 20000 in
theorem ggX4_writeAsleepRoot_X6_setCell : GoodIn wsX4_writeAsleepRoot wsX6_setCell := goodIn_r _ [18] (by decide +kernel) (by decide +kernel)
set_option maxRecDepth 20000 in
theorem gX4_writeAsleepRoot_X6_setCell_n59 : GoodIn wsX4_writeAsleepRoot (wsX6_setCell) := ggX4_writeAsleepRoot_X6_setCell
theorem dX4_writeAsleepRoot_0 : decode cX4_writeAsleepRoot 0 = .ok (.iconst 1, 1) := by decide +kernel
theorem dX4_writeAsleepRoot_1 : decode cX4_writeAsleepRoot 1 = .ok (.aload_n 0, 1) := by decide +kernel
theorem dX4_writeAsleepRoot_2 : decode cX4_writeAsleepRoot 2 = .ok (.invokevirtual 71, 3) := by decide +kernel
theorem dX4_writeAsleepRoot_5 : decode cX4_writeAsleepRoot 5 = .ok (.isub, 1) := by decide +kernel
theorem dX4_writeAsleepRoot_6 : decode cX4_writeAsleepRoot 6 = .ok (.istore_n 2, 1) := by decide +kernel
theorem dX4_writeAsleepRoot_7 : decode cX4_writeAsleepRoot 7 = .ok (.aload_n 0, 1) := by decide +kernel
theorem dX4_writeAsleepRoot_8 : decode cX4_writeAsleepRoot 8 = .ok (.invokevirtual 116, 3) := by decide +kernel
theorem dX4_writeAsleepRoot_11 : decode cX4_writeAsleepRoot 11 = .ok (.iconst 1, 1) := by decide +kernel
theorem dX4_writeAsleepRoot_12 : decode cX4_writeAsleepRoot 12 = .ok (.iadd, 1) := by decide +kernel
theorem dX4_writeAsleepRoot_13 : decode cX4_writeAsleepRoot 13 = .ok (.istore_n 3, 1) := by decide +kernel
theorem dX4_writeAsleepRoot_14 : decode cX4_writeAsleepRoot 14 = .ok (.iload_n 1, 1) := by decide +kernel
theorem dX4_writeAsleepRoot_15 : decode cX4_writeAsleepRoot 15 = .ok (.iconst 1, 1) := by decide +kernel
theorem dX4_writeAsleepRoot_16 : decode cX4_writeAsleepRoot 16 = .ok (.if_icmp .lt 12, 3) := by decide +kernel
theorem dX4_writeAsleepRoot_19 : decode cX4_writeAsleepRoot 19 = .ok (.aload_n 0, 1) := by decide +kernel
theorem dX4_writeAsleepRoot_20 : decode cX4_writeAsleepRoot 20 = .ok (.getfield 25, 3) := by decide +kernel
theorem dX4_writeAsleepRoot_23 : decode cX4_writeAsleepRoot 23 = .ok (.iload_n 2, 1) := by decide +kernel
theorem dX4_writeAsleepRoot_24 : decode cX4_writeAsleepRoot 24 = .ok (.iconst 0, 1) := by decide +kernel
theorem dX4_writeAsleepRoot_25 : decode cX4_writeAsleepRoot 25 = .ok (.invokestatic 59, 3) := by decide +kernel
theorem dX4_writeAsleepRoot_28 : decode cX4_writeAsleepRoot 28 = .ok (.iload_n 1, 1) := by decide +kernel
theorem dX4_writeAsleepRoot_29 : decode cX4_writeAsleepRoot 29 = .ok (.iconst 2, 1) := by decide +kernel
theorem dX4_writeAsleepRoot_30 : decode cX4_writeAsleepRoot 30 = .ok (.if_icmp .lt 24, 3) := by decide +kernel
theorem dX4_writeAsleepRoot_33 : decode cX4_writeAsleepRoot 33 = .ok (.aload_n 0, 1) := by decide +kernel
theorem dX4_writeAsleepRoot_34 : decode cX4_writeAsleepRoot 34 = .ok (.getfield 22, 3) := by decide +kernel
theorem dX4_writeAsleepRoot_37 : decode cX4_writeAsleepRoot 37 = .ok (.iload_n 2, 1) := by decide +kernel
theorem dX4_writeAsleepRoot_38 : decode cX4_writeAsleepRoot 38 = .ok (.aload_n 0, 1) := by decide +kernel
theorem dX4_writeAsleepRoot_39 : decode cX4_writeAsleepRoot 39 = .ok (.getfield 38, 3) := by decide +kernel
theorem dX4_writeAsleepRoot_42 : decode cX4_writeAsleepRoot 42 = .ok (.invokestatic 59, 3) := by decide +kernel
theorem dX4_writeAsleepRoot_45 : decode cX4_writeAsleepRoot 45 = .ok (.aload_n 0, 1) := by decide +kernel
theorem dX4_writeAsleepRoot_46 : decode cX4_writeAsleepRoot 46 = .ok (.getfield 18, 3) := by decide +kernel
theorem dX4_writeAsleepRoot_49 : decode cX4_writeAsleepRoot 49 = .ok (.iload_n 2, 1) := by decide +kernel
theorem dX4_writeAsleepRoot_50 : decode cX4_writeAsleepRoot 50 = .ok (.iload_n 3, 1) := by decide +kernel
theorem dX4_writeAsleepRoot_51 : decode cX4_writeAsleepRoot 51 = .ok (.invokestatic 59, 3) := by decide +kernel
theorem dX4_writeAsleepRoot_54 : decode cX4_writeAsleepRoot 54 = .ok (.iload_n 1, 1) := by decide +kernel
theorem dX4_writeAsleepRoot_55 : decode cX4_writeAsleepRoot 55 = .ok (.iconst 3, 1) := by decide +kernel
theorem dX4_writeAsleepRoot_56 : decode cX4_writeAsleepRoot 56 = .ok (.if_icmp .lt 12, 3) := by decide +kernel
theorem dX4_writeAsleepRoot_59 : decode cX4_writeAsleepRoot 59 = .ok (.aload_n 0, 1) := by decide +kernel
theorem dX4_writeAsleepRoot_60 : decode cX4_writeAsleepRoot 60 = .ok (.getfield 25, 3) := by decide +kernel
theorem dX4_writeAsleepRoot_63 : decode cX4_writeAsleepRoot 63 = .ok (.iload_n 2, 1) := by decide +kernel
theorem dX4_writeAsleepRoot_64 : decode cX4_writeAsleepRoot 64 = .ok (.iconst 1, 1) := by decide +kernel
theorem dX4_writeAsleepRoot_65 : decode cX4_writeAsleepRoot 65 = .ok (.invokestatic 59, 3) := by decide +kernel
theorem dX4_writeAsleepRoot_68 : decode cX4_writeAsleepRoot 68 = .ok (.return_, 1) := by decide +kernel
set_option maxRecDepth 20000 in
theorem ggX4_dropDraft_X4_endDraft : GoodIn wsX4_dropDraft wsX4_endDraft := goodIn_r _ [6, 7, 8, 29, 30, 31, 32, 33, 34, 35, 36, 37, 38] (by decide +kernel) (by decide +kernel)
set_option maxRecDepth 20000 in
theorem gX4_dropDraft_X4_endDraft : GoodIn wsX4_dropDraft (wsV RX4 182 RX4 yX4_endDraft wsX4_endDraft) := goodIn_app (goodIn_of _ (by decide +kernel)) ggX4_dropDraft_X4_endDraft
set_option maxRecDepth 20000 in
theorem ggX4_dropDraft_X1_dropFresh : GoodIn wsX4_dropDraft wsX1_dropFresh := goodIn_r _ [13, 14, 15, 16, 17, 18, 12, 19, 20, 21, 22, 23, 24, 25, 26, 27, 28, 39, 40, 41, 42, 43, 44, 45, 46, 47] (by decide +kernel) (by decide +kernel)
set_option maxRecDepth 20000 in
theorem gX4_dropDraft_X1_dropFresh : GoodIn wsX4_dropDraft (wsV RX4 194 RX1 yX1_dropFresh wsX1_dropFresh) := goodIn_app (goodIn_of _ (by decide +kernel)) ggX4_dropDraft_X1_dropFresh
theorem dX4_dropDraft_0 : decode cX4_dropDraft 0 = .ok (.aload_n 0, 1) := by decide +kernel
theorem dX4_dropDraft_1 : decode cX4_dropDraft 1 = .ok (.invokevirtual 182, 3) := by decide +kernel
theorem dX4_dropDraft_4 : decode cX4_dropDraft 4 = .ok (.aload_n 0, 1) := by decide +kernel
theorem dX4_dropDraft_5 : decode cX4_dropDraft 5 = .ok (.getfield 12, 3) := by decide +kernel
theorem dX4_dropDraft_8 : decode cX4_dropDraft 8 = .ok (.invokevirtual 194, 3) := by decide +kernel
theorem dX4_dropDraft_11 : decode cX4_dropDraft 11 = .ok (.ireturn, 1) := by decide +kernel
theorem dX4_endDraft_0 : decode cX4_endDraft 0 = .ok (.aload_n 0, 1) := by decide +kernel
theorem dX4_endDraft_1 : decode cX4_endDraft 1 = .ok (.iconst 0, 1) := by decide +kernel
theorem dX4_endDraft_2 : decode cX4_endDraft 2 = .ok (.putfield 34, 3) := by decide +kernel
theorem dX4_endDraft_5 : decode cX4_endDraft 5 = .ok (.aload_n 0, 1) := by decide +kernel
theorem dX4_endDraft_6 : decode cX4_endDraft 6 = .ok (.sipush (-1000), 3) := by decide +kernel
theorem dX4_endDraft_9 : decode cX4_endDraft 9 = .ok (.putfield 38, 3) := by decide +kernel
theorem dX4_endDraft_12 : decode cX4_endDraft 12 = .ok (.return_, 1) := by decide +kernel
set_option maxRecDepth 20000 in
theorem ggX4_isOpen_X6_cell : GoodIn wsX4_isOpen wsX6_cell := goodIn_r _ [4] (by decide +kernel) (by decide +kernel)
set_option maxRecDepth 20000 in
theorem gX4_isOpen_X6_cell_n75 : GoodIn wsX4_isOpen (wsX6_cell) := ggX4_isOpen_X6_cell
theorem dX4_isOpen_0 : decode cX4_isOpen 0 = .ok (.aload_n 0, 1) := by decide +kernel
theorem dX4_isOpen_1 : decode cX4_isOpen 1 = .ok (.getfield 28, 3) := by decide +kernel
theorem dX4_isOpen_4 : decode cX4_isOpen 4 = .ok (.iload_n 1, 1) := by decide +kernel
theorem dX4_isOpen_5 : decode cX4_isOpen 5 = .ok (.invokestatic 75, 3) := by decide +kernel
theorem dX4_isOpen_8 : decode cX4_isOpen 8 = .ok (.sipush (-1000), 3) := by decide +kernel
theorem dX4_isOpen_11 : decode cX4_isOpen 11 = .ok (.if_icmp .eq 7, 3) := by decide +kernel
theorem dX4_isOpen_14 : decode cX4_isOpen 14 = .ok (.iconst 1, 1) := by decide +kernel
theorem dX4_isOpen_15 : decode cX4_isOpen 15 = .ok (.goto 4, 3) := by decide +kernel
theorem dX4_isOpen_18 : decode cX4_isOpen 18 = .ok (.iconst 0, 1) := by decide +kernel
theorem dX4_isOpen_19 : decode cX4_isOpen 19 = .ok (.ireturn, 1) := by decide +kernel
set_option maxRecDepth 20000 in
theorem ggX4_lowestClosedReader_X4_isOpen : GoodIn wsX4_lowestClosedReader wsX4_isOpen := goodIn_r _ [5, 6, 7, 8, 9, 10, 11, 12, 13, 14, 15, 16, 17, 18, 19] (by decide +kernel) (by decide +kernel)
set_option maxRecDepth 20000 in
theorem gX4_lowestClosedReader_X4_isOpen : GoodIn wsX4_lowestClosedReader (wsV RX4 109 RX4 yX4_isOpen wsX4_isOpen) := goodIn_app (goodIn_of _ (by decide +kernel)) ggX4_lowestClosedReader_X4_isOpen
theorem dX4_lowestClosedReader_0 : decode cX4_lowestClosedReader 0 = .ok (.iconst 0, 1) := by decide +kernel
theorem dX4_lowestClosedReader_1 : decode cX4_lowestClosedReader 1 = .ok (.istore_n 1, 1) := by decide +kernel
theorem dX4_lowestClosedReader_2 : decode cX4_lowestClosedReader 2 = .ok (.iload_n 1, 1) := by decide +kernel
theorem dX4_lowestClosedReader_3 : decode cX4_lowestClosedReader 3 = .ok (.iconst 4, 1) := by decide +kernel
theorem dX4_lowestClosedReader_4 : decode cX4_lowestClosedReader 4 = .ok (.if_icmp .ge 19, 3) := by decide +kernel
theorem dX4_lowestClosedReader_7 : decode cX4_lowestClosedReader 7 = .ok (.aload_n 0, 1) := by decide +kernel
theorem dX4_lowestClosedReader_8 : decode cX4_lowestClosedReader 8 = .ok (.iload_n 1, 1) := by decide +kernel
theorem dX4_lowestClosedReader_9 : decode cX4_lowestClosedReader 9 = .ok (.invokevirtual 109, 3) := by decide +kernel
theorem dX4_lowestClosedReader_12 : decode cX4_lowestClosedReader 12 = .ok (.ifCond .ne 5, 3) := by decide +kernel
theorem dX4_lowestClosedReader_15 : decode cX4_lowestClosedReader 15 = .ok (.iload_n 1, 1) := by decide +kernel
theorem dX4_lowestClosedReader_16 : decode cX4_lowestClosedReader 16 = .ok (.ireturn, 1) := by decide +kernel
theorem dX4_lowestClosedReader_17 : decode cX4_lowestClosedReader 17 = .ok (.iinc 1 1, 3) := by decide +kernel
theorem dX4_lowestClosedReader_20 : decode cX4_lowestClosedReader 20 = .ok (.goto (-18), 3) := by decide +kernel
theorem dX4_lowestClosedReader_23 : decode cX4_lowestClosedReader 23 = .ok (.sipush (-1000), 3) := by decide +kernel
theorem dX4_lowestClosedReader_26 : decode cX4_lowestClosedReader 26 = .ok (.ireturn, 1) := by decide +kernel
set_option maxRecDepth 20000 in
theorem ggX4_openReader_X4_lowestClosedReader : GoodIn wsX4_openReader wsX4_lowestClosedReader := goodIn_r _ [7, 8, 9, 10, 6, 11, 1, 12, 13, 14, 32, 33, 34, 35, 36, 37, 38, 39, 40, 41] (by decide +kernel) (by decide +kernel)
set_option maxRecDepth 20000 in
theorem gX4_openReader_X4_lowestClosedReader : GoodIn wsX4_openReader (wsV RX4 106 RX4 yX4_lowestClosedReader wsX4_lowestClosedReader) := goodIn_app (goodIn_of _ (by decide +kernel)) ggX4_openReader_X4_lowestClosedReader
set_option maxRecDepth 20000 in
theorem ggX4_openReader_X4_currentCount : GoodIn wsX4_openReader wsX4_currentCount := goodIn_r _ [18, 19, 20, 21, 22, 6, 23, 24, 12, 13, 14, 32, 33, 34, 35, 36, 37, 38, 39, 40, 41] (by decide +kernel) (by decide +kernel)
set_option maxRecDepth 20000 in
theorem gX4_openReader_X4_currentCount : GoodIn wsX4_openReader (wsV RX4 116 RX4 yX4_currentCount wsX4_currentCount) := goodIn_app (goodIn_of _ (by decide +kernel)) ggX4_openReader_X4_currentCount
set_option maxRecDepth 20000 in
theorem ggX4_openReader_X6_setCell : GoodIn wsX4_openReader wsX6_setCell := goodIn_r _ [26] (by decide +kernel) (by decide +kernel)
set_option maxRecDepth 20000 in
theorem gX4_openReader_X6_setCell_n59 : GoodIn wsX4_openReader (wsX6_setCell) := ggX4_openReader_X6_setCell
set_option maxRecDepth 20000 in
theorem ggX4_openReader_X4_currentDirectory : GoodIn wsX4_openReader wsX4_currentDirectory := goodIn_r _ [30, 31, 20, 21, 22, 6, 23, 24, 19, 12, 13, 14, 32, 33, 34, 35, 36, 37, 38, 39, 40, 41] (by decide +kernel) (by decide +kernel)
set_option maxRecDepth 20000 in
theorem gX4_openReader_X4_currentDirectory : GoodIn wsX4_openReader (wsV RX4 113 RX4 yX4_currentDirectory wsX4_currentDirectory) := goodIn_app (goodIn_of _ (by decide +kernel)) ggX4_openReader_X4_currentDirectory
theorem dX4_openReader_0 : decode cX4_openReader 0 = .ok (.aload_n 0, 1) := by decide +kernel
theorem dX4_openReader_1 : decode cX4_openReader 1 = .ok (.invokevirtual 106, 3) := by decide +kernel
theorem dX4_openReader_4 : decode cX4_openReader 4 = .ok (.istore_n 1, 1) := by decide +kernel
theorem dX4_openReader_5 : decode cX4_openReader 5 = .ok (.aload_n 0, 1) := by decide +kernel
theorem dX4_openReader_6 : decode cX4_openReader 6 = .ok (.getfield 28, 3) := by decide +kernel
theorem dX4_openReader_9 : decode cX4_openReader 9 = .ok (.iload_n 1, 1) := by decide +kernel
theorem dX4_openReader_10 : decode cX4_openReader 10 = .ok (.aload_n 0, 1) := by decide +kernel
theorem dX4_openReader_11 : decode cX4_openReader 11 = .ok (.invokevirtual 116, 3) := by decide +kernel
theorem dX4_openReader_14 : decode cX4_openReader 14 = .ok (.invokestatic 59, 3) := by decide +kernel
theorem dX4_openReader_17 : decode cX4_openReader 17 = .ok (.aload_n 0, 1) := by decide +kernel
theorem dX4_openReader_18 : decode cX4_openReader 18 = .ok (.getfield 31, 3) := by decide +kernel
theorem dX4_openReader_21 : decode cX4_openReader 21 = .ok (.iload_n 1, 1) := by decide +kernel
theorem dX4_openReader_22 : decode cX4_openReader 22 = .ok (.aload_n 0, 1) := by decide +kernel
theorem dX4_openReader_23 : decode cX4_openReader 23 = .ok (.invokevirtual 113, 3) := by decide +kernel
theorem dX4_openReader_26 : decode cX4_openReader 26 = .ok (.invokestatic 59, 3) := by decide +kernel
theorem dX4_openReader_29 : decode cX4_openReader 29 = .ok (.iload_n 1, 1) := by decide +kernel
theorem dX4_openReader_30 : decode cX4_openReader 30 = .ok (.ireturn, 1) := by decide +kernel
set_option maxRecDepth 20000 in
theorem ggX4_closeReader_X4_neededCount : GoodIn wsX4_closeReader wsX4_neededCount := goodIn_r _ [8, 9, 10, 11, 7, 12, 13, 14, 15, 16, 17, 18, 19, 2, 36, 37, 38, 39, 40, 41, 42, 43, 44, 45] (by decide +kernel) (by decide +kernel)
set_option maxRecDepth 20000 in
theorem gX4_closeReader_X4_neededCount : GoodIn wsX4_closeReader (wsV RX4 197 RX4 yX4_neededCount wsX4_neededCount) := goodIn_app (goodIn_of _ (by decide +kernel)) ggX4_closeReader_X4_neededCount
set_option maxRecDepth 20000 in
theorem ggX4_closeReader_X1_countFreedToDig : GoodIn wsX4_closeReader wsX1_countFreedToDig := goodIn_r _ [24, 25, 26, 27, 23, 28, 29, 30, 31, 32, 33, 46, 47, 48, 49, 50, 51, 52, 53, 54] (by decide +kernel) (by decide +kernel)
set_option maxRecDepth 20000 in
theorem gX4_closeReader_X1_countFreedToDig : GoodIn wsX4_closeReader (wsV RX4 200 RX1 yX1_countFreedToDig wsX1_countFreedToDig) := goodIn_app (goodIn_of _ (by decide +kernel)) ggX4_closeReader_X1_countFreedToDig
set_option maxRecDepth 20000 in
theorem ggX4_closeReader_X6_setCell : GoodIn wsX4_closeReader wsX6_setCell := goodIn_r _ [35] (by decide +kernel) (by decide +kernel)
set_option maxRecDepth 20000 in
theorem gX4_closeReader_X6_setCell_n59 : GoodIn wsX4_closeReader (wsX6_setCell) := ggX4_closeReader_X6_setCell
theorem dX4_closeReader_0 : decode cX4_closeReader 0 = .ok (.aload_n 0, 1) := by decide +kernel
theorem dX4_closeReader_1 : decode cX4_closeReader 1 = .ok (.getfield 12, 3) := by decide +kernel
theorem dX4_closeReader_4 : decode cX4_closeReader 4 = .ok (.aload_n 0, 1) := by decide +kernel
theorem dX4_closeReader_5 : decode cX4_closeReader 5 = .ok (.invokevirtual 197, 3) := by decide +kernel
theorem dX4_closeReader_8 : decode cX4_closeReader 8 = .ok (.invokevirtual 200, 3) := by decide +kernel
theorem dX4_closeReader_11 : decode cX4_closeReader 11 = .ok (.istore_n 2, 1) := by decide +kernel
theorem dX4_closeReader_12 : decode cX4_closeReader 12 = .ok (.aload_n 0, 1) := by decide +kernel
theorem dX4_closeReader_13 : decode cX4_closeReader 13 = .ok (.getfield 28, 3) := by decide +kernel
theorem dX4_closeReader_16 : decode cX4_closeReader 16 = .ok (.iload_n 1, 1) := by decide +kernel
theorem dX4_closeReader_17 : decode cX4_closeReader 17 = .ok (.sipush (-1000), 3) := by decide +kernel
theorem dX4_closeReader_20 : decode cX4_closeReader 20 = .ok (.invokestatic 59, 3) := by decide +kernel
theorem dX4_closeReader_23 : decode cX4_closeReader 23 = .ok (.aload_n 0, 1) := by decide +kernel
theorem dX4_closeReader_24 : decode cX4_closeReader 24 = .ok (.getfield 31, 3) := by decide +kernel
theorem dX4_closeReader_27 : decode cX4_closeReader 27 = .ok (.iload_n 1, 1) := by decide +kernel
theorem dX4_closeReader_28 : decode cX4_closeReader 28 = .ok (.sipush (-1000), 3) := by decide +kernel
theorem dX4_closeReader_31 : decode cX4_closeReader 31 = .ok (.invokestatic 59, 3) := by decide +kernel
theorem dX4_closeReader_34 : decode cX4_closeReader 34 = .ok (.aload_n 0, 1) := by decide +kernel
theorem dX4_closeReader_35 : decode cX4_closeReader 35 = .ok (.getfield 12, 3) := by decide +kernel
theorem dX4_closeReader_38 : decode cX4_closeReader 38 = .ok (.aload_n 0, 1) := by decide +kernel
theorem dX4_closeReader_39 : decode cX4_closeReader 39 = .ok (.invokevirtual 197, 3) := by decide +kernel
theorem dX4_closeReader_42 : decode cX4_closeReader 42 = .ok (.invokevirtual 200, 3) := by decide +kernel
theorem dX4_closeReader_45 : decode cX4_closeReader 45 = .ok (.iload_n 2, 1) := by decide +kernel
theorem dX4_closeReader_46 : decode cX4_closeReader 46 = .ok (.isub, 1) := by decide +kernel
theorem dX4_closeReader_47 : decode cX4_closeReader 47 = .ok (.ireturn, 1) := by decide +kernel
set_option maxRecDepth 20000 in
theorem ggX4_currentValue_X4_currentDirectory : GoodIn wsX4_currentValue wsX4_currentDirectory := goodIn_r _ [6, 7, 8, 9, 10, 5, 11, 12, 13, 14, 15, 16, 50, 51, 52, 53, 54, 55, 56, 57, 58, 59] (by decide +kernel) (by decide +kernel)
set_option maxRecDepth 20000 in
theorem gX4_currentValue_X4_currentDirectory : GoodIn wsX4_currentValue (wsV RX4 113 RX4 yX4_currentDirectory wsX4_currentDirectory) := goodIn_app (goodIn_of _ (by decide +kernel)) ggX4_currentValue_X4_currentDirectory
set_option maxRecDepth 20000 in
theorem ggX4_currentValue_X1_valueIn : GoodIn wsX4_currentValue wsX1_valueIn := goodIn_r _ [21, 22, 23, 24, 20, 25, 26, 27, 28, 29, 30, 31, 32, 33, 34, 35, 36, 37, 38, 39, 40, 41, 42, 43, 44, 45, 46, 47, 48, 49, 60, 61, 62, 63, 64, 65, 66, 67, 68] (by decide +kernel) (by decide +kernel)
set_option maxRecDepth 20000 in
theorem gX4_currentValue_X1_valueIn : GoodIn wsX4_currentValue (wsV RX4 203 RX1 yX1_valueIn wsX1_valueIn) := goodIn_app (goodIn_of _ (by decide +kernel)) ggX4_currentValue_X1_valueIn
theorem dX4_currentValue_0 : decode cX4_currentValue 0 = .ok (.aload_n 0, 1) := by decide +kernel
theorem dX4_currentValue_1 : decode cX4_currentValue 1 = .ok (.getfield 12, 3) := by decide +kernel
theorem dX4_currentValue_4 : decode cX4_currentValue 4 = .ok (.aload_n 0, 1) := by decide +kernel
theorem dX4_currentValue_5 : decode cX4_currentValue 5 = .ok (.invokevirtual 113, 3) := by decide +kernel
theorem dX4_currentValue_8 : decode cX4_currentValue 8 = .ok (.iload_n 1, 1) := by decide +kernel
theorem dX4_currentValue_9 : decode cX4_currentValue 9 = .ok (.invokevirtual 203, 3) := by decide +kernel
theorem dX4_currentValue_12 : decode cX4_currentValue 12 = .ok (.ireturn, 1) := by decide +kernel
set_option maxRecDepth 20000 in
theorem ggX4_draftedValue_X1_valueIn : GoodIn wsX4_draftedValue wsX1_valueIn := goodIn_r _ [7, 8, 9, 10, 6, 11, 12, 13, 14, 15, 16, 17, 18, 19, 20, 21, 22, 23, 24, 25, 26, 27, 28, 29, 30, 31, 32, 33, 34, 35, 46, 47, 48, 49, 50, 51, 52, 53, 54] (by decide +kernel) (by decide +kernel)
set_option maxRecDepth 20000 in
theorem gX4_draftedValue_X1_valueIn : GoodIn wsX4_draftedValue (wsV RX4 203 RX1 yX1_valueIn wsX1_valueIn) := goodIn_app (goodIn_of _ (by decide +kernel)) ggX4_draftedValue_X1_valueIn
theorem dX4_draftedValue_0 : decode cX4_draftedValue 0 = .ok (.aload_n 0, 1) := by decide +kernel
theorem dX4_draftedValue_1 : decode cX4_draftedValue 1 = .ok (.getfield 12, 3) := by decide +kernel
theorem dX4_draftedValue_4 : decode cX4_draftedValue 4 = .ok (.aload_n 0, 1) := by decide +kernel
theorem dX4_draftedValue_5 : decode cX4_draftedValue 5 = .ok (.getfield 38, 3) := by decide +kernel
theorem dX4_draftedValue_8 : decode cX4_draftedValue 8 = .ok (.iload_n 1, 1) := by decide +kernel
theorem dX4_draftedValue_9 : decode cX4_draftedValue 9 = .ok (.invokevirtual 203, 3) := by decide +kernel
theorem dX4_draftedValue_12 : decode cX4_draftedValue 12 = .ok (.ireturn, 1) := by decide +kernel
set_option maxRecDepth 20000 in
theorem ggX4_readerValue_X6_cell : GoodIn wsX4_readerValue wsX6_cell := goodIn_r _ [5] (by decide +kernel) (by decide +kernel)
set_option maxRecDepth 20000 in
theorem gX4_readerValue_X6_cell_n75 : GoodIn wsX4_readerValue (wsX6_cell) := ggX4_readerValue_X6_cell
set_option maxRecDepth 20000 in
theorem ggX4_readerValue_X1_valueIn : GoodIn wsX4_readerValue wsX1_valueIn := goodIn_r _ [10, 11, 12, 13, 9, 14, 15, 16, 17, 18, 19, 20, 21, 22, 23, 24, 25, 26, 27, 28, 29, 30, 31, 32, 33, 34, 35, 36, 37, 38, 49, 50, 51, 52, 53, 54, 55, 56, 57] (by decide +kernel) (by decide +kernel)
set_option maxRecDepth 20000 in
theorem gX4_readerValue_X1_valueIn : GoodIn wsX4_readerValue (wsV RX4 203 RX1 yX1_valueIn wsX1_valueIn) := goodIn_app (goodIn_of _ (by decide +kernel)) ggX4_readerValue_X1_valueIn
theorem dX4_readerValue_0 : decode cX4_readerValue 0 = .ok (.aload_n 0, 1) := by decide +kernel
theorem dX4_readerValue_1 : decode cX4_readerValue 1 = .ok (.getfield 12, 3) := by decide +kernel
theorem dX4_readerValue_4 : decode cX4_readerValue 4 = .ok (.aload_n 0, 1) := by decide +kernel
theorem dX4_readerValue_5 : decode cX4_readerValue 5 = .ok (.getfield 31, 3) := by decide +kernel
theorem dX4_readerValue_8 : decode cX4_readerValue 8 = .ok (.iload_n 1, 1) := by decide +kernel
theorem dX4_readerValue_9 : decode cX4_readerValue 9 = .ok (.invokestatic 75, 3) := by decide +kernel
theorem dX4_readerValue_12 : decode cX4_readerValue 12 = .ok (.iload_n 2, 1) := by decide +kernel
theorem dX4_readerValue_13 : decode cX4_readerValue 13 = .ok (.invokevirtual 203, 3) := by decide +kernel
theorem dX4_readerValue_16 : decode cX4_readerValue 16 = .ok (.ireturn, 1) := by decide +kernel
set_option maxRecDepth 20000 in
theorem ggX4_currentEntries_X4_currentDirectory : GoodIn wsX4_currentEntries wsX4_currentDirectory := goodIn_r _ [6, 7, 8, 9, 10, 5, 11, 12, 13, 14, 15, 16, 32, 33, 34, 35, 36, 37, 38, 39, 40, 41] (by decide +kernel) (by decide +kernel)
set_option maxRecDepth 20000 in
theorem gX4_currentEntries_X4_currentDirectory : GoodIn wsX4_currentEntries (wsV RX4 113 RX4 yX4_currentDirectory wsX4_currentDirectory) := goodIn_app (goodIn_of _ (by decide +kernel)) ggX4_currentEntries_X4_currentDirectory
set_option maxRecDepth 20000 in
theorem ggX4_currentEntries_X1_entriesIn : GoodIn wsX4_currentEntries wsX1_entriesIn := goodIn_r _ [21, 22, 23, 24, 20, 25, 26, 27, 28, 29, 30, 31, 42, 43, 44, 45, 46, 47, 48, 49, 50] (by decide +kernel) (by decide +kernel)
set_option maxRecDepth 20000 in
theorem gX4_currentEntries_X1_entriesIn : GoodIn wsX4_currentEntries (wsV RX4 206 RX1 yX1_entriesIn wsX1_entriesIn) := goodIn_app (goodIn_of _ (by decide +kernel)) ggX4_currentEntries_X1_entriesIn
theorem dX4_currentEntries_0 : decode cX4_currentEntries 0 = .ok (.aload_n 0, 1) := by decide +kernel
theorem dX4_currentEntries_1 : decode cX4_currentEntries 1 = .ok (.getfield 12, 3) := by decide +kernel
theorem dX4_currentEntries_4 : decode cX4_currentEntries 4 = .ok (.aload_n 0, 1) := by decide +kernel
theorem dX4_currentEntries_5 : decode cX4_currentEntries 5 = .ok (.invokevirtual 113, 3) := by decide +kernel
theorem dX4_currentEntries_8 : decode cX4_currentEntries 8 = .ok (.invokevirtual 206, 3) := by decide +kernel
theorem dX4_currentEntries_11 : decode cX4_currentEntries 11 = .ok (.ireturn, 1) := by decide +kernel
set_option maxRecDepth 20000 in
theorem ggX4_entryPart_X4_currentDirectory : GoodIn wsX4_entryPart wsX4_currentDirectory := goodIn_r _ [6, 7, 8, 9, 10, 5, 11, 12, 13, 14, 15, 16, 46, 47, 48, 49, 50, 51, 52, 53, 54, 55] (by decide +kernel) (by decide +kernel)
set_option maxRecDepth 20000 in
theorem gX4_entryPart_X4_currentDirectory : GoodIn wsX4_entryPart (wsV RX4 113 RX4 yX4_currentDirectory wsX4_currentDirectory) := goodIn_app (goodIn_of _ (by decide +kernel)) ggX4_entryPart_X4_currentDirectory
set_option maxRecDepth 20000 in
theorem ggX4_entryPart_X1_entryPartIn : GoodIn wsX4_entryPart wsX1_entryPartIn := goodIn_r _ [21, 22, 23, 24, 20, 25, 26, 27, 28, 29, 30, 31, 32, 33, 34, 35, 36, 37, 38, 39, 40, 41, 42, 43, 44, 45, 56, 57, 58, 59, 60, 61, 62, 63, 64] (by decide +kernel) (by decide +kernel)
set_option maxRecDepth 20000 in
theorem gX4_entryPart_X1_entryPartIn : GoodIn wsX4_entryPart (wsV RX4 209 RX1 yX1_entryPartIn wsX1_entryPartIn) := goodIn_app (goodIn_of _ (by decide +kernel)) ggX4_entryPart_X1_entryPartIn
theorem dX4_entryPart_0 : decode cX4_entryPart 0 = .ok (.aload_n 0, 1) := by decide +kernel
theorem dX4_entryPart_1 : decode cX4_entryPart 1 = .ok (.getfield 12, 3) := by decide +kernel
theorem dX4_entryPart_4 : decode cX4_entryPart 4 = .ok (.aload_n 0, 1) := by decide +kernel
theorem dX4_entryPart_5 : decode cX4_entryPart 5 = .ok (.invokevirtual 113, 3) := by decide +kernel
theorem dX4_entryPart_8 : decode cX4_entryPart 8 = .ok (.iload_n 1, 1) := by decide +kernel
theorem dX4_entryPart_9 : decode cX4_entryPart 9 = .ok (.iload_n 2, 1) := by decide +kernel
theorem dX4_entryPart_10 : decode cX4_entryPart 10 = .ok (.invokevirtual 209, 3) := by decide +kernel
theorem dX4_entryPart_13 : decode cX4_entryPart 13 = .ok (.ireturn, 1) := by decide +kernel
set_option maxRecDepth 20000 in
theorem ggX4_rootPart_X6_cell : GoodIn wsX4_rootPart wsX6_cell := goodIn_r _ [6] (by decide +kernel) (by decide +kernel)
set_option maxRecDepth 20000 in
theorem gX4_rootPart_X6_cell_n75 : GoodIn wsX4_rootPart (wsX6_cell) := ggX4_rootPart_X6_cell
set_option maxRecDepth 20000 in
theorem ggX4_rootPart_X4_currentRoot : GoodIn wsX4_rootPart wsX4_currentRoot := goodIn_r _ [11, 3, 1, 14, 15, 16, 17, 18, 19, 20, 21, 22, 23] (by decide +kernel) (by decide +kernel)
set_option maxRecDepth 20000 in
theorem gX4_rootPart_X4_currentRoot : GoodIn wsX4_rootPart (wsV RX4 71 RX4 yX4_currentRoot wsX4_currentRoot) := goodIn_app (goodIn_of _ (by decide +kernel)) ggX4_rootPart_X4_currentRoot
set_option maxRecDepth 20000 in
theorem ggX4_rootPart_X6_one : GoodIn wsX4_rootPart wsX6_one := goodIn_r _ [13] (by decide +kernel) (by decide +kernel)
set_option maxRecDepth 20000 in
theorem gX4_rootPart_X6_one_n213 : GoodIn wsX4_rootPart (wsX6_one) := ggX4_rootPart_X6_one
theorem dX4_rootPart_0 : decode cX4_rootPart 0 = .ok (.iload_n 2, 1) := by decide +kernel
theorem dX4_rootPart_1 : decode cX4_rootPart 1 = .ok (.tableswitch 75 0 3 #[31, 40, 49, 58], 31) := by decide +kernel
theorem dX4_rootPart_32 : decode cX4_rootPart 32 = .ok (.aload_n 0, 1) := by decide +kernel
theorem dX4_rootPart_33 : decode cX4_rootPart 33 = .ok (.getfield 18, 3) := by decide +kernel
theorem dX4_rootPart_36 : decode cX4_rootPart 36 = .ok (.iload_n 1, 1) := by decide +kernel
theorem dX4_rootPart_37 : decode cX4_rootPart 37 = .ok (.invokestatic 75, 3) := by decide +kernel
theorem dX4_rootPart_40 : decode cX4_rootPart 40 = .ok (.ireturn, 1) := by decide +kernel
theorem dX4_rootPart_41 : decode cX4_rootPart 41 = .ok (.aload_n 0, 1) := by decide +kernel
theorem dX4_rootPart_42 : decode cX4_rootPart 42 = .ok (.getfield 22, 3) := by decide +kernel
theorem dX4_rootPart_45 : decode cX4_rootPart 45 = .ok (.iload_n 1, 1) := by decide +kernel
theorem dX4_rootPart_46 : decode cX4_rootPart 46 = .ok (.invokestatic 75, 3) := by decide +kernel
theorem dX4_rootPart_49 : decode cX4_rootPart 49 = .ok (.ireturn, 1) := by decide +kernel
theorem dX4_rootPart_50 : decode cX4_rootPart 50 = .ok (.aload_n 0, 1) := by decide +kernel
theorem dX4_rootPart_51 : decode cX4_rootPart 51 = .ok (.getfield 25, 3) := by decide +kernel
theorem dX4_rootPart_54 : decode cX4_rootPart 54 = .ok (.iload_n 1, 1) := by decide +kernel
theorem dX4_rootPart_55 : decode cX4_rootPart 55 = .ok (.invokestatic 75, 3) := by decide +kernel
theorem dX4_rootPart_58 : decode cX4_rootPart 58 = .ok (.ireturn, 1) := by decide +kernel
theorem dX4_rootPart_59 : decode cX4_rootPart 59 = .ok (.iload_n 1, 1) := by decide +kernel
theorem dX4_rootPart_60 : decode cX4_rootPart 60 = .ok (.aload_n 0, 1) := by decide +kernel
theorem dX4_rootPart_61 : decode cX4_rootPart 61 = .ok (.invokevirtual 71, 3) := by decide +kernel
theorem dX4_rootPart_64 : decode cX4_rootPart 64 = .ok (.if_icmp .ne 7, 3) := by decide +kernel
theorem dX4_rootPart_67 : decode cX4_rootPart 67 = .ok (.iconst 1, 1) := by decide +kernel
theorem dX4_rootPart_68 : decode cX4_rootPart 68 = .ok (.goto 4, 3) := by decide +kernel
theorem dX4_rootPart_71 : decode cX4_rootPart 71 = .ok (.iconst 0, 1) := by decide +kernel
theorem dX4_rootPart_72 : decode cX4_rootPart 72 = .ok (.invokestatic 213, 3) := by decide +kernel
theorem dX4_rootPart_75 : decode cX4_rootPart 75 = .ok (.ireturn, 1) := by decide +kernel
theorem dX4_rootPart_76 : decode cX4_rootPart 76 = .ok (.sipush (-1000), 3) := by decide +kernel
theorem dX4_rootPart_79 : decode cX4_rootPart 79 = .ok (.ireturn, 1) := by decide +kernel
set_option maxRecDepth 20000 in
theorem ggX4_readerPart_X4_isOpen : GoodIn wsX4_readerPart wsX4_isOpen := goodIn_r _ [8, 1, 9, 10, 11, 27, 28, 29, 30, 31, 32, 33, 34, 35, 36] (by decide +kernel) (by decide +kernel)
set_option maxRecDepth 20000 in
theorem gX4_readerPart_X4_isOpen : GoodIn wsX4_readerPart (wsV RX4 109 RX4 yX4_isOpen wsX4_isOpen) := goodIn_app (goodIn_of _ (by decide +kernel)) ggX4_readerPart_X4_isOpen
set_option maxRecDepth 20000 in
theorem ggX4_readerPart_X6_cell : GoodIn wsX4_readerPart wsX6_cell := goodIn_r _ [11] (by decide +kernel) (by decide +kernel)
set_option maxRecDepth 20000 in
theorem gX4_readerPart_X6_cell_n75 : GoodIn wsX4_readerPart (wsX6_cell) := ggX4_readerPart_X6_cell
set_option maxRecDepth 20000 in
theorem ggX4_readerPart_X1_entriesIn : GoodIn wsX4_readerPart wsX1_entriesIn := goodIn_r _ [16, 17, 18, 19, 15, 20, 21, 22, 23, 24, 25, 26, 37, 38, 39, 40, 41, 42, 43, 44, 45] (by decide +kernel) (by decide +kernel)
set_option maxRecDepth 20000 in
theorem gX4_readerPart_X1_entriesIn : GoodIn wsX4_readerPart (wsV RX4 206 RX1 yX1_entriesIn wsX1_entriesIn) := goodIn_app (goodIn_of _ (by decide +kernel)) ggX4_readerPart_X1_entriesIn
theorem dX4_readerPart_0 : decode cX4_readerPart 0 = .ok (.aload_n 0, 1) := by decide +kernel
theorem dX4_readerPart_1 : decode cX4_readerPart 1 = .ok (.iload_n 1, 1) := by decide +kernel
theorem dX4_readerPart_2 : decode cX4_readerPart 2 = .ok (.invokevirtual 109, 3) := by decide +kernel
theorem dX4_readerPart_5 : decode cX4_readerPart 5 = .ok (.ifCond .ne 7, 3) := by decide +kernel
theorem dX4_readerPart_8 : decode cX4_readerPart 8 = .ok (.sipush (-1000), 3) := by decide +kernel
theorem dX4_readerPart_11 : decode cX4_readerPart 11 = .ok (.ireturn, 1) := by decide +kernel
theorem dX4_readerPart_12 : decode cX4_readerPart 12 = .ok (.iload_n 2, 1) := by decide +kernel
theorem dX4_readerPart_13 : decode cX4_readerPart 13 = .ok (.tableswitch 61 0 2 #[27, 36, 45], 27) := by decide +kernel
theorem dX4_readerPart_40 : decode cX4_readerPart 40 = .ok (.aload_n 0, 1) := by decide +kernel
theorem dX4_readerPart_41 : decode cX4_readerPart 41 = .ok (.getfield 28, 3) := by decide +kernel
theorem dX4_readerPart_44 : decode cX4_readerPart 44 = .ok (.iload_n 1, 1) := by decide +kernel
theorem dX4_readerPart_45 : decode cX4_readerPart 45 = .ok (.invokestatic 75, 3) := by decide +kernel
theorem dX4_readerPart_48 : decode cX4_readerPart 48 = .ok (.ireturn, 1) := by decide +kernel
theorem dX4_readerPart_49 : decode cX4_readerPart 49 = .ok (.aload_n 0, 1) := by decide +kernel
theorem dX4_readerPart_50 : decode cX4_readerPart 50 = .ok (.getfield 31, 3) := by decide +kernel
theorem dX4_readerPart_53 : decode cX4_readerPart 53 = .ok (.iload_n 1, 1) := by decide +kernel
theorem dX4_readerPart_54 : decode cX4_readerPart 54 = .ok (.invokestatic 75, 3) := by decide +kernel
theorem dX4_readerPart_57 : decode cX4_readerPart 57 = .ok (.ireturn, 1) := by decide +kernel
theorem dX4_readerPart_58 : decode cX4_readerPart 58 = .ok (.aload_n 0, 1) := by decide +kernel
theorem dX4_readerPart_59 : decode cX4_readerPart 59 = .ok (.getfield 12, 3) := by decide +kernel
theorem dX4_readerPart_62 : decode cX4_readerPart 62 = .ok (.aload_n 0, 1) := by decide +kernel
theorem dX4_readerPart_63 : decode cX4_readerPart 63 = .ok (.getfield 31, 3) := by decide +kernel
theorem dX4_readerPart_66 : decode cX4_readerPart 66 = .ok (.iload_n 1, 1) := by decide +kernel
theorem dX4_readerPart_67 : decode cX4_readerPart 67 = .ok (.invokestatic 75, 3) := by decide +kernel
theorem dX4_readerPart_70 : decode cX4_readerPart 70 = .ok (.invokevirtual 206, 3) := by decide +kernel
theorem dX4_readerPart_73 : decode cX4_readerPart 73 = .ok (.ireturn, 1) := by decide +kernel
theorem dX4_readerPart_74 : decode cX4_readerPart 74 = .ok (.sipush (-1000), 3) := by decide +kernel
theorem dX4_readerPart_77 : decode cX4_readerPart 77 = .ok (.ireturn, 1) := by decide +kernel
set_option maxRecDepth 20000 in
theorem ggX4_bedPart_X4_neededCount : GoodIn wsX4_bedPart wsX4_neededCount := goodIn_r _ [6, 7, 8, 9, 5, 10, 11, 12, 13, 14, 15, 16, 17, 18, 38, 39, 40, 41, 42, 43, 44, 45, 46, 47] (by decide +kernel) (by decide +kernel)
set_option maxRecDepth 20000 in
theorem gX4_bedPart_X4_neededCount : GoodIn wsX4_bedPart (wsV RX4 197 RX4 yX4_neededCount wsX4_neededCount) := goodIn_app (goodIn_of _ (by decide +kernel)) ggX4_bedPart_X4_neededCount
set_option maxRecDepth 20000 in
theorem ggX4_bedPart_X1_part : GoodIn wsX4_bedPart wsX1_part := goodIn_r _ [23, 24, 25, 26, 27, 28, 29, 30, 31, 32, 33, 34, 22, 35, 36, 37, 48, 49, 50, 51, 52, 53, 54, 55, 56] (by decide +kernel) (by decide +kernel)
set_option maxRecDepth 20000 in
theorem gX4_bedPart_X1_part : GoodIn wsX4_bedPart (wsV RX4 217 RX1 yX1_part wsX1_part) := goodIn_app (goodIn_of _ (by decide +kernel)) ggX4_bedPart_X1_part
theorem dX4_bedPart_0 : decode cX4_bedPart 0 = .ok (.aload_n 0, 1) := by decide +kernel
theorem dX4_bedPart_1 : decode cX4_bedPart 1 = .ok (.getfield 12, 3) := by decide +kernel
theorem dX4_bedPart_4 : decode cX4_bedPart 4 = .ok (.iload_n 1, 1) := by decide +kernel
theorem dX4_bedPart_5 : decode cX4_bedPart 5 = .ok (.iload_n 2, 1) := by decide +kernel
theorem dX4_bedPart_6 : decode cX4_bedPart 6 = .ok (.aload_n 0, 1) := by decide +kernel
theorem dX4_bedPart_7 : decode cX4_bedPart 7 = .ok (.invokevirtual 197, 3) := by decide +kernel
theorem dX4_bedPart_10 : decode cX4_bedPart 10 = .ok (.invokevirtual 217, 3) := by decide +kernel
theorem dX4_bedPart_13 : decode cX4_bedPart 13 = .ok (.ireturn, 1) := by decide +kernel
set_option maxRecDepth 20000 in
theorem ggX4_wholePart_X1_countInState : GoodIn wsX4_wholePart wsX1_countInState := goodIn_r _ [9, 10, 11, 12, 13, 111, 112, 113, 114, 115, 116, 117, 118, 119] (by decide +kernel) (by decide +kernel)
set_option maxRecDepth 20000 in
theorem gX4_wholePart_X1_countInState : GoodIn wsX4_wholePart (wsV RX4 220 RX1 yX1_countInState wsX1_countInState) := goodIn_app (goodIn_of _ (by decide +kernel)) ggX4_wholePart_X1_countInState
set_option maxRecDepth 20000 in
theorem ggX4_wholePart_X4_neededCount : GoodIn wsX4_wholePart wsX4_neededCount := goodIn_r _ [18, 19, 20, 21, 17, 22, 23, 24, 25, 26, 27, 28, 29, 30, 101, 102, 103, 104, 105, 106, 107, 108, 109, 110] (by decide +kernel) (by decide +kernel)
set_option maxRecDepth 20000 in
theorem gX4_wholePart_X4_neededCount : GoodIn wsX4_wholePart (wsV RX4 197 RX4 yX4_neededCount wsX4_neededCount) := goodIn_app (goodIn_of _ (by decide +kernel)) ggX4_wholePart_X4_neededCount
set_option maxRecDepth 20000 in
theorem ggX4_wholePart_X1_countFreedToDig : GoodIn wsX4_wholePart wsX1_countFreedToDig := goodIn_r _ [34, 35, 36, 37, 8, 38, 10, 39, 11, 12, 13, 111, 112, 113, 114, 115, 116, 117, 118, 119] (by decide +kernel) (by decide +kernel)
set_option maxRecDepth 20000 in
theorem gX4_wholePart_X1_countFreedToDig : GoodIn wsX4_wholePart (wsV RX4 200 RX1 yX1_countFreedToDig wsX1_countFreedToDig) := goodIn_app (goodIn_of _ (by decide +kernel)) ggX4_wholePart_X1_countFreedToDig
set_option maxRecDepth 20000 in
theorem ggX4_wholePart_X4_currentEntries : GoodIn wsX4_wholePart wsX4_currentEntries := goodIn_r _ [43, 1, 44, 45, 46, 17, 47, 48, 49, 50, 51, 52, 24, 25, 53, 12, 54, 55, 56, 57, 8, 58, 59, 60, 61, 62, 63, 64, 65, 66, 67, 68, 101, 102, 103, 104, 105, 106, 107, 108, 109, 110, 111, 112, 113, 114, 115, 116, 117, 118, 119] (by decide +kernel) (by decide +kernel)
set_option maxRecDepth 20000 in
theorem gX4_wholePart_X4_currentEntries : GoodIn wsX4_wholePart (wsV RX4 223 RX4 yX4_currentEntries wsX4_currentEntries) := goodIn_app (goodIn_of _ (by decide +kernel)) ggX4_wholePart_X4_currentEntries
set_option maxRecDepth 20000 in
theorem ggX4_wholePart_X4_currentDirectory : GoodIn wsX4_wholePart wsX4_currentDirectory := goodIn_r _ [47, 48, 49, 50, 51, 17, 52, 24, 25, 53, 12, 54, 101, 102, 103, 104, 105, 106, 107, 108, 109, 110] (by decide +kernel) (by decide +kernel)
set_option maxRecDepth 20000 in
theorem gX4_wholePart_X4_currentDirectory : GoodIn wsX4_wholePart (wsV RX4 113 RX4 yX4_currentDirectory wsX4_currentDirectory) := goodIn_app (goodIn_of _ (by decide +kernel)) ggX4_wholePart_X4_currentDirectory
set_option maxRecDepth 20000 in
theorem ggX4_wholePart_X1_sizeOf : GoodIn wsX4_wholePart wsX1_sizeOf := goodIn_r _ [62, 63, 111, 112, 113, 114, 115, 116, 117, 118, 119] (by decide +kernel) (by decide +kernel)
set_option maxRecDepth 20000 in
theorem gX4_wholePart_X1_sizeOf : GoodIn wsX4_wholePart (wsV RX4 148 RX1 yX1_sizeOf wsX1_sizeOf) := goodIn_app (goodIn_of _ (by decide +kernel)) ggX4_wholePart_X1_sizeOf
set_option maxRecDepth 20000 in
theorem ggX4_wholePart_X4_openReaders : GoodIn wsX4_wholePart wsX4_openReaders := goodIn_r _ [73, 74, 75, 76, 17, 77, 30, 53, 12, 54, 11, 13, 101, 102, 103, 104, 105, 106, 107, 108, 109, 110] (by decide +kernel) (by decide +kernel)
set_option maxRecDepth 20000 in
theorem gX4_wholePart_X4_openReaders : GoodIn wsX4_wholePart (wsV RX4 226 RX4 yX4_openReaders wsX4_openReaders) := goodIn_app (goodIn_of _ (by decide +kernel)) ggX4_wholePart_X4_openReaders
set_option maxRecDepth 20000 in
theorem ggX4_wholePart_X6_one : GoodIn wsX4_wholePart wsX6_one := goodIn_r _ [13] (by decide +kernel) (by decide +kernel)
set_option maxRecDepth 20000 in
theorem gX4_wholePart_X6_one_n213 : GoodIn wsX4_wholePart (wsX6_one) := ggX4_wholePart_X6_one
set_option maxRecDepth 20000 in
theorem ggX4_wholePart_X1_countFresh : GoodIn wsX4_wholePart wsX1_countFresh := goodIn_r _ [81, 82, 111, 112, 113, 114, 115, 116, 117, 118, 119] (by decide +kernel) (by decide +kernel)
set_option maxRecDepth 20000 in
theorem gX4_wholePart_X1_countFresh : GoodIn wsX4_wholePart (wsV RX4 229 RX1 yX1_countFresh wsX1_countFresh) := goodIn_app (goodIn_of _ (by decide +kernel)) ggX4_wholePart_X1_countFresh
set_option maxRecDepth 20000 in
theorem ggX4_wholePart_X1_countLeft : GoodIn wsX4_wholePart wsX1_countLeft := goodIn_r _ [86, 87, 111, 112, 113, 114, 115, 116, 117, 118, 119] (by decide +kernel) (by decide +kernel)
set_option maxRecDepth 20000 in
theorem gX4_wholePart_X1_countLeft : GoodIn wsX4_wholePart (wsV RX4 232 RX1 yX1_countLeft wsX1_countLeft) := goodIn_app (goodIn_of _ (by decide +kernel)) ggX4_wholePart_X1_countLeft
set_option maxRecDepth 20000 in
theorem ggX4_wholePart_X1_sumIn : GoodIn wsX4_wholePart wsX1_sumIn := goodIn_r _ [91, 59, 60, 61, 8, 62, 63, 64, 65, 66, 67, 68, 92, 93, 94, 95, 96, 97, 98, 99, 100, 111, 112, 113, 114, 115, 116, 117, 118, 119] (by decide +kernel) (by decide +kernel)
set_option maxRecDepth 20000 in
theorem gX4_wholePart_X1_sumIn : GoodIn wsX4_wholePart (wsV RX4 235 RX1 yX1_sumIn wsX1_sumIn) := goodIn_app (goodIn_of _ (by decide +kernel)) ggX4_wholePart_X1_sumIn
theorem dX4_wholePart_0 : decode cX4_wholePart 0 = .ok (.iload_n 1, 1) := by decide +kernel
theorem dX4_wholePart_1 : decode cX4_wholePart 1 = .ok (.tableswitch 183 0 13 #[71, 80, 89, 98, 110, 115, 120, 132, 137, 145, 153, 161, 166, 171], 71) := by decide +kernel
theorem dX4_wholePart_72 : decode cX4_wholePart 72 = .ok (.aload_n 0, 1) := by decide +kernel
theorem dX4_wholePart_73 : decode cX4_wholePart 73 = .ok (.getfield 12, 3) := by decide +kernel
theorem dX4_wholePart_76 : decode cX4_wholePart 76 = .ok (.iconst 0, 1) := by decide +kernel
theorem dX4_wholePart_77 : decode cX4_wholePart 77 = .ok (.invokevirtual 220, 3) := by decide +kernel
theorem dX4_wholePart_80 : decode cX4_wholePart 80 = .ok (.ireturn, 1) := by decide +kernel
theorem dX4_wholePart_81 : decode cX4_wholePart 81 = .ok (.aload_n 0, 1) := by decide +kernel
theorem dX4_wholePart_82 : decode cX4_wholePart 82 = .ok (.getfield 12, 3) := by decide +kernel
theorem dX4_wholePart_85 : decode cX4_wholePart 85 = .ok (.iconst 1, 1) := by decide +kernel
theorem dX4_wholePart_86 : decode cX4_wholePart 86 = .ok (.invokevirtual 220, 3) := by decide +kernel
theorem dX4_wholePart_89 : decode cX4_wholePart 89 = .ok (.ireturn, 1) := by decide +kernel
theorem dX4_wholePart_90 : decode cX4_wholePart 90 = .ok (.aload_n 0, 1) := by decide +kernel
theorem dX4_wholePart_91 : decode cX4_wholePart 91 = .ok (.getfield 12, 3) := by decide +kernel
theorem dX4_wholePart_94 : decode cX4_wholePart 94 = .ok (.iconst 2, 1) := by decide +kernel
theorem dX4_wholePart_95 : decode cX4_wholePart 95 = .ok (.invokevirtual 220, 3) := by decide +kernel
theorem dX4_wholePart_98 : decode cX4_wholePart 98 = .ok (.ireturn, 1) := by decide +kernel
theorem dX4_wholePart_99 : decode cX4_wholePart 99 = .ok (.aload_n 0, 1) := by decide +kernel
theorem dX4_wholePart_100 : decode cX4_wholePart 100 = .ok (.getfield 12, 3) := by decide +kernel
theorem dX4_wholePart_103 : decode cX4_wholePart 103 = .ok (.aload_n 0, 1) := by decide +kernel
theorem dX4_wholePart_104 : decode cX4_wholePart 104 = .ok (.invokevirtual 197, 3) := by decide +kernel
theorem dX4_wholePart_107 : decode cX4_wholePart 107 = .ok (.invokevirtual 200, 3) := by decide +kernel
theorem dX4_wholePart_110 : decode cX4_wholePart 110 = .ok (.ireturn, 1) := by decide +kernel
theorem dX4_wholePart_111 : decode cX4_wholePart 111 = .ok (.aload_n 0, 1) := by decide +kernel
theorem dX4_wholePart_112 : decode cX4_wholePart 112 = .ok (.invokevirtual 197, 3) := by decide +kernel
theorem dX4_wholePart_115 : decode cX4_wholePart 115 = .ok (.ireturn, 1) := by decide +kernel
theorem dX4_wholePart_116 : decode cX4_wholePart 116 = .ok (.aload_n 0, 1) := by decide +kernel
theorem dX4_wholePart_117 : decode cX4_wholePart 117 = .ok (.invokevirtual 223, 3) := by decide +kernel
theorem dX4_wholePart_120 : decode cX4_wholePart 120 = .ok (.ireturn, 1) := by decide +kernel
theorem dX4_wholePart_121 : decode cX4_wholePart 121 = .ok (.aload_n 0, 1) := by decide +kernel
theorem dX4_wholePart_122 : decode cX4_wholePart 122 = .ok (.getfield 12, 3) := by decide +kernel
theorem dX4_wholePart_125 : decode cX4_wholePart 125 = .ok (.aload_n 0, 1) := by decide +kernel
theorem dX4_wholePart_126 : decode cX4_wholePart 126 = .ok (.invokevirtual 113, 3) := by decide +kernel
theorem dX4_wholePart_129 : decode cX4_wholePart 129 = .ok (.invokevirtual 148, 3) := by decide +kernel
theorem dX4_wholePart_132 : decode cX4_wholePart 132 = .ok (.ireturn, 1) := by decide +kernel
theorem dX4_wholePart_133 : decode cX4_wholePart 133 = .ok (.aload_n 0, 1) := by decide +kernel
theorem dX4_wholePart_134 : decode cX4_wholePart 134 = .ok (.invokevirtual 226, 3) := by decide +kernel
theorem dX4_wholePart_137 : decode cX4_wholePart 137 = .ok (.ireturn, 1) := by decide +kernel
theorem dX4_wholePart_138 : decode cX4_wholePart 138 = .ok (.aload_n 0, 1) := by decide +kernel
theorem dX4_wholePart_139 : decode cX4_wholePart 139 = .ok (.getfield 34, 3) := by decide +kernel
theorem dX4_wholePart_142 : decode cX4_wholePart 142 = .ok (.invokestatic 213, 3) := by decide +kernel
theorem dX4_wholePart_145 : decode cX4_wholePart 145 = .ok (.ireturn, 1) := by decide +kernel
theorem dX4_wholePart_146 : decode cX4_wholePart 146 = .ok (.aload_n 0, 1) := by decide +kernel
theorem dX4_wholePart_147 : decode cX4_wholePart 147 = .ok (.getfield 12, 3) := by decide +kernel
theorem dX4_wholePart_150 : decode cX4_wholePart 150 = .ok (.invokevirtual 229, 3) := by decide +kernel
theorem dX4_wholePart_153 : decode cX4_wholePart 153 = .ok (.ireturn, 1) := by decide +kernel
theorem dX4_wholePart_154 : decode cX4_wholePart 154 = .ok (.aload_n 0, 1) := by decide +kernel
theorem dX4_wholePart_155 : decode cX4_wholePart 155 = .ok (.getfield 12, 3) := by decide +kernel
theorem dX4_wholePart_158 : decode cX4_wholePart 158 = .ok (.invokevirtual 232, 3) := by decide +kernel
theorem dX4_wholePart_161 : decode cX4_wholePart 161 = .ok (.ireturn, 1) := by decide +kernel
theorem dX4_wholePart_162 : decode cX4_wholePart 162 = .ok (.aload_n 0, 1) := by decide +kernel
theorem dX4_wholePart_163 : decode cX4_wholePart 163 = .ok (.getfield 42, 3) := by decide +kernel
theorem dX4_wholePart_166 : decode cX4_wholePart 166 = .ok (.ireturn, 1) := by decide +kernel
theorem dX4_wholePart_167 : decode cX4_wholePart 167 = .ok (.aload_n 0, 1) := by decide +kernel
theorem dX4_wholePart_168 : decode cX4_wholePart 168 = .ok (.getfield 45, 3) := by decide +kernel
theorem dX4_wholePart_171 : decode cX4_wholePart 171 = .ok (.ireturn, 1) := by decide +kernel
theorem dX4_wholePart_172 : decode cX4_wholePart 172 = .ok (.aload_n 0, 1) := by decide +kernel
theorem dX4_wholePart_173 : decode cX4_wholePart 173 = .ok (.getfield 12, 3) := by decide +kernel
theorem dX4_wholePart_176 : decode cX4_wholePart 176 = .ok (.aload_n 0, 1) := by decide +kernel
theorem dX4_wholePart_177 : decode cX4_wholePart 177 = .ok (.invokevirtual 113, 3) := by decide +kernel
theorem dX4_wholePart_180 : decode cX4_wholePart 180 = .ok (.invokevirtual 235, 3) := by decide +kernel
theorem dX4_wholePart_183 : decode cX4_wholePart 183 = .ok (.ireturn, 1) := by decide +kernel
theorem dX4_wholePart_184 : decode cX4_wholePart 184 = .ok (.sipush (-1000), 3) := by decide +kernel
theorem dX4_wholePart_187 : decode cX4_wholePart 187 = .ok (.ireturn, 1) := by decide +kernel
set_option maxRecDepth 20000 in
theorem ggX4_openReaders_X4_isOpen : GoodIn wsX4_openReaders wsX4_isOpen := goodIn_r _ [5, 6, 7, 8, 9, 12, 13, 14, 15, 16, 17, 18, 19, 20, 21] (by decide +kernel) (by decide +kernel)
set_option maxRecDepth 20000 in
theorem gX4_openReaders_X4_isOpen : GoodIn wsX4_openReaders (wsV RX4 109 RX4 yX4_isOpen wsX4_isOpen) := goodIn_app (goodIn_of _ (by decide +kernel)) ggX4_openReaders_X4_isOpen
set_option maxRecDepth 20000 in
theorem ggX4_openReaders_X6_one : GoodIn wsX4_openReaders wsX6_one := goodIn_r _ [11] (by decide +kernel) (by decide +kernel)
set_option maxRecDepth 20000 in
theorem gX4_openReaders_X6_one_n213 : GoodIn wsX4_openReaders (wsX6_one) := ggX4_openReaders_X6_one
theorem dX4_openReaders_0 : decode cX4_openReaders 0 = .ok (.iconst 0, 1) := by decide +kernel
theorem dX4_openReaders_1 : decode cX4_openReaders 1 = .ok (.istore_n 1, 1) := by decide +kernel
theorem dX4_openReaders_2 : decode cX4_openReaders 2 = .ok (.iconst 0, 1) := by decide +kernel
theorem dX4_openReaders_3 : decode cX4_openReaders 3 = .ok (.istore_n 2, 1) := by decide +kernel
theorem dX4_openReaders_4 : decode cX4_openReaders 4 = .ok (.iload_n 2, 1) := by decide +kernel
theorem dX4_openReaders_5 : decode cX4_openReaders 5 = .ok (.iconst 4, 1) := by decide +kernel
theorem dX4_openReaders_6 : decode cX4_openReaders 6 = .ok (.if_icmp .ge 20, 3) := by decide +kernel
theorem dX4_openReaders_9 : decode cX4_openReaders 9 = .ok (.iload_n 1, 1) := by decide +kernel
theorem dX4_openReaders_10 : decode cX4_openReaders 10 = .ok (.aload_n 0, 1) := by decide +kernel
theorem dX4_openReaders_11 : decode cX4_openReaders 11 = .ok (.iload_n 2, 1) := by decide +kernel
theorem dX4_openReaders_12 : decode cX4_openReaders 12 = .ok (.invokevirtual 109, 3) := by decide +kernel
theorem dX4_openReaders_15 : decode cX4_openReaders 15 = .ok (.invokestatic 213, 3) := by decide +kernel
theorem dX4_openReaders_18 : decode cX4_openReaders 18 = .ok (.iadd, 1) := by decide +kernel
theorem dX4_openReaders_19 : decode cX4_openReaders 19 = .ok (.istore_n 1, 1) := by decide +kernel
theorem dX4_openReaders_20 : decode cX4_openReaders 20 = .ok (.iinc 2 1, 3) := by decide +kernel
theorem dX4_openReaders_23 : decode cX4_openReaders 23 = .ok (.goto (-19), 3) := by decide +kernel
theorem dX4_openReaders_26 : decode cX4_openReaders 26 = .ok (.iload_n 1, 1) := by decide +kernel
theorem dX4_openReaders_27 : decode cX4_openReaders 27 = .ok (.ireturn, 1) := by decide +kernel
set_option maxRecDepth 20000 in
theorem ggX4_bedToDig_X4_neededCount : GoodIn wsX4_bedToDig wsX4_neededCount := goodIn_r _ [6, 7, 8, 9, 5, 10, 11, 12, 13, 14, 15, 16, 17, 18, 34, 35, 36, 37, 38, 39, 40, 41, 42, 43] (by decide +kernel) (by decide +kernel)
set_option maxRecDepth 20000 in
theorem gX4_bedToDig_X4_neededCount : GoodIn wsX4_bedToDig (wsV RX4 197 RX4 yX4_neededCount wsX4_neededCount) := goodIn_app (goodIn_of _ (by decide +kernel)) ggX4_bedToDig_X4_neededCount
set_option maxRecDepth 20000 in
theorem ggX4_bedToDig_X1_bedToDig : GoodIn wsX4_bedToDig wsX1_bedToDig := goodIn_r _ [23, 24, 25, 26, 27, 22, 28, 29, 30, 31, 32, 33, 44, 45, 46, 47, 48, 49, 50, 51, 52] (by decide +kernel) (by decide +kernel)
set_option maxRecDepth 20000 in
theorem gX4_bedToDig_X1_bedToDig : GoodIn wsX4_bedToDig (wsV RX4 179 RX1 yX1_bedToDig wsX1_bedToDig) := goodIn_app (goodIn_of _ (by decide +kernel)) ggX4_bedToDig_X1_bedToDig
theorem dX4_bedToDig_0 : decode cX4_bedToDig 0 = .ok (.aload_n 0, 1) := by decide +kernel
theorem dX4_bedToDig_1 : decode cX4_bedToDig 1 = .ok (.getfield 12, 3) := by decide +kernel
theorem dX4_bedToDig_4 : decode cX4_bedToDig 4 = .ok (.aload_n 0, 1) := by decide +kernel
theorem dX4_bedToDig_5 : decode cX4_bedToDig 5 = .ok (.invokevirtual 197, 3) := by decide +kernel
theorem dX4_bedToDig_8 : decode cX4_bedToDig 8 = .ok (.invokevirtual 179, 3) := by decide +kernel
theorem dX4_bedToDig_11 : decode cX4_bedToDig 11 = .ok (.ireturn, 1) := by decide +kernel
set_option maxRecDepth 20000 in
theorem ggX4_bedsToDig_X4_neededCount : GoodIn wsX4_bedsToDig wsX4_neededCount := goodIn_r _ [6, 7, 8, 9, 5, 10, 11, 12, 13, 14, 15, 16, 17, 18, 37, 38, 39, 40, 41, 42, 43, 44, 45, 46] (by decide +kernel) (by decide +kernel)
set_option maxRecDepth 20000 in
theorem gX4_bedsToDig_X4_neededCount : GoodIn wsX4_bedsToDig (wsV RX4 197 RX4 yX4_neededCount wsX4_neededCount) := goodIn_app (goodIn_of _ (by decide +kernel)) ggX4_bedsToDig_X4_neededCount
set_option maxRecDepth 20000 in
theorem ggX4_bedsToDig_X1_countFreedToDig : GoodIn wsX4_bedsToDig wsX1_countFreedToDig := goodIn_r _ [23, 24, 25, 26, 22, 27, 28, 29, 30, 31, 32, 47, 48, 49, 50, 51, 52, 53, 54, 55] (by decide +kernel) (by decide +kernel)
set_option maxRecDepth 20000 in
theorem gX4_bedsToDig_X1_countFreedToDig : GoodIn wsX4_bedsToDig (wsV RX4 200 RX1 yX1_countFreedToDig wsX1_countFreedToDig) := goodIn_app (goodIn_of _ (by decide +kernel)) ggX4_bedsToDig_X1_countFreedToDig
set_option maxRecDepth 20000 in
theorem ggX4_bedsToDig_X1_countInState : GoodIn wsX4_bedsToDig wsX1_countInState := goodIn_r _ [36, 28, 30, 31, 32, 47, 48, 49, 50, 51, 52, 53, 54, 55] (by decide +kernel) (by decide +kernel)
set_option maxRecDepth 20000 in
theorem gX4_bedsToDig_X1_countInState : GoodIn wsX4_bedsToDig (wsV RX4 220 RX1 yX1_countInState wsX1_countInState) := goodIn_app (goodIn_of _ (by decide +kernel)) ggX4_bedsToDig_X1_countInState
theorem dX4_bedsToDig_0 : decode cX4_bedsToDig 0 = .ok (.aload_n 0, 1) := by decide +kernel
theorem dX4_bedsToDig_1 : decode cX4_bedsToDig 1 = .ok (.getfield 12, 3) := by decide +kernel
theorem dX4_bedsToDig_4 : decode cX4_bedsToDig 4 = .ok (.aload_n 0, 1) := by decide +kernel
theorem dX4_bedsToDig_5 : decode cX4_bedsToDig 5 = .ok (.invokevirtual 197, 3) := by decide +kernel
theorem dX4_bedsToDig_8 : decode cX4_bedsToDig 8 = .ok (.invokevirtual 200, 3) := by decide +kernel
theorem dX4_bedsToDig_11 : decode cX4_bedsToDig 11 = .ok (.aload_n 0, 1) := by decide +kernel
theorem dX4_bedsToDig_12 : decode cX4_bedsToDig 12 = .ok (.getfield 12, 3) := by decide +kernel
theorem dX4_bedsToDig_15 : decode cX4_bedsToDig 15 = .ok (.iconst 0, 1) := by decide +kernel
theorem dX4_bedsToDig_16 : decode cX4_bedsToDig 16 = .ok (.invokevirtual 220, 3) := by decide +kernel
theorem dX4_bedsToDig_19 : decode cX4_bedsToDig 19 = .ok (.iadd, 1) := by decide +kernel
theorem dX4_bedsToDig_20 : decode cX4_bedsToDig 20 = .ok (.ireturn, 1) := by decide +kernel
set_option maxRecDepth 20000 in
theorem ggX4_digsForDirectory_X1_isFresh : GoodIn wsX4_digsForDirectory wsX1_isFresh := goodIn_r _ [7, 8, 22, 23, 24, 25, 26, 27, 28, 29, 30] (by decide +kernel) (by decide +kernel)
set_option maxRecDepth 20000 in
theorem gX4_digsForDirectory_X1_isFresh : GoodIn wsX4_digsForDirectory (wsV RX4 167 RX1 yX1_isFresh wsX1_isFresh) := goodIn_app (goodIn_of _ (by decide +kernel)) ggX4_digsForDirectory_X1_isFresh
set_option maxRecDepth 20000 in
theorem ggX4_digsForDirectory_X6_one : GoodIn wsX4_digsForDirectory wsX6_one := goodIn_r _ [11] (by decide +kernel) (by decide +kernel)
set_option maxRecDepth 20000 in
theorem gX4_digsForDirectory_X6_one_n213 : GoodIn wsX4_digsForDirectory (wsX6_one) := ggX4_digsForDirectory_X6_one
theorem dX4_digsForDirectory_0 : decode cX4_digsForDirectory 0 = .ok (.aload_n 0, 1) := by decide +kernel
theorem dX4_digsForDirectory_1 : decode cX4_digsForDirectory 1 = .ok (.getfield 12, 3) := by decide +kernel
theorem dX4_digsForDirectory_4 : decode cX4_digsForDirectory 4 = .ok (.aload_n 0, 1) := by decide +kernel
theorem dX4_digsForDirectory_5 : decode cX4_digsForDirectory 5 = .ok (.getfield 38, 3) := by decide +kernel
theorem dX4_digsForDirectory_8 : decode cX4_digsForDirectory 8 = .ok (.invokevirtual 167, 3) := by decide +kernel
theorem dX4_digsForDirectory_11 : decode cX4_digsForDirectory 11 = .ok (.ifCond .ne 7, 3) := by decide +kernel
theorem dX4_digsForDirectory_14 : decode cX4_digsForDirectory 14 = .ok (.iconst 1, 1) := by decide +kernel
theorem dX4_digsForDirectory_15 : decode cX4_digsForDirectory 15 = .ok (.goto 4, 3) := by decide +kernel
theorem dX4_digsForDirectory_18 : decode cX4_digsForDirectory 18 = .ok (.iconst 0, 1) := by decide +kernel
theorem dX4_digsForDirectory_19 : decode cX4_digsForDirectory 19 = .ok (.invokestatic 213, 3) := by decide +kernel
theorem dX4_digsForDirectory_22 : decode cX4_digsForDirectory 22 = .ok (.ireturn, 1) := by decide +kernel
set_option maxRecDepth 20000 in
theorem ggX4_digsToPut_X1_leafPlace : GoodIn wsX4_digsToPut wsX1_leafPlace := goodIn_r _ [7, 8, 9, 10, 6, 11, 12, 13, 14, 15, 16, 17, 18, 19, 20, 21, 22, 52, 53, 54, 55, 56, 57, 58, 59, 60] (by decide +kernel) (by decide +kernel)
set_option maxRecDepth 20000 in
theorem gX4_digsToPut_X1_leafPlace : GoodIn wsX4_digsToPut (wsV RX4 122 RX1 yX1_leafPlace wsX1_leafPlace) := goodIn_app (goodIn_of _ (by decide +kernel)) ggX4_digsToPut_X1_leafPlace
set_option maxRecDepth 20000 in
theorem ggX4_digsToPut_X4_digsForDirectory : GoodIn wsX4_digsToPut wsX4_digsForDirectory := goodIn_r _ [27, 1, 2, 28, 29, 30, 6, 31, 32, 33, 34, 35, 42, 43, 44, 45, 46, 47, 48, 49, 50, 51, 52, 53, 54, 55, 56, 57, 58, 59, 60] (by decide +kernel) (by decide +kernel)
set_option maxRecDepth 20000 in
theorem gX4_digsToPut_X4_digsForDirectory : GoodIn wsX4_digsToPut (wsV RX4 238 RX4 yX4_digsForDirectory wsX4_digsForDirectory) := goodIn_app (goodIn_of _ (by decide +kernel)) ggX4_digsToPut_X4_digsForDirectory
set_option maxRecDepth 20000 in
theorem ggX4_digsToPut_X1_leafAt : GoodIn wsX4_digsToPut wsX1_leafAt := goodIn_r _ [16, 17, 52, 53, 54, 55, 56, 57, 58, 59, 60] (by decide +kernel) (by decide +kernel)
set_option maxRecDepth 20000 in
theorem gX4_digsToPut_X1_leafAt : GoodIn wsX4_digsToPut (wsV RX4 154 RX1 yX1_leafAt wsX1_leafAt) := goodIn_app (goodIn_of _ (by decide +kernel)) ggX4_digsToPut_X1_leafAt
set_option maxRecDepth 20000 in
theorem ggX4_digsToPut_X1_isFresh : GoodIn wsX4_digsToPut wsX1_isFresh := goodIn_r _ [31, 32, 52, 53, 54, 55, 56, 57, 58, 59, 60] (by decide +kernel) (by decide +kernel)
set_option maxRecDepth 20000 in
theorem gX4_digsToPut_X1_isFresh : GoodIn wsX4_digsToPut (wsV RX4 167 RX1 yX1_isFresh wsX1_isFresh) := goodIn_app (goodIn_of _ (by decide +kernel)) ggX4_digsToPut_X1_isFresh
set_option maxRecDepth 20000 in
theorem ggX4_digsToPut_X6_one : GoodIn wsX4_digsToPut wsX6_one := goodIn_r _ [35] (by decide +kernel) (by decide +kernel)
set_option maxRecDepth 20000 in
theorem gX4_digsToPut_X6_one_n213 : GoodIn wsX4_digsToPut (wsX6_one) := ggX4_digsToPut_X6_one
set_option maxRecDepth 20000 in
theorem ggX4_digsToPut_X1_entryPlace : GoodIn wsX4_digsToPut wsX1_entryPlace := goodIn_r _ [40, 8, 9, 10, 6, 11, 12, 18, 19, 20, 21, 22, 52, 53, 54, 55, 56, 57, 58, 59, 60] (by decide +kernel) (by decide +kernel)
set_option maxRecDepth 20000 in
theorem gX4_digsToPut_X1_entryPlace : GoodIn wsX4_digsToPut (wsV RX4 138 RX1 yX1_entryPlace wsX1_entryPlace) := goodIn_app (goodIn_of _ (by decide +kernel)) ggX4_digsToPut_X1_entryPlace
set_option maxRecDepth 20000 in
theorem ggX4_digsToPut_X1_sizeOf : GoodIn wsX4_digsToPut wsX1_sizeOf := goodIn_r _ [11, 12, 52, 53, 54, 55, 56, 57, 58, 59, 60] (by decide +kernel) (by decide +kernel)
set_option maxRecDepth 20000 in
theorem gX4_digsToPut_X1_sizeOf : GoodIn wsX4_digsToPut (wsV RX4 148 RX1 yX1_sizeOf wsX1_sizeOf) := goodIn_app (goodIn_of _ (by decide +kernel)) ggX4_digsToPut_X1_sizeOf
theorem dX4_digsToPut_0 : decode cX4_digsToPut 0 = .ok (.aload_n 0, 1) := by decide +kernel
theorem dX4_digsToPut_1 : decode cX4_digsToPut 1 = .ok (.getfield 12, 3) := by decide +kernel
theorem dX4_digsToPut_4 : decode cX4_digsToPut 4 = .ok (.aload_n 0, 1) := by decide +kernel
theorem dX4_digsToPut_5 : decode cX4_digsToPut 5 = .ok (.getfield 38, 3) := by decide +kernel
theorem dX4_digsToPut_8 : decode cX4_digsToPut 8 = .ok (.iload_n 1, 1) := by decide +kernel
theorem dX4_digsToPut_9 : decode cX4_digsToPut 9 = .ok (.invokevirtual 122, 3) := by decide +kernel
theorem dX4_digsToPut_12 : decode cX4_digsToPut 12 = .ok (.istore_n 2, 1) := by decide +kernel
theorem dX4_digsToPut_13 : decode cX4_digsToPut 13 = .ok (.iload_n 2, 1) := by decide +kernel
theorem dX4_digsToPut_14 : decode cX4_digsToPut 14 = .ok (.sipush (-1000), 3) := by decide +kernel
theorem dX4_digsToPut_17 : decode cX4_digsToPut 17 = .ok (.if_icmp .ne 10, 3) := by decide +kernel
theorem dX4_digsToPut_20 : decode cX4_digsToPut 20 = .ok (.aload_n 0, 1) := by decide +kernel
theorem dX4_digsToPut_21 : decode cX4_digsToPut 21 = .ok (.invokevirtual 238, 3) := by decide +kernel
theorem dX4_digsToPut_24 : decode cX4_digsToPut 24 = .ok (.iconst 1, 1) := by decide +kernel
theorem dX4_digsToPut_25 : decode cX4_digsToPut 25 = .ok (.iadd, 1) := by decide +kernel
theorem dX4_digsToPut_26 : decode cX4_digsToPut 26 = .ok (.ireturn, 1) := by decide +kernel
theorem dX4_digsToPut_27 : decode cX4_digsToPut 27 = .ok (.aload_n 0, 1) := by decide +kernel
theorem dX4_digsToPut_28 : decode cX4_digsToPut 28 = .ok (.getfield 12, 3) := by decide +kernel
theorem dX4_digsToPut_31 : decode cX4_digsToPut 31 = .ok (.aload_n 0, 1) := by decide +kernel
theorem dX4_digsToPut_32 : decode cX4_digsToPut 32 = .ok (.getfield 38, 3) := by decide +kernel
theorem dX4_digsToPut_35 : decode cX4_digsToPut 35 = .ok (.iload_n 2, 1) := by decide +kernel
theorem dX4_digsToPut_36 : decode cX4_digsToPut 36 = .ok (.invokevirtual 154, 3) := by decide +kernel
theorem dX4_digsToPut_39 : decode cX4_digsToPut 39 = .ok (.istore_n 3, 1) := by decide +kernel
theorem dX4_digsToPut_40 : decode cX4_digsToPut 40 = .ok (.aload_n 0, 1) := by decide +kernel
theorem dX4_digsToPut_41 : decode cX4_digsToPut 41 = .ok (.invokevirtual 238, 3) := by decide +kernel
theorem dX4_digsToPut_44 : decode cX4_digsToPut 44 = .ok (.aload_n 0, 1) := by decide +kernel
theorem dX4_digsToPut_45 : decode cX4_digsToPut 45 = .ok (.getfield 12, 3) := by decide +kernel
theorem dX4_digsToPut_48 : decode cX4_digsToPut 48 = .ok (.iload_n 3, 1) := by decide +kernel
theorem dX4_digsToPut_49 : decode cX4_digsToPut 49 = .ok (.invokevirtual 167, 3) := by decide +kernel
theorem dX4_digsToPut_52 : decode cX4_digsToPut 52 = .ok (.ifCond .ne 7, 3) := by decide +kernel
theorem dX4_digsToPut_55 : decode cX4_digsToPut 55 = .ok (.iconst 1, 1) := by decide +kernel
theorem dX4_digsToPut_56 : decode cX4_digsToPut 56 = .ok (.goto 4, 3) := by decide +kernel
theorem dX4_digsToPut_59 : decode cX4_digsToPut 59 = .ok (.iconst 0, 1) := by decide +kernel
theorem dX4_digsToPut_60 : decode cX4_digsToPut 60 = .ok (.invokestatic 213, 3) := by decide +kernel
theorem dX4_digsToPut_63 : decode cX4_digsToPut 63 = .ok (.iadd, 1) := by decide +kernel
theorem dX4_digsToPut_64 : decode cX4_digsToPut 64 = .ok (.istore 4, 2) := by decide +kernel
theorem dX4_digsToPut_66 : decode cX4_digsToPut 66 = .ok (.aload_n 0, 1) := by decide +kernel
theorem dX4_digsToPut_67 : decode cX4_digsToPut 67 = .ok (.getfield 12, 3) := by decide +kernel
theorem dX4_digsToPut_70 : decode cX4_digsToPut 70 = .ok (.iload_n 3, 1) := by decide +kernel
theorem dX4_digsToPut_71 : decode cX4_digsToPut 71 = .ok (.iload_n 1, 1) := by decide +kernel
theorem dX4_digsToPut_72 : decode cX4_digsToPut 72 = .ok (.invokevirtual 138, 3) := by decide +kernel
theorem dX4_digsToPut_75 : decode cX4_digsToPut 75 = .ok (.sipush (-1000), 3) := by decide +kernel
theorem dX4_digsToPut_78 : decode cX4_digsToPut 78 = .ok (.if_icmp .ne 15, 3) := by decide +kernel
theorem dX4_digsToPut_81 : decode cX4_digsToPut 81 = .ok (.aload_n 0, 1) := by decide +kernel
theorem dX4_digsToPut_82 : decode cX4_digsToPut 82 = .ok (.getfield 12, 3) := by decide +kernel
theorem dX4_digsToPut_85 : decode cX4_digsToPut 85 = .ok (.iload_n 3, 1) := by decide +kernel
theorem dX4_digsToPut_86 : decode cX4_digsToPut 86 = .ok (.invokevirtual 148, 3) := by decide +kernel
theorem dX4_digsToPut_89 : decode cX4_digsToPut 89 = .ok (.iconst 4, 1) := by decide +kernel
theorem dX4_digsToPut_90 : decode cX4_digsToPut 90 = .ok (.if_icmp .ge 6, 3) := by decide +kernel
theorem dX4_digsToPut_93 : decode cX4_digsToPut 93 = .ok (.iload 4, 2) := by decide +kernel
theorem dX4_digsToPut_95 : decode cX4_digsToPut 95 = .ok (.ireturn, 1) := by decide +kernel
theorem dX4_digsToPut_96 : decode cX4_digsToPut 96 = .ok (.aload_n 0, 1) := by decide +kernel
theorem dX4_digsToPut_97 : decode cX4_digsToPut 97 = .ok (.getfield 12, 3) := by decide +kernel
theorem dX4_digsToPut_100 : decode cX4_digsToPut 100 = .ok (.aload_n 0, 1) := by decide +kernel
theorem dX4_digsToPut_101 : decode cX4_digsToPut 101 = .ok (.getfield 38, 3) := by decide +kernel
theorem dX4_digsToPut_104 : decode cX4_digsToPut 104 = .ok (.invokevirtual 148, 3) := by decide +kernel
theorem dX4_digsToPut_107 : decode cX4_digsToPut 107 = .ok (.bipush 6, 2) := by decide +kernel
theorem dX4_digsToPut_109 : decode cX4_digsToPut 109 = .ok (.if_icmp .ge 10, 3) := by decide +kernel
theorem dX4_digsToPut_112 : decode cX4_digsToPut 112 = .ok (.iload 4, 2) := by decide +kernel
theorem dX4_digsToPut_114 : decode cX4_digsToPut 114 = .ok (.iconst 1, 1) := by decide +kernel
theorem dX4_digsToPut_115 : decode cX4_digsToPut 115 = .ok (.iadd, 1) := by decide +kernel
theorem dX4_digsToPut_116 : decode cX4_digsToPut 116 = .ok (.goto 6, 3) := by decide +kernel
theorem dX4_digsToPut_119 : decode cX4_digsToPut 119 = .ok (.sipush (-1000), 3) := by decide +kernel
theorem dX4_digsToPut_122 : decode cX4_digsToPut 122 = .ok (.ireturn, 1) := by decide +kernel
set_option maxRecDepth 20000 in
theorem ggX4_digsToRemove_X1_leafPlace : GoodIn wsX4_digsToRemove wsX1_leafPlace := goodIn_r _ [7, 8, 9, 10, 6, 11, 12, 13, 14, 15, 16, 17, 18, 19, 20, 21, 22, 48, 49, 50, 51, 52, 53, 54, 55, 56] (by decide +kernel) (by decide +kernel)
set_option maxRecDepth 20000 in
theorem gX4_digsToRemove_X1_leafPlace : GoodIn wsX4_digsToRemove (wsV RX4 122 RX1 yX1_leafPlace wsX1_leafPlace) := goodIn_app (goodIn_of _ (by decide +kernel)) ggX4_digsToRemove_X1_leafPlace
set_option maxRecDepth 20000 in
theorem ggX4_digsToRemove_X1_leafAt : GoodIn wsX4_digsToRemove wsX1_leafAt := goodIn_r _ [16, 17, 48, 49, 50, 51, 52, 53, 54, 55, 56] (by decide +kernel) (by decide +kernel)
set_option maxRecDepth 20000 in
theorem gX4_digsToRemove_X1_leafAt : GoodIn wsX4_digsToRemove (wsV RX4 154 RX1 yX1_leafAt wsX1_leafAt) := goodIn_app (goodIn_of _ (by decide +kernel)) ggX4_digsToRemove_X1_leafAt
set_option maxRecDepth 20000 in
theorem ggX4_digsToRemove_X4_digsForDirectory : GoodIn wsX4_digsToRemove wsX4_digsForDirectory := goodIn_r _ [28, 1, 2, 29, 30, 31, 6, 32, 33, 34, 35, 36, 38, 39, 40, 41, 42, 43, 44, 45, 46, 47, 48, 49, 50, 51, 52, 53, 54, 55, 56] (by decide +kernel) (by decide +kernel)
set_option maxRecDepth 20000 in
theorem gX4_digsToRemove_X4_digsForDirectory : GoodIn wsX4_digsToRemove (wsV RX4 238 RX4 yX4_digsForDirectory wsX4_digsForDirectory) := goodIn_app (goodIn_of _ (by decide +kernel)) ggX4_digsToRemove_X4_digsForDirectory
set_option maxRecDepth 20000 in
theorem ggX4_digsToRemove_X1_sizeOf : GoodIn wsX4_digsToRemove wsX1_sizeOf := goodIn_r _ [11, 12, 48, 49, 50, 51, 52, 53, 54, 55, 56] (by decide +kernel) (by decide +kernel)
set_option maxRecDepth 20000 in
theorem gX4_digsToRemove_X1_sizeOf : GoodIn wsX4_digsToRemove (wsV RX4 148 RX1 yX1_sizeOf wsX1_sizeOf) := goodIn_app (goodIn_of _ (by decide +kernel)) ggX4_digsToRemove_X1_sizeOf
set_option maxRecDepth 20000 in
theorem ggX4_digsToRemove_X1_isFresh : GoodIn wsX4_digsToRemove wsX1_isFresh := goodIn_r _ [32, 33, 48, 49, 50, 51, 52, 53, 54, 55, 56] (by decide +kernel) (by decide +kernel)
set_option maxRecDepth 20000 in
theorem gX4_digsToRemove_X1_isFresh : GoodIn wsX4_digsToRemove (wsV RX4 167 RX1 yX1_isFresh wsX1_isFresh) := goodIn_app (goodIn_of _ (by decide +kernel)) ggX4_digsToRemove_X1_isFresh
set_option maxRecDepth 20000 in
theorem ggX4_digsToRemove_X6_one : GoodIn wsX4_digsToRemove wsX6_one := goodIn_r _ [36] (by decide +kernel) (by decide +kernel)
set_option maxRecDepth 20000 in
theorem gX4_digsToRemove_X6_one_n213 : GoodIn wsX4_digsToRemove (wsX6_one) := ggX4_digsToRemove_X6_one
theorem dX4_digsToRemove_0 : decode cX4_digsToRemove 0 = .ok (.aload_n 0, 1) := by decide +kernel
theorem dX4_digsToRemove_1 : decode cX4_digsToRemove 1 = .ok (.getfield 12, 3) := by decide +kernel
theorem dX4_digsToRemove_4 : decode cX4_digsToRemove 4 = .ok (.aload_n 0, 1) := by decide +kernel
theorem dX4_digsToRemove_5 : decode cX4_digsToRemove 5 = .ok (.getfield 38, 3) := by decide +kernel
theorem dX4_digsToRemove_8 : decode cX4_digsToRemove 8 = .ok (.aload_n 0, 1) := by decide +kernel
theorem dX4_digsToRemove_9 : decode cX4_digsToRemove 9 = .ok (.getfield 12, 3) := by decide +kernel
theorem dX4_digsToRemove_12 : decode cX4_digsToRemove 12 = .ok (.aload_n 0, 1) := by decide +kernel
theorem dX4_digsToRemove_13 : decode cX4_digsToRemove 13 = .ok (.getfield 38, 3) := by decide +kernel
theorem dX4_digsToRemove_16 : decode cX4_digsToRemove 16 = .ok (.iload_n 1, 1) := by decide +kernel
theorem dX4_digsToRemove_17 : decode cX4_digsToRemove 17 = .ok (.invokevirtual 122, 3) := by decide +kernel
theorem dX4_digsToRemove_20 : decode cX4_digsToRemove 20 = .ok (.invokevirtual 154, 3) := by decide +kernel
theorem dX4_digsToRemove_23 : decode cX4_digsToRemove 23 = .ok (.istore_n 2, 1) := by decide +kernel
theorem dX4_digsToRemove_24 : decode cX4_digsToRemove 24 = .ok (.aload_n 0, 1) := by decide +kernel
theorem dX4_digsToRemove_25 : decode cX4_digsToRemove 25 = .ok (.invokevirtual 238, 3) := by decide +kernel
theorem dX4_digsToRemove_28 : decode cX4_digsToRemove 28 = .ok (.aload_n 0, 1) := by decide +kernel
theorem dX4_digsToRemove_29 : decode cX4_digsToRemove 29 = .ok (.getfield 12, 3) := by decide +kernel
theorem dX4_digsToRemove_32 : decode cX4_digsToRemove 32 = .ok (.iload_n 2, 1) := by decide +kernel
theorem dX4_digsToRemove_33 : decode cX4_digsToRemove 33 = .ok (.invokevirtual 148, 3) := by decide +kernel
theorem dX4_digsToRemove_36 : decode cX4_digsToRemove 36 = .ok (.iconst 1, 1) := by decide +kernel
theorem dX4_digsToRemove_37 : decode cX4_digsToRemove 37 = .ok (.if_icmp .le 18, 3) := by decide +kernel
theorem dX4_digsToRemove_40 : decode cX4_digsToRemove 40 = .ok (.aload_n 0, 1) := by decide +kernel
theorem dX4_digsToRemove_41 : decode cX4_digsToRemove 41 = .ok (.getfield 12, 3) := by decide +kernel
theorem dX4_digsToRemove_44 : decode cX4_digsToRemove 44 = .ok (.iload_n 2, 1) := by decide +kernel
theorem dX4_digsToRemove_45 : decode cX4_digsToRemove 45 = .ok (.invokevirtual 167, 3) := by decide +kernel
theorem dX4_digsToRemove_48 : decode cX4_digsToRemove 48 = .ok (.ifCond .ne 7, 3) := by decide +kernel
theorem dX4_digsToRemove_51 : decode cX4_digsToRemove 51 = .ok (.iconst 1, 1) := by decide +kernel
theorem dX4_digsToRemove_52 : decode cX4_digsToRemove 52 = .ok (.goto 4, 3) := by decide +kernel
theorem dX4_digsToRemove_55 : decode cX4_digsToRemove 55 = .ok (.iconst 0, 1) := by decide +kernel
theorem dX4_digsToRemove_56 : decode cX4_digsToRemove 56 = .ok (.invokestatic 213, 3) := by decide +kernel
theorem dX4_digsToRemove_59 : decode cX4_digsToRemove 59 = .ok (.iadd, 1) := by decide +kernel
theorem dX4_digsToRemove_60 : decode cX4_digsToRemove 60 = .ok (.ireturn, 1) := by decide +kernel
set_option maxRecDepth 20000 in
theorem ggX4_hindranceToPut_X4_digsToPut : GoodIn wsX4_hindranceToPut wsX4_digsToPut := goodIn_r _ [5, 6, 7, 8, 9, 10, 11, 12, 13, 14, 15, 16, 17, 18, 19, 20, 21, 22, 23, 24, 25, 26, 27, 28, 29, 30, 4, 31, 32, 33, 34, 35, 36, 37, 38, 39, 40, 41, 42, 43, 44, 45, 80, 81, 82, 83, 84, 85, 86, 87, 88, 89, 90, 91, 92, 93, 94, 95, 96, 97, 98] (by decide +kernel) (by decide +kernel)
set_option maxRecDepth 20000 in
theorem gX4_hindranceToPut_X4_digsToPut : GoodIn wsX4_hindranceToPut (wsV RX4 241 RX4 yX4_digsToPut wsX4_digsToPut) := goodIn_app (goodIn_of _ (by decide +kernel)) ggX4_hindranceToPut_X4_digsToPut
set_option maxRecDepth 20000 in
theorem ggX4_hindranceToPut_X4_bedsToDig : GoodIn wsX4_hindranceToPut wsX4_bedsToDig := goodIn_r _ [49, 6, 50, 51, 52, 4, 53, 54, 55, 56, 57, 58, 59, 60, 61, 62, 63, 64, 65, 66, 67, 68, 11, 69, 70, 71, 72, 73, 74, 75, 37, 38, 39, 76, 77, 78, 79, 80, 81, 82, 83, 84, 85, 86, 87, 88, 89, 90, 91, 92, 93, 94, 95, 96, 97, 98] (by decide +kernel) (by decide +kernel)
set_option maxRecDepth 20000 in
theorem gX4_hindranceToPut_X4_bedsToDig : GoodIn wsX4_hindranceToPut (wsV RX4 103 RX4 yX4_bedsToDig wsX4_bedsToDig) := goodIn_app (goodIn_of _ (by decide +kernel)) ggX4_hindranceToPut_X4_bedsToDig
theorem dX4_hindranceToPut_0 : decode cX4_hindranceToPut 0 = .ok (.aload_n 0, 1) := by decide +kernel
theorem dX4_hindranceToPut_1 : decode cX4_hindranceToPut 1 = .ok (.iload_n 1, 1) := by decide +kernel
theorem dX4_hindranceToPut_2 : decode cX4_hindranceToPut 2 = .ok (.invokevirtual 241, 3) := by decide +kernel
theorem dX4_hindranceToPut_5 : decode cX4_hindranceToPut 5 = .ok (.istore_n 2, 1) := by decide +kernel
theorem dX4_hindranceToPut_6 : decode cX4_hindranceToPut 6 = .ok (.iload_n 2, 1) := by decide +kernel
theorem dX4_hindranceToPut_7 : decode cX4_hindranceToPut 7 = .ok (.sipush (-1000), 3) := by decide +kernel
theorem dX4_hindranceToPut_10 : decode cX4_hindranceToPut 10 = .ok (.if_icmp .ne 5, 3) := by decide +kernel
theorem dX4_hindranceToPut_13 : decode cX4_hindranceToPut 13 = .ok (.iconst 1, 1) := by decide +kernel
theorem dX4_hindranceToPut_14 : decode cX4_hindranceToPut 14 = .ok (.ireturn, 1) := by decide +kernel
theorem dX4_hindranceToPut_15 : decode cX4_hindranceToPut 15 = .ok (.iload_n 2, 1) := by decide +kernel
theorem dX4_hindranceToPut_16 : decode cX4_hindranceToPut 16 = .ok (.aload_n 0, 1) := by decide +kernel
theorem dX4_hindranceToPut_17 : decode cX4_hindranceToPut 17 = .ok (.invokevirtual 103, 3) := by decide +kernel
theorem dX4_hindranceToPut_20 : decode cX4_hindranceToPut 20 = .ok (.if_icmp .gt 7, 3) := by decide +kernel
theorem dX4_hindranceToPut_23 : decode cX4_hindranceToPut 23 = .ok (.iconst 0, 1) := by decide +kernel
theorem dX4_hindranceToPut_24 : decode cX4_hindranceToPut 24 = .ok (.goto 4, 3) := by decide +kernel
theorem dX4_hindranceToPut_27 : decode cX4_hindranceToPut 27 = .ok (.iconst 2, 1) := by decide +kernel
theorem dX4_hindranceToPut_28 : decode cX4_hindranceToPut 28 = .ok (.ireturn, 1) := by decide +kernel
set_option maxRecDepth 20000 in
theorem ggX4_differencesTo_X4_readerValue : GoodIn wsX4_differencesTo wsX4_readerValue := goodIn_r _ [5, 6, 7, 8, 9, 10, 11, 12, 13, 14, 15, 16, 17, 18, 19, 20, 21, 22, 23, 24, 25, 26, 27, 28, 29, 30, 31, 32, 33, 34, 35, 36, 37, 38, 39, 40, 41, 42, 43, 61, 62, 63, 64, 65, 66, 67, 68, 69, 70, 71, 72, 73, 74, 75, 76, 77, 78, 79] (by decide +kernel) (by decide +kernel)
set_option maxRecDepth 20000 in
theorem gX4_differencesTo_X4_readerValue : GoodIn wsX4_differencesTo (wsV RX4 244 RX4 yX4_readerValue wsX4_readerValue) := goodIn_app (goodIn_of _ (by decide +kernel)) ggX4_differencesTo_X4_readerValue
set_option maxRecDepth 20000 in
theorem ggX4_differencesTo_X4_currentValue : GoodIn wsX4_differencesTo wsX4_currentValue := goodIn_r _ [47, 6, 48, 49, 50, 4, 51, 52, 53, 54, 55, 56, 57, 58, 8, 9, 10, 11, 12, 13, 14, 15, 16, 17, 18, 19, 20, 21, 22, 23, 24, 25, 26, 27, 28, 29, 30, 31, 32, 33, 34, 35, 36, 37, 38, 39, 40, 41, 42, 43, 61, 62, 63, 64, 65, 66, 67, 68, 69, 70, 71, 72, 73, 74, 75, 76, 77, 78, 79] (by decide +kernel) (by decide +kernel)
set_option maxRecDepth 20000 in
theorem gX4_differencesTo_X4_currentValue : GoodIn wsX4_differencesTo (wsV RX4 247 RX4 yX4_currentValue wsX4_currentValue) := goodIn_app (goodIn_of _ (by decide +kernel)) ggX4_differencesTo_X4_currentValue
set_option maxRecDepth 20000 in
theorem ggX4_differencesTo_X6_one : GoodIn wsX4_differencesTo wsX6_one := goodIn_r _ [60] (by decide +kernel) (by decide +kernel)
set_option maxRecDepth 20000 in
theorem gX4_differencesTo_X6_one_n213 : GoodIn wsX4_differencesTo (wsX6_one) := ggX4_differencesTo_X6_one
theorem dX4_differencesTo_0 : decode cX4_differencesTo 0 = .ok (.iconst 0, 1) := by decide +kernel
theorem dX4_differencesTo_1 : decode cX4_differencesTo 1 = .ok (.istore_n 2, 1) := by decide +kernel
theorem dX4_differencesTo_2 : decode cX4_differencesTo 2 = .ok (.iconst 0, 1) := by decide +kernel
theorem dX4_differencesTo_3 : decode cX4_differencesTo 3 = .ok (.istore_n 3, 1) := by decide +kernel
theorem dX4_differencesTo_4 : decode cX4_differencesTo 4 = .ok (.iload_n 3, 1) := by decide +kernel
theorem dX4_differencesTo_5 : decode cX4_differencesTo 5 = .ok (.bipush 100, 2) := by decide +kernel
theorem dX4_differencesTo_7 : decode cX4_differencesTo 7 = .ok (.if_icmp .ge 34, 3) := by decide +kernel
theorem dX4_differencesTo_10 : decode cX4_differencesTo 10 = .ok (.iload_n 2, 1) := by decide +kernel
theorem dX4_differencesTo_11 : decode cX4_differencesTo 11 = .ok (.aload_n 0, 1) := by decide +kernel
theorem dX4_differencesTo_12 : decode cX4_differencesTo 12 = .ok (.iload_n 1, 1) := by decide +kernel
theorem dX4_differencesTo_13 : decode cX4_differencesTo 13 = .ok (.iload_n 3, 1) := by decide +kernel
theorem dX4_differencesTo_14 : decode cX4_differencesTo 14 = .ok (.invokevirtual 244, 3) := by decide +kernel
theorem dX4_differencesTo_17 : decode cX4_differencesTo 17 = .ok (.aload_n 0, 1) := by decide +kernel
theorem dX4_differencesTo_18 : decode cX4_differencesTo 18 = .ok (.iload_n 3, 1) := by decide +kernel
theorem dX4_differencesTo_19 : decode cX4_differencesTo 19 = .ok (.invokevirtual 247, 3) := by decide +kernel
theorem dX4_differencesTo_22 : decode cX4_differencesTo 22 = .ok (.if_icmp .eq 7, 3) := by decide +kernel
theorem dX4_differencesTo_25 : decode cX4_differencesTo 25 = .ok (.iconst 1, 1) := by decide +kernel
theorem dX4_differencesTo_26 : decode cX4_differencesTo 26 = .ok (.goto 4, 3) := by decide +kernel
theorem dX4_differencesTo_29 : decode cX4_differencesTo 29 = .ok (.iconst 0, 1) := by decide +kernel
theorem dX4_differencesTo_30 : decode cX4_differencesTo 30 = .ok (.invokestatic 213, 3) := by decide +kernel
theorem dX4_differencesTo_33 : decode cX4_differencesTo 33 = .ok (.iadd, 1) := by decide +kernel
theorem dX4_differencesTo_34 : decode cX4_differencesTo 34 = .ok (.istore_n 2, 1) := by decide +kernel
theorem dX4_differencesTo_35 : decode cX4_differencesTo 35 = .ok (.iinc 3 1, 3) := by decide +kernel
theorem dX4_differencesTo_38 : decode cX4_differencesTo 38 = .ok (.goto (-34), 3) := by decide +kernel
theorem dX4_differencesTo_41 : decode cX4_differencesTo 41 = .ok (.iload_n 2, 1) := by decide +kernel
theorem dX4_differencesTo_42 : decode cX4_differencesTo 42 = .ok (.ireturn, 1) := by decide +kernel
set_option maxRecDepth 20000 in
theorem ggX5_init_X4_init : GoodIn wsX5_init wsX4_init := goodIn_r _ [12, 13, 2, 3, 14, 15, 16, 17, 18, 19, 20, 21, 22, 23, 24, 25, 26, 27, 28, 29, 30, 31, 32, 33, 34, 35, 36, 37, 38, 39, 40, 41, 42, 43, 44, 45, 46, 47, 48, 49, 50, 51, 52, 53, 67, 68, 69, 70, 71, 72, 73, 74, 75, 57, 58, 59, 60, 61, 62, 63, 64, 65, 66] (by decide +kernel) (by decide +kernel)
set_option maxRecDepth 20000 in
theorem gX5_init_X4_init : GoodIn wsX5_init (wsX4_init) := ggX5_init_X4_init
theorem dX5_init_0 : decode cX5_init 0 = .ok (.aload_n 0, 1) := by decide +kernel
theorem dX5_init_1 : decode cX5_init 1 = .ok (.invokespecial 3, 3) := by decide +kernel
theorem dX5_init_4 : decode cX5_init 4 = .ok (.aload_n 0, 1) := by decide +kernel
theorem dX5_init_5 : decode cX5_init 5 = .ok (.iconst 4, 1) := by decide +kernel
theorem dX5_init_6 : decode cX5_init 6 = .ok (.anewarray 9, 3) := by decide +kernel
theorem dX5_init_9 : decode cX5_init 9 = .ok (.putfield 11, 3) := by decide +kernel
theorem dX5_init_12 : decode cX5_init 12 = .ok (.aload_n 0, 1) := by decide +kernel
theorem dX5_init_13 : decode cX5_init 13 = .ok (.iconst 0, 1) := by decide +kernel
theorem dX5_init_14 : decode cX5_init 14 = .ok (.putfield 17, 3) := by decide +kernel
theorem dX5_init_17 : decode cX5_init 17 = .ok (.aload_n 0, 1) := by decide +kernel
theorem dX5_init_18 : decode cX5_init 18 = .ok (.iconst 0, 1) := by decide +kernel
theorem dX5_init_19 : decode cX5_init 19 = .ok (.putfield 21, 3) := by decide +kernel
theorem dX5_init_22 : decode cX5_init 22 = .ok (.iconst 0, 1) := by decide +kernel
theorem dX5_init_23 : decode cX5_init 23 = .ok (.istore_n 1, 1) := by decide +kernel
theorem dX5_init_24 : decode cX5_init 24 = .ok (.iload_n 1, 1) := by decide +kernel
theorem dX5_init_25 : decode cX5_init 25 = .ok (.iconst 4, 1) := by decide +kernel
theorem dX5_init_26 : decode cX5_init 26 = .ok (.if_icmp .ge 22, 3) := by decide +kernel
theorem dX5_init_29 : decode cX5_init 29 = .ok (.aload_n 0, 1) := by decide +kernel
theorem dX5_init_30 : decode cX5_init 30 = .ok (.getfield 11, 3) := by decide +kernel
theorem dX5_init_33 : decode cX5_init 33 = .ok (.iload_n 1, 1) := by decide +kernel
theorem dX5_init_34 : decode cX5_init 34 = .ok (.new 9, 3) := by decide +kernel
theorem dX5_init_37 : decode cX5_init 37 = .ok (.dup, 1) := by decide +kernel
theorem dX5_init_38 : decode cX5_init 38 = .ok (.invokespecial 24, 3) := by decide +kernel
theorem dX5_init_41 : decode cX5_init 41 = .ok (.aastore, 1) := by decide +kernel
theorem dX5_init_42 : decode cX5_init 42 = .ok (.iinc 1 1, 3) := by decide +kernel
theorem dX5_init_45 : decode cX5_init 45 = .ok (.goto (-21), 3) := by decide +kernel
theorem dX5_init_48 : decode cX5_init 48 = .ok (.return_, 1) := by decide +kernel
set_option maxRecDepth 20000 in
theorem ggX5_save_X5_stateAt : GoodIn wsX5_save wsX5_stateAt := goodIn_r _ [11, 12, 45, 46, 47] (by decide +kernel) (by decide +kernel)
set_option maxRecDepth 20000 in
theorem gX5_save_X5_stateAt : GoodIn wsX5_save (wsV RX5 25 RX5 yX5_stateAt wsX5_stateAt) := goodIn_app (goodIn_of _ (by decide +kernel)) ggX5_save_X5_stateAt
set_option maxRecDepth 20000 in
theorem ggX5_save_X4_copyFrom : GoodIn wsX5_save wsX4_copyFrom := goodIn_r _ [17, 18, 19, 20, 21, 22, 23, 24, 25, 26, 27, 28, 29, 30, 31, 32, 33, 34, 35, 36, 37, 38, 39, 40, 41, 42, 43, 44, 48, 49, 50, 51, 52, 53, 54, 55, 56, 57, 58, 59, 60, 61, 62, 63, 64, 65, 66] (by decide +kernel) (by decide +kernel)
set_option maxRecDepth 20000 in
theorem gX5_save_X4_copyFrom : GoodIn wsX5_save (wsV RX5 29 RX4 yX4_copyFrom wsX4_copyFrom) := goodIn_app (goodIn_of _ (by decide +kernel)) ggX5_save_X4_copyFrom
theorem dX5_save_0 : decode cX5_save 0 = .ok (.aload_n 0, 1) := by decide +kernel
theorem dX5_save_1 : decode cX5_save 1 = .ok (.aload_n 0, 1) := by decide +kernel
theorem dX5_save_2 : decode cX5_save 2 = .ok (.getfield 21, 3) := by decide +kernel
theorem dX5_save_5 : decode cX5_save 5 = .ok (.invokevirtual 25, 3) := by decide +kernel
theorem dX5_save_8 : decode cX5_save 8 = .ok (.astore_n 2, 1) := by decide +kernel
theorem dX5_save_9 : decode cX5_save 9 = .ok (.aload_n 2, 1) := by decide +kernel
theorem dX5_save_10 : decode cX5_save 10 = .ok (.ifnull 46, 3) := by decide +kernel
theorem dX5_save_13 : decode cX5_save 13 = .ok (.aload_n 2, 1) := by decide +kernel
theorem dX5_save_14 : decode cX5_save 14 = .ok (.aload_n 1, 1) := by decide +kernel
theorem dX5_save_15 : decode cX5_save 15 = .ok (.invokevirtual 29, 3) := by decide +kernel
theorem dX5_save_18 : decode cX5_save 18 = .ok (.aload_n 0, 1) := by decide +kernel
theorem dX5_save_19 : decode cX5_save 19 = .ok (.aload_n 0, 1) := by decide +kernel
theorem dX5_save_20 : decode cX5_save 20 = .ok (.getfield 21, 3) := by decide +kernel
theorem dX5_save_23 : decode cX5_save 23 = .ok (.iconst 1, 1) := by decide +kernel
theorem dX5_save_24 : decode cX5_save 24 = .ok (.iadd, 1) := by decide +kernel
theorem dX5_save_25 : decode cX5_save 25 = .ok (.iconst 4, 1) := by decide +kernel
theorem dX5_save_26 : decode cX5_save 26 = .ok (.if_icmp .ge 12, 3) := by decide +kernel
theorem dX5_save_29 : decode cX5_save 29 = .ok (.aload_n 0, 1) := by decide +kernel
theorem dX5_save_30 : decode cX5_save 30 = .ok (.getfield 21, 3) := by decide +kernel
theorem dX5_save_33 : decode cX5_save 33 = .ok (.iconst 1, 1) := by decide +kernel
theorem dX5_save_34 : decode cX5_save 34 = .ok (.iadd, 1) := by decide +kernel
theorem dX5_save_35 : decode cX5_save 35 = .ok (.goto 4, 3) := by decide +kernel
theorem dX5_save_38 : decode cX5_save 38 = .ok (.iconst 0, 1) := by decide +kernel
theorem dX5_save_39 : decode cX5_save 39 = .ok (.putfield 21, 3) := by decide +kernel
theorem dX5_save_42 : decode cX5_save 42 = .ok (.aload_n 0, 1) := by decide +kernel
theorem dX5_save_43 : decode cX5_save 43 = .ok (.aload_n 0, 1) := by decide +kernel
theorem dX5_save_44 : decode cX5_save 44 = .ok (.getfield 17, 3) := by decide +kernel
theorem dX5_save_47 : decode cX5_save 47 = .ok (.iconst 1, 1) := by decide +kernel
theorem dX5_save_48 : decode cX5_save 48 = .ok (.iadd, 1) := by decide +kernel
theorem dX5_save_49 : decode cX5_save 49 = .ok (.iconst 4, 1) := by decide +kernel
theorem dX5_save_50 : decode cX5_save 50 = .ok (.invokestatic 33, 3) := by decide +kernel
theorem dX5_save_53 : decode cX5_save 53 = .ok (.putfield 17, 3) := by decide +kernel
theorem dX5_save_56 : decode cX5_save 56 = .ok (.return_, 1) := by decide +kernel
set_option maxRecDepth 20000 in
theorem ggX5_restore_X5_stateAt : GoodIn wsX5_restore wsX5_stateAt := goodIn_r _ [7, 8, 41, 42, 43] (by decide +kernel) (by decide +kernel)
set_option maxRecDepth 20000 in
theorem gX5_restore_X5_stateAt : GoodIn wsX5_restore (wsV RX5 25 RX5 yX5_stateAt wsX5_stateAt) := goodIn_app (goodIn_of _ (by decide +kernel)) ggX5_restore_X5_stateAt
set_option maxRecDepth 20000 in
theorem ggX5_restore_X4_copyFrom : GoodIn wsX5_restore wsX4_copyFrom := goodIn_r _ [13, 14, 15, 16, 17, 18, 19, 20, 21, 22, 23, 24, 25, 26, 27, 28, 29, 30, 31, 32, 33, 34, 35, 36, 37, 38, 39, 40, 44, 45, 46, 47, 48, 49, 50, 51, 52, 53, 54, 55, 56, 57, 58, 59, 60, 61, 62] (by decide +kernel) (by decide +kernel)
set_option maxRecDepth 20000 in
theorem gX5_restore_X4_copyFrom : GoodIn wsX5_restore (wsV RX5 29 RX4 yX4_copyFrom wsX4_copyFrom) := goodIn_app (goodIn_of _ (by decide +kernel)) ggX5_restore_X4_copyFrom
theorem dX5_restore_0 : decode cX5_restore 0 = .ok (.aload_n 0, 1) := by decide +kernel
theorem dX5_restore_1 : decode cX5_restore 1 = .ok (.getfield 21, 3) := by decide +kernel
theorem dX5_restore_4 : decode cX5_restore 4 = .ok (.ifCond .le 12, 3) := by decide +kernel
theorem dX5_restore_7 : decode cX5_restore 7 = .ok (.aload_n 0, 1) := by decide +kernel
theorem dX5_restore_8 : decode cX5_restore 8 = .ok (.getfield 21, 3) := by decide +kernel
theorem dX5_restore_11 : decode cX5_restore 11 = .ok (.iconst 1, 1) := by decide +kernel
theorem dX5_restore_12 : decode cX5_restore 12 = .ok (.isub, 1) := by decide +kernel
theorem dX5_restore_13 : decode cX5_restore 13 = .ok (.goto 4, 3) := by decide +kernel
theorem dX5_restore_16 : decode cX5_restore 16 = .ok (.iconst 3, 1) := by decide +kernel
theorem dX5_restore_17 : decode cX5_restore 17 = .ok (.istore_n 2, 1) := by decide +kernel
theorem dX5_restore_18 : decode cX5_restore 18 = .ok (.aload_n 0, 1) := by decide +kernel
theorem dX5_restore_19 : decode cX5_restore 19 = .ok (.iload_n 2, 1) := by decide +kernel
theorem dX5_restore_20 : decode cX5_restore 20 = .ok (.invokevirtual 25, 3) := by decide +kernel
theorem dX5_restore_23 : decode cX5_restore 23 = .ok (.astore_n 3, 1) := by decide +kernel
theorem dX5_restore_24 : decode cX5_restore 24 = .ok (.aload_n 3, 1) := by decide +kernel
theorem dX5_restore_25 : decode cX5_restore 25 = .ok (.ifnull 30, 3) := by decide +kernel
theorem dX5_restore_28 : decode cX5_restore 28 = .ok (.aload_n 0, 1) := by decide +kernel
theorem dX5_restore_29 : decode cX5_restore 29 = .ok (.getfield 17, 3) := by decide +kernel
theorem dX5_restore_32 : decode cX5_restore 32 = .ok (.ifCond .le 23, 3) := by decide +kernel
theorem dX5_restore_35 : decode cX5_restore 35 = .ok (.aload_n 1, 1) := by decide +kernel
theorem dX5_restore_36 : decode cX5_restore 36 = .ok (.aload_n 3, 1) := by decide +kernel
theorem dX5_restore_37 : decode cX5_restore 37 = .ok (.invokevirtual 29, 3) := by decide +kernel
theorem dX5_restore_40 : decode cX5_restore 40 = .ok (.aload_n 0, 1) := by decide +kernel
theorem dX5_restore_41 : decode cX5_restore 41 = .ok (.iload_n 2, 1) := by decide +kernel
theorem dX5_restore_42 : decode cX5_restore 42 = .ok (.putfield 21, 3) := by decide +kernel
theorem dX5_restore_45 : decode cX5_restore 45 = .ok (.aload_n 0, 1) := by decide +kernel
theorem dX5_restore_46 : decode cX5_restore 46 = .ok (.dup, 1) := by decide +kernel
theorem dX5_restore_47 : decode cX5_restore 47 = .ok (.getfield 17, 3) := by decide +kernel
theorem dX5_restore_50 : decode cX5_restore 50 = .ok (.iconst 1, 1) := by decide +kernel
theorem dX5_restore_51 : decode cX5_restore 51 = .ok (.isub, 1) := by decide +kernel
theorem dX5_restore_52 : decode cX5_restore 52 = .ok (.putfield 17, 3) := by decide +kernel
theorem dX5_restore_55 : decode cX5_restore 55 = .ok (.aload_n 0, 1) := by decide +kernel
theorem dX5_restore_56 : decode cX5_restore 56 = .ok (.getfield 17, 3) := by decide +kernel
theorem dX5_restore_59 : decode cX5_restore 59 = .ok (.ireturn, 1) := by decide +kernel
theorem dX5_stateAt_0 : decode cX5_stateAt 0 = .ok (.iload_n 1, 1) := by decide +kernel
theorem dX5_stateAt_1 : decode cX5_stateAt 1 = .ok (.ifCond .lt 21, 3) := by decide +kernel
theorem dX5_stateAt_4 : decode cX5_stateAt 4 = .ok (.iload_n 1, 1) := by decide +kernel
theorem dX5_stateAt_5 : decode cX5_stateAt 5 = .ok (.aload_n 0, 1) := by decide +kernel
theorem dX5_stateAt_6 : decode cX5_stateAt 6 = .ok (.getfield 11, 3) := by decide +kernel
theorem dX5_stateAt_9 : decode cX5_stateAt 9 = .ok (.arraylength, 1) := by decide +kernel
theorem dX5_stateAt_10 : decode cX5_stateAt 10 = .ok (.if_icmp .ge 12, 3) := by decide +kernel
theorem dX5_stateAt_13 : decode cX5_stateAt 13 = .ok (.aload_n 0, 1) := by decide +kernel
theorem dX5_stateAt_14 : decode cX5_stateAt 14 = .ok (.getfield 11, 3) := by decide +kernel
theorem dX5_stateAt_17 : decode cX5_stateAt 17 = .ok (.iload_n 1, 1) := by decide +kernel
theorem dX5_stateAt_18 : decode cX5_stateAt 18 = .ok (.aaload, 1) := by decide +kernel
theorem dX5_stateAt_19 : decode cX5_stateAt 19 = .ok (.goto 4, 3) := by decide +kernel
theorem dX5_stateAt_22 : decode cX5_stateAt 22 = .ok (.aconst_null, 1) := by decide +kernel
theorem dX5_stateAt_23 : decode cX5_stateAt 23 = .ok (.areturn, 1) := by decide +kernel
set_option maxRecDepth 20000 in
theorem ggX6_init_X4_init : GoodIn wsX6_init wsX4_init := goodIn_r _ [18, 19, 2, 3, 20, 21, 22, 23, 24, 25, 26, 27, 28, 29, 30, 31, 32, 33, 34, 35, 36, 37, 38, 39, 40, 41, 42, 43, 44, 45, 46, 47, 48, 49, 50, 51, 52, 53, 54, 55, 56, 57, 58, 59, 102, 103, 104, 105, 106, 107, 108, 109, 110, 79, 80, 81, 82, 83, 84, 85, 86, 87, 88] (by decide +kernel) (by decide +kernel)
set_option maxRecDepth 20000 in
theorem gX6_init_X4_init : GoodIn wsX6_init (wsX4_init) := ggX6_init_X4_init
set_option maxRecDepth 20000 in
theorem ggX6_init_X5_init : GoodIn wsX6_init wsX5_init := goodIn_r _ [62, 63, 2, 3, 64, 65, 66, 67, 5, 6, 68, 17, 18, 19, 20, 21, 22, 23, 24, 25, 26, 27, 28, 29, 30, 31, 32, 33, 34, 35, 36, 37, 38, 39, 40, 41, 42, 43, 44, 45, 46, 47, 48, 49, 50, 51, 52, 53, 54, 55, 56, 57, 58, 59, 92, 93, 94, 79, 80, 81, 82, 83, 84, 85, 86, 87, 88, 102, 103, 104, 105, 106, 107, 108, 109, 110] (by decide +kernel) (by decide +kernel)
set_option maxRecDepth 20000 in
theorem gX6_init_X5_init : GoodIn wsX6_init (wsX5_init) := ggX6_init_X5_init
set_option maxRecDepth 20000 in
theorem ggX6_init_X3_init : GoodIn wsX6_init wsX3_init := goodIn_r _ [70, 71, 2, 3, 24, 72, 73, 74, 75, 76, 77, 78, 95, 96, 97, 98, 99, 100, 101] (by decide +kernel) (by decide +kernel)
set_option maxRecDepth 20000 in
theorem gX6_init_X3_init_n25 : GoodIn wsX6_init (wsX3_init) := ggX6_init_X3_init
theorem dX6_init_0 : decode cX6_init 0 = .ok (.aload_n 0, 1) := by decide +kernel
theorem dX6_init_1 : decode cX6_init 1 = .ok (.invokespecial 3, 3) := by decide +kernel
theorem dX6_init_4 : decode cX6_init 4 = .ok (.aload_n 0, 1) := by decide +kernel
theorem dX6_init_5 : decode cX6_init 5 = .ok (.new 9, 3) := by decide +kernel
theorem dX6_init_8 : decode cX6_init 8 = .ok (.dup, 1) := by decide +kernel
theorem dX6_init_9 : decode cX6_init 9 = .ok (.invokespecial 11, 3) := by decide +kernel
theorem dX6_init_12 : decode cX6_init 12 = .ok (.putfield 12, 3) := by decide +kernel
theorem dX6_init_15 : decode cX6_init 15 = .ok (.aload_n 0, 1) := by decide +kernel
theorem dX6_init_16 : decode cX6_init 16 = .ok (.new 16, 3) := by decide +kernel
theorem dX6_init_19 : decode cX6_init 19 = .ok (.dup, 1) := by decide +kernel
theorem dX6_init_20 : decode cX6_init 20 = .ok (.invokespecial 18, 3) := by decide +kernel
theorem dX6_init_23 : decode cX6_init 23 = .ok (.putfield 19, 3) := by decide +kernel
theorem dX6_init_26 : decode cX6_init 26 = .ok (.aload_n 0, 1) := by decide +kernel
theorem dX6_init_27 : decode cX6_init 27 = .ok (.new 23, 3) := by decide +kernel
theorem dX6_init_30 : decode cX6_init 30 = .ok (.dup, 1) := by decide +kernel
theorem dX6_init_31 : decode cX6_init 31 = .ok (.invokespecial 25, 3) := by decide +kernel
theorem dX6_init_34 : decode cX6_init 34 = .ok (.putfield 26, 3) := by decide +kernel
theorem dX6_init_37 : decode cX6_init 37 = .ok (.return_, 1) := by decide +kernel
set_option maxRecDepth 20000 in
theorem ggX6_begin_X4_beginFault : GoodIn wsX6_begin wsX4_beginFault := goodIn_r _ [7, 8, 85, 86, 87, 88, 89, 90, 91, 92, 93, 94] (by decide +kernel) (by decide +kernel)
set_option maxRecDepth 20000 in
theorem gX6_begin_X4_beginFault : GoodIn wsX6_begin (wsV RX6 30 RX4 yX4_beginFault wsX4_beginFault) := goodIn_app (goodIn_of _ (by decide +kernel)) ggX6_begin_X4_beginFault
set_option maxRecDepth 20000 in
theorem ggX6_begin_X6_refuse : GoodIn wsX6_begin wsX6_refuse := goodIn_ca (goodIn_ca (goodIn_ca (goodIn_r _ [12, 13, 14, 15, 16, 17, 18] (by decide +kernel) (by decide +kernel)) (goodIn_sub (fun _ h => List.mem_cons_of_mem _ (List.mem_append_left _ (List.mem_append_left _ (List.mem_append_right _ h)))) (by decide +kernel))) (goodIn_sub (fun _ h => List.mem_cons_of_mem _ (List.mem_append_left _ (List.mem_append_right _ h))) (by decide +kernel))) (goodIn_sub (fun _ h => List.mem_cons_of_mem _ (List.mem_append_right _ h)) (by decide +kernel))
set_option maxRecDepth 20000 in
theorem gX6_begin_X6_refuse : GoodIn wsX6_begin (va_wsS RX6 34 yX6_refuse wsX6_refuse) := goodIn_app (goodIn_of _ (by decide +kernel)) ggX6_begin_X6_refuse
set_option maxRecDepth 20000 in
theorem ggX6_begin_X5_save : GoodIn wsX6_begin wsX5_save := goodIn_r _ [23, 24, 25, 26, 27, 28, 29, 30, 31, 32, 22, 33, 34, 35, 36, 37, 6, 38, 39, 40, 41, 42, 43, 44, 8, 45, 46, 47, 48, 49, 50, 51, 52, 53, 54, 55, 56, 57, 58, 59, 60, 61, 62, 11, 63, 95, 96, 97, 85, 86, 87, 88, 89, 90, 91, 92, 93, 94, 98, 99, 100, 101, 102, 103, 104, 105, 106] (by decide +kernel) (by decide +kernel)
set_option maxRecDepth 20000 in
theorem gX6_begin_X5_save : GoodIn wsX6_begin (wsV RX6 38 RX5 yX5_save wsX5_save) := goodIn_app (goodIn_of _ (by decide +kernel)) ggX6_begin_X5_save
set_option maxRecDepth 20000 in
theorem ggX6_begin_X4_beginDraft : GoodIn wsX6_begin wsX4_beginDraft := goodIn_r _ [67, 8, 45, 68, 69, 70, 6, 71, 41, 72, 73, 74, 75, 42, 40, 76, 11, 77, 78, 79, 80, 81, 85, 86, 87, 88, 89, 90, 91, 92, 93, 94] (by decide +kernel) (by decide +kernel)
set_option maxRecDepth 20000 in
theorem gX6_begin_X4_beginDraft : GoodIn wsX6_begin (wsV RX6 42 RX4 yX4_beginDraft wsX4_beginDraft) := goodIn_app (goodIn_of _ (by decide +kernel)) ggX6_begin_X4_beginDraft
theorem dX6_begin_0 : decode cX6_begin 0 = .ok (.aload_n 0, 1) := by decide +kernel
theorem dX6_begin_1 : decode cX6_begin 1 = .ok (.getfield 12, 3) := by decide +kernel
theorem dX6_begin_4 : decode cX6_begin 4 = .ok (.invokevirtual 30, 3) := by decide +kernel
theorem dX6_begin_7 : decode cX6_begin 7 = .ok (.invokestatic 34, 3) := by decide +kernel
theorem dX6_begin_10 : decode cX6_begin 10 = .ok (.aload_n 0, 1) := by decide +kernel
theorem dX6_begin_11 : decode cX6_begin 11 = .ok (.getfield 19, 3) := by decide +kernel
theorem dX6_begin_14 : decode cX6_begin 14 = .ok (.aload_n 0, 1) := by decide +kernel
theorem dX6_begin_15 : decode cX6_begin 15 = .ok (.getfield 12, 3) := by decide +kernel
theorem dX6_begin_18 : decode cX6_begin 18 = .ok (.invokevirtual 38, 3) := by decide +kernel
theorem dX6_begin_21 : decode cX6_begin 21 = .ok (.aload_n 0, 1) := by decide +kernel
theorem dX6_begin_22 : decode cX6_begin 22 = .ok (.getfield 12, 3) := by decide +kernel
theorem dX6_begin_25 : decode cX6_begin 25 = .ok (.invokevirtual 42, 3) := by decide +kernel
theorem dX6_begin_28 : decode cX6_begin 28 = .ok (.ireturn, 1) := by decide +kernel
set_option maxRecDepth 20000 in
theorem ggX6_put_X4_putFault : GoodIn wsX6_put wsX4_putFault := goodIn_r _ [7, 8, 9, 10, 11, 12, 13, 14, 6, 15, 16, 17, 18, 19, 20, 21, 22, 23, 24, 25, 26, 27, 28, 29, 30, 31, 32, 33, 34, 35, 36, 37, 38, 39, 40, 41, 42, 43, 44, 45, 46, 47, 48, 49, 50, 51, 52, 53, 54, 55, 56, 57, 58, 59, 60, 61, 62, 63, 64, 65, 66, 67, 68, 69, 70, 71, 72, 73, 74, 75, 76, 77, 78, 79, 80, 81, 82, 83, 84, 85, 86, 87, 88, 89, 90, 91, 92, 213, 214, 215, 216, 217, 218, 219, 220, 221, 222, 223, 224, 225, 226, 227, 228, 229, 230, 231] (by decide +kernel) (by decide +kernel)
set_option maxRecDepth 20000 in
theorem gX6_put_X4_putFault : GoodIn wsX6_put (wsV RX6 45 RX4 yX4_putFault wsX4_putFault) := goodIn_app (goodIn_of _ (by decide +kernel)) ggX6_put_X4_putFault
set_option maxRecDepth 20000 in
theorem ggX6_put_X6_refuse : GoodIn wsX6_put wsX6_refuse := goodIn_ca (goodIn_ca (goodIn_ca (goodIn_r _ [95, 96, 97, 98, 99, 100, 101] (by decide +kernel) (by decide +kernel)) (goodIn_sub (fun _ h => List.mem_cons_of_mem _ (List.mem_append_left _ (List.mem_append_left _ (List.mem_append_right _ h)))) (by decide +kernel))) (goodIn_sub (fun _ h => List.mem_cons_of_mem _ (List.mem_append_left _ (List.mem_append_right _ h))) (by decide +kernel))) (goodIn_sub (fun _ h => List.mem_cons_of_mem _ (List.mem_append_right _ h)) (by decide +kernel))
set_option maxRecDepth 20000 in
theorem gX6_put_X6_refuse : GoodIn wsX6_put (va_wsS RX6 34 yX6_refuse wsX6_refuse) := goodIn_app (goodIn_of _ (by decide +kernel)) ggX6_put_X6_refuse
set_option maxRecDepth 20000 in
theorem ggX6_put_X5_save : GoodIn wsX6_put wsX5_save := goodIn_r _ [106, 107, 108, 109, 75, 76, 77, 110, 111, 112, 105, 113, 114, 115, 116, 117, 6, 118, 20, 73, 119, 72, 78, 120, 8, 21, 121, 122, 123, 124, 125, 25, 126, 87, 127, 31, 88, 50, 128, 41, 129, 36, 130, 10, 131, 232, 233, 234, 213, 214, 215, 216, 217, 218, 219, 220, 221, 222, 223, 224, 225, 226, 227, 228, 229, 230, 231] (by decide +kernel) (by decide +kernel)
set_option maxRecDepth 20000 in
theorem gX6_put_X5_save : GoodIn wsX6_put (wsV RX6 38 RX5 yX5_save wsX5_save) := goodIn_app (goodIn_of _ (by decide +kernel)) ggX6_put_X5_save
set_option maxRecDepth 20000 in
theorem ggX6_put_X4_putEntry : GoodIn wsX6_put wsX4_putEntry := goodIn_r _ [135, 20, 21, 136, 137, 138, 6, 139, 46, 47, 48, 25, 49, 50, 140, 141, 142, 143, 67, 68, 69, 70, 71, 72, 73, 74, 75, 76, 77, 78, 144, 145, 146, 147, 88, 83, 84, 85, 86, 87, 148, 149, 150, 151, 152, 153, 154, 155, 127, 31, 156, 10, 157, 158, 159, 160, 161, 27, 28, 29, 30, 32, 33, 34, 35, 36, 162, 163, 164, 165, 166, 167, 168, 169, 128, 170, 171, 172, 173, 174, 22, 23, 24, 26, 37, 38, 39, 40, 41, 175, 176, 177, 178, 179, 180, 181, 182, 183, 184, 185, 186, 129, 187, 188, 189, 190, 191, 192, 193, 194, 195, 196, 197, 198, 53, 199, 200, 201, 202, 203, 54, 55, 56, 57, 204, 205, 58, 206, 207, 208, 209, 213, 214, 215, 216, 217, 218, 219, 220, 221, 222, 223, 224, 225, 226, 227, 228, 229, 230, 231] (by decide +kernel) (by decide +kernel)
set_option maxRecDepth 20000 in
theorem gX6_put_X4_putEntry : GoodIn wsX6_put (wsV RX6 49 RX4 yX4_putEntry wsX4_putEntry) := goodIn_app (goodIn_of _ (by decide +kernel)) ggX6_put_X4_putEntry
theorem dX6_put_0 : decode cX6_put 0 = .ok (.aload_n 0, 1) := by decide +kernel
theorem dX6_put_1 : decode cX6_put 1 = .ok (.getfield 12, 3) := by decide +kernel
theorem dX6_put_4 : decode cX6_put 4 = .ok (.iload_n 1, 1) := by decide +kernel
theorem dX6_put_5 : decode cX6_put 5 = .ok (.iload_n 2, 1) := by decide +kernel
theorem dX6_put_6 : decode cX6_put 6 = .ok (.invokevirtual 45, 3) := by decide +kernel
theorem dX6_put_9 : decode cX6_put 9 = .ok (.invokestatic 34, 3) := by decide +kernel
theorem dX6_put_12 : decode cX6_put 12 = .ok (.aload_n 0, 1) := by decide +kernel
theorem dX6_put_13 : decode cX6_put 13 = .ok (.getfield 19, 3) := by decide +kernel
theorem dX6_put_16 : decode cX6_put 16 = .ok (.aload_n 0, 1) := by decide +kernel
theorem dX6_put_17 : decode cX6_put 17 = .ok (.getfield 12, 3) := by decide +kernel
theorem dX6_put_20 : decode cX6_put 20 = .ok (.invokevirtual 38, 3) := by decide +kernel
theorem dX6_put_23 : decode cX6_put 23 = .ok (.aload_n 0, 1) := by decide +kernel
theorem dX6_put_24 : decode cX6_put 24 = .ok (.getfield 12, 3) := by decide +kernel
theorem dX6_put_27 : decode cX6_put 27 = .ok (.iload_n 1, 1) := by decide +kernel
theorem dX6_put_28 : decode cX6_put 28 = .ok (.iload_n 2, 1) := by decide +kernel
theorem dX6_put_29 : decode cX6_put 29 = .ok (.invokevirtual 49, 3) := by decide +kernel
theorem dX6_put_32 : decode cX6_put 32 = .ok (.ireturn, 1) := by decide +kernel
set_option maxRecDepth 20000 in
theorem ggX6_remove_X4_removeFault : GoodIn wsX6_remove wsX4_removeFault := goodIn_r _ [7, 8, 9, 10, 11, 12, 13, 14, 6, 15, 16, 17, 18, 19, 20, 21, 22, 23, 24, 25, 26, 27, 28, 29, 30, 31, 32, 33, 34, 35, 36, 37, 38, 39, 40, 41, 42, 43, 44, 45, 46, 47, 48, 49, 50, 51, 52, 53, 54, 55, 56, 57, 58, 59, 60, 61, 62, 63, 64, 65, 66, 67, 68, 69, 70, 71, 72, 73, 74, 75, 76, 77, 78, 79, 80, 81, 82, 83, 84, 85, 86, 87, 88, 89, 90, 91, 92, 93, 94, 95, 96, 97, 98, 99, 100, 101, 102, 214, 215, 216, 217, 218, 219, 220, 221, 222, 223, 224, 225, 226, 227, 228, 229, 230, 231, 232] (by decide +kernel) (by decide +kernel)
set_option maxRecDepth 20000 in
theorem gX6_remove_X4_removeFault : GoodIn wsX6_remove (wsV RX6 52 RX4 yX4_removeFault wsX4_removeFault) := goodIn_app (goodIn_of _ (by decide +kernel)) ggX6_remove_X4_removeFault
set_option maxRecDepth 20000 in
theorem ggX6_remove_X6_refuse : GoodIn wsX6_remove wsX6_refuse := goodIn_ca (goodIn_ca (goodIn_ca (goodIn_r _ [105, 106, 107, 108, 109, 110, 111] (by decide +kernel) (by decide +kernel)) (goodIn_sub (fun _ h => List.mem_cons_of_mem _ (List.mem_append_left _ (List.mem_append_left _ (List.mem_append_right _ h)))) (by decide +kernel))) (goodIn_sub (fun _ h => List.mem_cons_of_mem _ (List.mem_append_left _ (List.mem_append_right _ h))) (by decide +kernel))) (goodIn_sub (fun _ h => List.mem_cons_of_mem _ (List.mem_append_right _ h)) (by decide +kernel))
set_option maxRecDepth 20000 in
theorem gX6_remove_X6_refuse : GoodIn wsX6_remove (va_wsS RX6 34 yX6_refuse wsX6_refuse) := goodIn_app (goodIn_of _ (by decide +kernel)) ggX6_remove_X6_refuse
set_option maxRecDepth 20000 in
theorem ggX6_remove_X5_save : GoodIn wsX6_remove wsX5_save := goodIn_r _ [116, 117, 118, 119, 85, 86, 87, 120, 121, 122, 115, 123, 124, 125, 126, 127, 6, 128, 16, 83, 129, 82, 88, 130, 8, 17, 131, 132, 133, 134, 135, 21, 136, 97, 137, 31, 98, 65, 138, 41, 50, 36, 139, 10, 140, 233, 234, 235, 214, 215, 216, 217, 218, 219, 220, 221, 222, 223, 224, 225, 226, 227, 228, 229, 230, 231, 232] (by decide +kernel) (by decide +kernel)
set_option maxRecDepth 20000 in
theorem gX6_remove_X5_save : GoodIn wsX6_remove (wsV RX6 38 RX5 yX5_save wsX5_save) := goodIn_app (goodIn_of _ (by decide +kernel)) ggX6_remove_X5_save
set_option maxRecDepth 20000 in
theorem ggX6_remove_X4_removeEntry : GoodIn wsX6_remove wsX4_removeEntry := goodIn_r _ [144, 16, 17, 145, 146, 147, 6, 148, 61, 62, 63, 21, 64, 65, 149, 150, 151, 152, 77, 78, 79, 80, 81, 82, 83, 84, 85, 86, 87, 88, 153, 154, 155, 156, 98, 93, 94, 95, 96, 97, 157, 158, 159, 160, 161, 162, 163, 164, 137, 31, 165, 10, 166, 167, 168, 169, 170, 27, 28, 29, 30, 32, 33, 34, 35, 36, 171, 172, 173, 174, 175, 176, 177, 178, 138, 179, 180, 181, 182, 183, 55, 24, 25, 26, 37, 38, 39, 40, 41, 56, 184, 43, 44, 45, 185, 47, 48, 49, 50, 68, 186, 187, 188, 189, 190, 191, 192, 193, 194, 195, 196, 197, 198, 199, 200, 201, 46, 202, 203, 204, 205, 206, 207, 208, 209, 210, 214, 215, 216, 217, 218, 219, 220, 221, 222, 223, 224, 225, 226, 227, 228, 229, 230, 231, 232] (by decide +kernel) (by decide +kernel)
set_option maxRecDepth 20000 in
theorem gX6_remove_X4_removeEntry : GoodIn wsX6_remove (wsV RX6 56 RX4 yX4_removeEntry wsX4_removeEntry) := goodIn_app (goodIn_of _ (by decide +kernel)) ggX6_remove_X4_removeEntry
theorem dX6_remove_0 : decode cX6_remove 0 = .ok (.aload_n 0, 1) := by decide +kernel
theorem dX6_remove_1 : decode cX6_remove 1 = .ok (.getfield 12, 3) := by decide +kernel
theorem dX6_remove_4 : decode cX6_remove 4 = .ok (.iload_n 1, 1) := by decide +kernel
theorem dX6_remove_5 : decode cX6_remove 5 = .ok (.invokevirtual 52, 3) := by decide +kernel
theorem dX6_remove_8 : decode cX6_remove 8 = .ok (.invokestatic 34, 3) := by decide +kernel
theorem dX6_remove_11 : decode cX6_remove 11 = .ok (.aload_n 0, 1) := by decide +kernel
theorem dX6_remove_12 : decode cX6_remove 12 = .ok (.getfield 19, 3) := by decide +kernel
theorem dX6_remove_15 : decode cX6_remove 15 = .ok (.aload_n 0, 1) := by decide +kernel
theorem dX6_remove_16 : decode cX6_remove 16 = .ok (.getfield 12, 3) := by decide +kernel
theorem dX6_remove_19 : decode cX6_remove 19 = .ok (.invokevirtual 38, 3) := by decide +kernel
theorem dX6_remove_22 : decode cX6_remove 22 = .ok (.aload_n 0, 1) := by decide +kernel
theorem dX6_remove_23 : decode cX6_remove 23 = .ok (.getfield 12, 3) := by decide +kernel
theorem dX6_remove_26 : decode cX6_remove 26 = .ok (.iload_n 1, 1) := by decide +kernel
theorem dX6_remove_27 : decode cX6_remove 27 = .ok (.invokevirtual 56, 3) := by decide +kernel
theorem dX6_remove_30 : decode cX6_remove 30 = .ok (.ireturn, 1) := by decide +kernel
set_option maxRecDepth 20000 in
theorem ggX6_commit_X4_commitFault : GoodIn wsX6_commit wsX4_commitFault := goodIn_r _ [7, 8, 9, 10, 11, 119, 120, 121, 122, 123, 124, 125, 126, 127, 128] (by decide +kernel) (by decide +kernel)
set_option maxRecDepth 20000 in
theorem gX6_commit_X4_commitFault : GoodIn wsX6_commit (wsV RX6 59 RX4 yX4_commitFault wsX4_commitFault) := goodIn_app (goodIn_of _ (by decide +kernel)) ggX6_commit_X4_commitFault
set_option maxRecDepth 20000 in
theorem ggX6_commit_X6_refuse : GoodIn wsX6_commit wsX6_refuse := goodIn_ca (goodIn_ca (goodIn_ca (goodIn_r _ [14, 15, 16, 17, 18, 19, 20] (by decide +kernel) (by decide +kernel)) (goodIn_sub (fun _ h => List.mem_cons_of_mem _ (List.mem_append_left _ (List.mem_append_left _ (List.mem_append_right _ h)))) (by decide +kernel))) (goodIn_sub (fun _ h => List.mem_cons_of_mem _ (List.mem_append_left _ (List.mem_append_right _ h))) (by decide +kernel))) (goodIn_sub (fun _ h => List.mem_cons_of_mem _ (List.mem_append_right _ h)) (by decide +kernel))
set_option maxRecDepth 20000 in
theorem gX6_commit_X6_refuse : GoodIn wsX6_commit (va_wsS RX6 34 yX6_refuse wsX6_refuse) := goodIn_app (goodIn_of _ (by decide +kernel)) ggX6_commit_X6_refuse
set_option maxRecDepth 20000 in
theorem ggX6_commit_X5_save : GoodIn wsX6_commit wsX5_save := goodIn_r _ [25, 26, 27, 28, 29, 30, 31, 32, 33, 34, 24, 35, 36, 37, 38, 39, 6, 40, 41, 42, 43, 44, 45, 46, 8, 47, 48, 49, 50, 51, 52, 53, 54, 55, 56, 57, 58, 59, 60, 61, 62, 63, 64, 10, 65, 129, 130, 131, 119, 120, 121, 122, 123, 124, 125, 126, 127, 128, 132, 133, 134, 135, 136, 137, 138, 139, 140] (by decide +kernel) (by decide +kernel)
set_option maxRecDepth 20000 in
theorem gX6_commit_X5_save : GoodIn wsX6_commit (wsV RX6 38 RX5 yX5_save wsX5_save) := goodIn_app (goodIn_of _ (by decide +kernel)) ggX6_commit_X5_save
set_option maxRecDepth 20000 in
theorem ggX6_commit_X4_commitDraft : GoodIn wsX6_commit wsX4_commitDraft := goodIn_r _ [69, 41, 47, 49, 48, 70, 71, 72, 53, 73, 59, 74, 75, 76, 6, 77, 8, 78, 79, 80, 81, 44, 43, 42, 82, 83, 84, 85, 86, 87, 88, 89, 90, 10, 91, 92, 93, 94, 95, 96, 97, 98, 99, 100, 101, 60, 102, 103, 104, 105, 55, 56, 57, 58, 106, 107, 108, 109, 110, 111, 112, 113, 114, 115, 119, 120, 121, 122, 123, 124, 125, 126, 127, 128, 132, 133, 134, 135, 136, 137, 138, 139, 140] (by decide +kernel) (by decide +kernel)
set_option maxRecDepth 20000 in
theorem gX6_commit_X4_commitDraft : GoodIn wsX6_commit (wsV RX6 62 RX4 yX4_commitDraft wsX4_commitDraft) := goodIn_app (goodIn_of _ (by decide +kernel)) ggX6_commit_X4_commitDraft
theorem dX6_commit_0 : decode cX6_commit 0 = .ok (.aload_n 0, 1) := by decide +kernel
theorem dX6_commit_1 : decode cX6_commit 1 = .ok (.getfield 12, 3) := by decide +kernel
theorem dX6_commit_4 : decode cX6_commit 4 = .ok (.iload_n 1, 1) := by decide +kernel
theorem dX6_commit_5 : decode cX6_commit 5 = .ok (.invokevirtual 59, 3) := by decide +kernel
theorem dX6_commit_8 : decode cX6_commit 8 = .ok (.invokestatic 34, 3) := by decide +kernel
theorem dX6_commit_11 : decode cX6_commit 11 = .ok (.aload_n 0, 1) := by decide +kernel
theorem dX6_commit_12 : decode cX6_commit 12 = .ok (.getfield 19, 3) := by decide +kernel
theorem dX6_commit_15 : decode cX6_commit 15 = .ok (.aload_n 0, 1) := by decide +kernel
theorem dX6_commit_16 : decode cX6_commit 16 = .ok (.getfield 12, 3) := by decide +kernel
theorem dX6_commit_19 : decode cX6_commit 19 = .ok (.invokevirtual 38, 3) := by decide +kernel
theorem dX6_commit_22 : decode cX6_commit 22 = .ok (.aload_n 0, 1) := by decide +kernel
theorem dX6_commit_23 : decode cX6_commit 23 = .ok (.getfield 12, 3) := by decide +kernel
theorem dX6_commit_26 : decode cX6_commit 26 = .ok (.iload_n 1, 1) := by decide +kernel
theorem dX6_commit_27 : decode cX6_commit 27 = .ok (.invokevirtual 62, 3) := by decide +kernel
theorem dX6_commit_30 : decode cX6_commit 30 = .ok (.ireturn, 1) := by decide +kernel
set_option maxRecDepth 20000 in
theorem ggX6_abort_X4_abortFault : GoodIn wsX6_abort wsX4_abortFault := goodIn_r _ [7, 8, 87, 88, 89, 90, 91, 92, 93, 94, 95, 96] (by decide +kernel) (by decide +kernel)
set_option maxRecDepth 20000 in
theorem gX6_abort_X4_abortFault : GoodIn wsX6_abort (wsV RX6 65 RX4 yX4_abortFault wsX4_abortFault) := goodIn_app (goodIn_of _ (by decide +kernel)) ggX6_abort_X4_abortFault
set_option maxRecDepth 20000 in
theorem ggX6_abort_X6_refuse : GoodIn wsX6_abort wsX6_refuse := goodIn_ca (goodIn_ca (goodIn_ca (goodIn_r _ [12, 13, 14, 15, 16, 17, 18] (by decide +kernel) (by decide +kernel)) (goodIn_sub (fun _ h => List.mem_cons_of_mem _ (List.mem_append_left _ (List.mem_append_left _ (List.mem_append_right _ h)))) (by decide +kernel))) (goodIn_sub (fun _ h => List.mem_cons_of_mem _ (List.mem_append_left _ (List.mem_append_right _ h))) (by decide +kernel))) (goodIn_sub (fun _ h => List.mem_cons_of_mem _ (List.mem_append_right _ h)) (by decide +kernel))
set_option maxRecDepth 20000 in
theorem gX6_abort_X6_refuse : GoodIn wsX6_abort (va_wsS RX6 34 yX6_refuse wsX6_refuse) := goodIn_app (goodIn_of _ (by decide +kernel)) ggX6_abort_X6_refuse
set_option maxRecDepth 20000 in
theorem ggX6_abort_X5_save : GoodIn wsX6_abort wsX5_save := goodIn_r _ [23, 24, 25, 26, 27, 28, 29, 30, 31, 32, 22, 33, 34, 35, 36, 37, 6, 38, 39, 40, 41, 42, 43, 44, 8, 45, 46, 47, 48, 49, 50, 51, 52, 53, 54, 55, 56, 57, 58, 59, 60, 61, 62, 11, 63, 97, 98, 99, 87, 88, 89, 90, 91, 92, 93, 94, 95, 96, 100, 101, 102, 103, 104, 105, 106, 107, 108] (by decide +kernel) (by decide +kernel)
set_option maxRecDepth 20000 in
theorem gX6_abort_X5_save : GoodIn wsX6_abort (wsV RX6 38 RX5 yX5_save wsX5_save) := goodIn_app (goodIn_of _ (by decide +kernel)) ggX6_abort_X5_save
set_option maxRecDepth 20000 in
theorem ggX6_abort_X4_dropDraft : GoodIn wsX6_abort wsX4_dropDraft := goodIn_r _ [67, 39, 68, 69, 70, 6, 71, 8, 45, 72, 73, 74, 51, 75, 57, 58, 76, 77, 78, 79, 53, 54, 55, 56, 80, 11, 81, 82, 83, 87, 88, 89, 90, 91, 92, 93, 94, 95, 96, 100, 101, 102, 103, 104, 105, 106, 107, 108] (by decide +kernel) (by decide +kernel)
set_option maxRecDepth 20000 in
theorem gX6_abort_X4_dropDraft : GoodIn wsX6_abort (wsV RX6 68 RX4 yX4_dropDraft wsX4_dropDraft) := goodIn_app (goodIn_of _ (by decide +kernel)) ggX6_abort_X4_dropDraft
theorem dX6_abort_0 : decode cX6_abort 0 = .ok (.aload_n 0, 1) := by decide +kernel
theorem dX6_abort_1 : decode cX6_abort 1 = .ok (.getfield 12, 3) := by decide +kernel
theorem dX6_abort_4 : decode cX6_abort 4 = .ok (.invokevirtual 65, 3) := by decide +kernel
theorem dX6_abort_7 : decode cX6_abort 7 = .ok (.invokestatic 34, 3) := by decide +kernel
theorem dX6_abort_10 : decode cX6_abort 10 = .ok (.aload_n 0, 1) := by decide +kernel
theorem dX6_abort_11 : decode cX6_abort 11 = .ok (.getfield 19, 3) := by decide +kernel
theorem dX6_abort_14 : decode cX6_abort 14 = .ok (.aload_n 0, 1) := by decide +kernel
theorem dX6_abort_15 : decode cX6_abort 15 = .ok (.getfield 12, 3) := by decide +kernel
theorem dX6_abort_18 : decode cX6_abort 18 = .ok (.invokevirtual 38, 3) := by decide +kernel
theorem dX6_abort_21 : decode cX6_abort 21 = .ok (.aload_n 0, 1) := by decide +kernel
theorem dX6_abort_22 : decode cX6_abort 22 = .ok (.getfield 12, 3) := by decide +kernel
theorem dX6_abort_25 : decode cX6_abort 25 = .ok (.invokevirtual 68, 3) := by decide +kernel
theorem dX6_abort_28 : decode cX6_abort 28 = .ok (.ireturn, 1) := by decide +kernel
set_option maxRecDepth 20000 in
theorem ggX6_open_X4_openFault : GoodIn wsX6_open wsX4_openFault := goodIn_r _ [7, 8, 9, 10, 6, 11, 12, 13, 14, 15, 16, 17, 18, 19, 95, 96, 97, 98, 99, 100, 101, 102, 103, 104] (by decide +kernel) (by decide +kernel)
set_option maxRecDepth 20000 in
theorem gX6_open_X4_openFault : GoodIn wsX6_open (wsV RX6 71 RX4 yX4_openFault wsX4_openFault) := goodIn_app (goodIn_of _ (by decide +kernel)) ggX6_open_X4_openFault
set_option maxRecDepth 20000 in
theorem ggX6_open_X6_refuse : GoodIn wsX6_open wsX6_refuse := goodIn_ca (goodIn_ca (goodIn_ca (goodIn_r _ [22, 23, 24, 25, 26, 27, 28] (by decide +kernel) (by decide +kernel)) (goodIn_sub (fun _ h => List.mem_cons_of_mem _ (List.mem_append_left _ (List.mem_append_left _ (List.mem_append_right _ h)))) (by decide +kernel))) (goodIn_sub (fun _ h => List.mem_cons_of_mem _ (List.mem_append_left _ (List.mem_append_right _ h))) (by decide +kernel))) (goodIn_sub (fun _ h => List.mem_cons_of_mem _ (List.mem_append_right _ h)) (by decide +kernel))
set_option maxRecDepth 20000 in
theorem gX6_open_X6_refuse : GoodIn wsX6_open (va_wsS RX6 34 yX6_refuse wsX6_refuse) := goodIn_app (goodIn_of _ (by decide +kernel)) ggX6_open_X6_refuse
set_option maxRecDepth 20000 in
theorem ggX6_open_X5_save : GoodIn wsX6_open wsX5_save := goodIn_r _ [33, 34, 35, 36, 37, 38, 39, 40, 41, 42, 32, 43, 44, 45, 46, 47, 6, 48, 49, 50, 51, 52, 16, 53, 54, 55, 56, 57, 58, 59, 60, 61, 62, 63, 64, 65, 66, 67, 68, 69, 70, 71, 72, 18, 73, 105, 106, 107, 95, 96, 97, 98, 99, 100, 101, 102, 103, 104, 108, 109, 110, 111, 112, 113, 114, 115, 116] (by decide +kernel) (by decide +kernel)
set_option maxRecDepth 20000 in
theorem gX6_open_X5_save : GoodIn wsX6_open (wsV RX6 38 RX5 yX5_save wsX5_save) := goodIn_app (goodIn_of _ (by decide +kernel)) ggX6_open_X5_save
set_option maxRecDepth 20000 in
theorem ggX6_open_X4_openReader : GoodIn wsX6_open wsX4_openReader := goodIn_r _ [77, 16, 53, 8, 9, 10, 6, 11, 12, 13, 14, 15, 17, 18, 19, 78, 79, 80, 81, 50, 82, 83, 84, 85, 52, 86, 87, 88, 89, 90, 91, 51, 95, 96, 97, 98, 99, 100, 101, 102, 103, 104] (by decide +kernel) (by decide +kernel)
set_option maxRecDepth 20000 in
theorem gX6_open_X4_openReader : GoodIn wsX6_open (wsV RX6 74 RX4 yX4_openReader wsX4_openReader) := goodIn_app (goodIn_of _ (by decide +kernel)) ggX6_open_X4_openReader
theorem dX6_open_0 : decode cX6_open 0 = .ok (.aload_n 0, 1) := by decide +kernel
theorem dX6_open_1 : decode cX6_open 1 = .ok (.getfield 12, 3) := by decide +kernel
theorem dX6_open_4 : decode cX6_open 4 = .ok (.invokevirtual 71, 3) := by decide +kernel
theorem dX6_open_7 : decode cX6_open 7 = .ok (.invokestatic 34, 3) := by decide +kernel
theorem dX6_open_10 : decode cX6_open 10 = .ok (.aload_n 0, 1) := by decide +kernel
theorem dX6_open_11 : decode cX6_open 11 = .ok (.getfield 19, 3) := by decide +kernel
theorem dX6_open_14 : decode cX6_open 14 = .ok (.aload_n 0, 1) := by decide +kernel
theorem dX6_open_15 : decode cX6_open 15 = .ok (.getfield 12, 3) := by decide +kernel
theorem dX6_open_18 : decode cX6_open 18 = .ok (.invokevirtual 38, 3) := by decide +kernel
theorem dX6_open_21 : decode cX6_open 21 = .ok (.aload_n 0, 1) := by decide +kernel
theorem dX6_open_22 : decode cX6_open 22 = .ok (.getfield 12, 3) := by decide +kernel
theorem dX6_open_25 : decode cX6_open 25 = .ok (.invokevirtual 74, 3) := by decide +kernel
theorem dX6_open_28 : decode cX6_open 28 = .ok (.ireturn, 1) := by decide +kernel
set_option maxRecDepth 20000 in
theorem ggX6_close_X4_openReaderFault : GoodIn wsX6_close wsX4_openReaderFault := goodIn_r _ [7, 8, 9, 10, 11, 12, 13, 6, 14, 15, 16, 17, 101, 102, 103, 104, 105, 106, 107, 108, 109, 110] (by decide +kernel) (by decide +kernel)
set_option maxRecDepth 20000 in
theorem gX6_close_X4_openReaderFault : GoodIn wsX6_close (wsV RX6 77 RX4 yX4_openReaderFault wsX4_openReaderFault) := goodIn_app (goodIn_of _ (by decide +kernel)) ggX6_close_X4_openReaderFault
set_option maxRecDepth 20000 in
theorem ggX6_close_X6_refuse : GoodIn wsX6_close wsX6_refuse := goodIn_ca (goodIn_ca (goodIn_ca (goodIn_r _ [20, 21, 22, 23, 24, 25, 26] (by decide +kernel) (by decide +kernel)) (goodIn_sub (fun _ h => List.mem_cons_of_mem _ (List.mem_append_left _ (List.mem_append_left _ (List.mem_append_right _ h)))) (by decide +kernel))) (goodIn_sub (fun _ h => List.mem_cons_of_mem _ (List.mem_append_left _ (List.mem_append_right _ h))) (by decide +kernel))) (goodIn_sub (fun _ h => List.mem_cons_of_mem _ (List.mem_append_right _ h)) (by decide +kernel))
set_option maxRecDepth 20000 in
theorem gX6_close_X6_refuse : GoodIn wsX6_close (va_wsS RX6 34 yX6_refuse wsX6_refuse) := goodIn_app (goodIn_of _ (by decide +kernel)) ggX6_close_X6_refuse
set_option maxRecDepth 20000 in
theorem ggX6_close_X5_save : GoodIn wsX6_close wsX5_save := goodIn_r _ [31, 32, 33, 34, 35, 36, 37, 38, 39, 40, 30, 41, 42, 43, 44, 45, 6, 46, 47, 48, 49, 50, 15, 51, 52, 53, 54, 55, 56, 57, 58, 59, 60, 61, 62, 63, 64, 65, 66, 67, 68, 69, 70, 9, 71, 111, 112, 113, 101, 102, 103, 104, 105, 106, 107, 108, 109, 110, 114, 115, 116, 117, 118, 119, 120, 121, 122] (by decide +kernel) (by decide +kernel)
set_option maxRecDepth 20000 in
theorem gX6_close_X5_save : GoodIn wsX6_close (wsV RX6 38 RX5 yX5_save wsX5_save) := goodIn_app (goodIn_of _ (by decide +kernel)) ggX6_close_X5_save
set_option maxRecDepth 20000 in
theorem ggX6_close_X4_closeReader : GoodIn wsX6_close wsX4_closeReader := goodIn_r _ [75, 47, 15, 51, 76, 77, 78, 6, 79, 80, 81, 82, 83, 84, 50, 48, 85, 35, 36, 37, 86, 87, 88, 59, 89, 90, 91, 92, 93, 61, 64, 94, 9, 95, 96, 97, 101, 102, 103, 104, 105, 106, 107, 108, 109, 110, 114, 115, 116, 117, 118, 119, 120, 121, 122] (by decide +kernel) (by decide +kernel)
set_option maxRecDepth 20000 in
theorem gX6_close_X4_closeReader : GoodIn wsX6_close (wsV RX6 80 RX4 yX4_closeReader wsX4_closeReader) := goodIn_app (goodIn_of _ (by decide +kernel)) ggX6_close_X4_closeReader
theorem dX6_close_0 : decode cX6_close 0 = .ok (.aload_n 0, 1) := by decide +kernel
theorem dX6_close_1 : decode cX6_close 1 = .ok (.getfield 12, 3) := by decide +kernel
theorem dX6_close_4 : decode cX6_close 4 = .ok (.iload_n 1, 1) := by decide +kernel
theorem dX6_close_5 : decode cX6_close 5 = .ok (.invokevirtual 77, 3) := by decide +kernel
theorem dX6_close_8 : decode cX6_close 8 = .ok (.invokestatic 34, 3) := by decide +kernel
theorem dX6_close_11 : decode cX6_close 11 = .ok (.aload_n 0, 1) := by decide +kernel
theorem dX6_close_12 : decode cX6_close 12 = .ok (.getfield 19, 3) := by decide +kernel
theorem dX6_close_15 : decode cX6_close 15 = .ok (.aload_n 0, 1) := by decide +kernel
theorem dX6_close_16 : decode cX6_close 16 = .ok (.getfield 12, 3) := by decide +kernel
theorem dX6_close_19 : decode cX6_close 19 = .ok (.invokevirtual 38, 3) := by decide +kernel
theorem dX6_close_22 : decode cX6_close 22 = .ok (.aload_n 0, 1) := by decide +kernel
theorem dX6_close_23 : decode cX6_close 23 = .ok (.getfield 12, 3) := by decide +kernel
theorem dX6_close_26 : decode cX6_close 26 = .ok (.iload_n 1, 1) := by decide +kernel
theorem dX6_close_27 : decode cX6_close 27 = .ok (.invokevirtual 80, 3) := by decide +kernel
theorem dX6_close_30 : decode cX6_close 30 = .ok (.ireturn, 1) := by decide +kernel
set_option maxRecDepth 20000 in
theorem ggX6_get_X6_keyFault : GoodIn wsX6_get wsX6_keyFault := goodIn_r _ [5, 6, 7, 4, 8] (by decide +kernel) (by decide +kernel)
set_option maxRecDepth 20000 in
theorem gX6_get_X6_keyFault : GoodIn wsX6_get (va_wsS RX6 83 yX6_keyFault wsX6_keyFault) := goodIn_app (goodIn_of _ (by decide +kernel)) ggX6_get_X6_keyFault
set_option maxRecDepth 20000 in
theorem ggX6_get_X6_refuse : GoodIn wsX6_get wsX6_refuse := goodIn_ca (goodIn_ca (goodIn_ca (goodIn_r _ [11, 12, 13, 14, 15, 16, 17] (by decide +kernel) (by decide +kernel)) (goodIn_sub (fun _ h => List.mem_cons_of_mem _ (List.mem_append_left _ (List.mem_append_left _ (List.mem_append_right _ h)))) (by decide +kernel))) (goodIn_sub (fun _ h => List.mem_cons_of_mem _ (List.mem_append_left _ (List.mem_append_right _ h))) (by decide +kernel))) (goodIn_sub (fun _ h => List.mem_cons_of_mem _ (List.mem_append_right _ h)) (by decide +kernel))
set_option maxRecDepth 20000 in
theorem gX6_get_X6_refuse : GoodIn wsX6_get (va_wsS RX6 34 yX6_refuse wsX6_refuse) := goodIn_app (goodIn_of _ (by decide +kernel)) ggX6_get_X6_refuse
set_option maxRecDepth 20000 in
theorem ggX6_get_X4_currentValue : GoodIn wsX6_get wsX4_currentValue := goodIn_r _ [22, 23, 24, 25, 26, 21, 27, 28, 29, 30, 31, 32, 33, 34, 35, 4, 36, 37, 38, 39, 40, 41, 42, 43, 44, 45, 46, 47, 48, 49, 50, 51, 52, 53, 54, 55, 56, 57, 58, 59, 60, 61, 62, 63, 64, 65, 66, 67, 68, 69, 73, 74, 75, 76, 77, 78, 79, 80, 81, 82, 83, 84, 85, 86, 87, 88, 89, 90, 91] (by decide +kernel) (by decide +kernel)
set_option maxRecDepth 20000 in
theorem gX6_get_X4_currentValue : GoodIn wsX6_get (wsV RX6 86 RX4 yX4_currentValue wsX4_currentValue) := goodIn_app (goodIn_of _ (by decide +kernel)) ggX6_get_X4_currentValue
theorem dX6_get_0 : decode cX6_get 0 = .ok (.iload_n 1, 1) := by decide +kernel
theorem dX6_get_1 : decode cX6_get 1 = .ok (.invokestatic 83, 3) := by decide +kernel
theorem dX6_get_4 : decode cX6_get 4 = .ok (.invokestatic 34, 3) := by decide +kernel
theorem dX6_get_7 : decode cX6_get 7 = .ok (.aload_n 0, 1) := by decide +kernel
theorem dX6_get_8 : decode cX6_get 8 = .ok (.getfield 12, 3) := by decide +kernel
theorem dX6_get_11 : decode cX6_get 11 = .ok (.iload_n 1, 1) := by decide +kernel
theorem dX6_get_12 : decode cX6_get 12 = .ok (.invokevirtual 86, 3) := by decide +kernel
theorem dX6_get_15 : decode cX6_get 15 = .ok (.ireturn, 1) := by decide +kernel
set_option maxRecDepth 20000 in
theorem ggX6_drafted_X4_draftedFault : GoodIn wsX6_drafted wsX4_draftedFault := goodIn_r _ [6, 7, 8, 9, 10, 62, 63, 64, 65, 66, 67, 68, 69, 70, 71] (by decide +kernel) (by decide +kernel)
set_option maxRecDepth 20000 in
theorem gX6_drafted_X4_draftedFault : GoodIn wsX6_drafted (wsV RX6 89 RX4 yX4_draftedFault wsX4_draftedFault) := goodIn_app (goodIn_of _ (by decide +kernel)) ggX6_drafted_X4_draftedFault
set_option maxRecDepth 20000 in
theorem ggX6_drafted_X6_refuse : GoodIn wsX6_drafted wsX6_refuse := goodIn_ca (goodIn_ca (goodIn_ca (goodIn_r _ [13, 14, 15, 16, 17, 18, 19] (by decide +kernel) (by decide +kernel)) (goodIn_sub (fun _ h => List.mem_cons_of_mem _ (List.mem_append_left _ (List.mem_append_left _ (List.mem_append_right _ h)))) (by decide +kernel))) (goodIn_sub (fun _ h => List.mem_cons_of_mem _ (List.mem_append_left _ (List.mem_append_right _ h))) (by decide +kernel))) (goodIn_sub (fun _ h => List.mem_cons_of_mem _ (List.mem_append_right _ h)) (by decide +kernel))
set_option maxRecDepth 20000 in
theorem gX6_drafted_X6_refuse : GoodIn wsX6_drafted (va_wsS RX6 34 yX6_refuse wsX6_refuse) := goodIn_app (goodIn_of _ (by decide +kernel)) ggX6_drafted_X6_refuse
set_option maxRecDepth 20000 in
theorem ggX6_drafted_X4_draftedValue : GoodIn wsX6_drafted wsX4_draftedValue := goodIn_r _ [23, 24, 25, 26, 27, 28, 29, 30, 31, 32, 33, 34, 35, 36, 37, 38, 39, 40, 41, 42, 43, 44, 45, 46, 47, 48, 49, 50, 51, 52, 53, 54, 55, 56, 57, 58, 62, 63, 64, 65, 66, 67, 68, 69, 70, 71, 72, 73, 74, 75, 76, 77, 78, 79, 80] (by decide +kernel) (by decide +kernel)
set_option maxRecDepth 20000 in
theorem gX6_drafted_X4_draftedValue : GoodIn wsX6_drafted (wsV RX6 92 RX4 yX4_draftedValue wsX4_draftedValue) := goodIn_app (goodIn_of _ (by decide +kernel)) ggX6_drafted_X4_draftedValue
theorem dX6_drafted_0 : decode cX6_drafted 0 = .ok (.aload_n 0, 1) := by decide +kernel
theorem dX6_drafted_1 : decode cX6_drafted 1 = .ok (.getfield 12, 3) := by decide +kernel
theorem dX6_drafted_4 : decode cX6_drafted 4 = .ok (.iload_n 1, 1) := by decide +kernel
theorem dX6_drafted_5 : decode cX6_drafted 5 = .ok (.invokevirtual 89, 3) := by decide +kernel
theorem dX6_drafted_8 : decode cX6_drafted 8 = .ok (.invokestatic 34, 3) := by decide +kernel
theorem dX6_drafted_11 : decode cX6_drafted 11 = .ok (.aload_n 0, 1) := by decide +kernel
theorem dX6_drafted_12 : decode cX6_drafted 12 = .ok (.getfield 12, 3) := by decide +kernel
theorem dX6_drafted_15 : decode cX6_drafted 15 = .ok (.iload_n 1, 1) := by decide +kernel
theorem dX6_drafted_16 : decode cX6_drafted 16 = .ok (.invokevirtual 92, 3) := by decide +kernel
theorem dX6_drafted_19 : decode cX6_drafted 19 = .ok (.ireturn, 1) := by decide +kernel
set_option maxRecDepth 20000 in
theorem ggX6_read_X4_readFault : GoodIn wsX6_read wsX4_readFault := goodIn_r _ [6, 7, 8, 9, 10, 11, 12, 5, 13, 14, 15, 16, 68, 69, 70, 71, 72, 73, 74, 75, 76, 77] (by decide +kernel) (by decide +kernel)
set_option maxRecDepth 20000 in
theorem gX6_read_X4_readFault : GoodIn wsX6_read (wsV RX6 95 RX4 yX4_readFault wsX4_readFault) := goodIn_app (goodIn_of _ (by decide +kernel)) ggX6_read_X4_readFault
set_option maxRecDepth 20000 in
theorem ggX6_read_X6_refuse : GoodIn wsX6_read wsX6_refuse := goodIn_ca (goodIn_ca (goodIn_ca (goodIn_r _ [19, 20, 21, 22, 23, 24, 25] (by decide +kernel) (by decide +kernel)) (goodIn_sub (fun _ h => List.mem_cons_of_mem _ (List.mem_append_left _ (List.mem_append_left _ (List.mem_append_right _ h)))) (by decide +kernel))) (goodIn_sub (fun _ h => List.mem_cons_of_mem _ (List.mem_append_left _ (List.mem_append_right _ h))) (by decide +kernel))) (goodIn_sub (fun _ h => List.mem_cons_of_mem _ (List.mem_append_right _ h)) (by decide +kernel))
