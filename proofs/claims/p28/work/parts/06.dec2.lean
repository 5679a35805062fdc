theorem dX1_setEntry_30 : decode cX1_setEntry 30 = .ok (.aload_n 0, 1) := by decide +kernel
theorem dX1_setEntry_31 : decode cX1_setEntry 31 = .ok (.getfield 33, 3) := by decide +kernel
theorem dX1_setEntry_34 : decode cX1_setEntry 34 = .ok (.iload_n 1, 1) := by decide +kernel
theorem dX1_setEntry_35 : decode cX1_setEntry 35 = .ok (.iconst 5, 1) := by decide +kernel
theorem dX1_setEntry_36 : decode cX1_setEntry 36 = .ok (.imul, 1) := by decide +kernel
theorem dX1_setEntry_37 : decode cX1_setEntry 37 = .ok (.iload_n 2, 1) := by decide +kernel
theorem dX1_setEntry_38 : decode cX1_setEntry 38 = .ok (.iadd, 1) := by decide +kernel
theorem dX1_setEntry_39 : decode cX1_setEntry 39 = .ok (.iload 4, 2) := by decide +kernel
theorem dX1_setEntry_41 : decode cX1_setEntry 41 = .ok (.iastore, 1) := by decide +kernel
theorem dX1_setEntry_42 : decode cX1_setEntry 42 = .ok (.return_, 1) := by decide +kernel
set_option maxRecDepth 20000 in
theorem ggX1_moveEntry_X1_keyAt : GoodIn wsX1_moveEntry wsX1_keyAt := goodIn_r _ [5, 6, 16, 17, 18, 19, 20, 21, 22, 23, 24] (by decide +kernel) (by decide +kernel)
set_option maxRecDepth 20000 in
theorem gX1_moveEntry_X1_keyAt : GoodIn wsX1_moveEntry (wsV RX1 87 RX1 yX1_keyAt wsX1_keyAt) := goodIn_app (goodIn_of _ (by decide +kernel)) ggX1_moveEntry_X1_keyAt
set_option maxRecDepth 20000 in
theorem ggX1_moveEntry_X1_valueAt : GoodIn wsX1_moveEntry wsX1_valueAt := goodIn_r _ [10, 11, 16, 17, 18, 19, 20, 21, 22, 23, 24] (by decide +kernel) (by decide +kernel)
set_option maxRecDepth 20000 in
theorem gX1_moveEntry_X1_valueAt : GoodIn wsX1_moveEntry (wsV RX1 96 RX1 yX1_valueAt wsX1_valueAt) := goodIn_app (goodIn_of _ (by decide +kernel)) ggX1_moveEntry_X1_valueAt
set_option maxRecDepth 20000 in
theorem ggX1_moveEntry_X1_setEntry : GoodIn wsX1_moveEntry wsX1_setEntry := goodIn_r _ [15, 6, 11, 16, 17, 18, 19, 20, 21, 22, 23, 24] (by decide +kernel) (by decide +kernel)
set_option maxRecDepth 20000 in
theorem gX1_moveEntry_X1_setEntry : GoodIn wsX1_moveEntry (wsV RX1 106 RX1 yX1_setEntry wsX1_setEntry) := goodIn_app (goodIn_of _ (by decide +kernel)) ggX1_moveEntry_X1_setEntry
theorem dX1_moveEntry_0 : decode cX1_moveEntry 0 = .ok (.aload_n 0, 1) := by decide +kernel
theorem dX1_moveEntry_1 : decode cX1_moveEntry 1 = .ok (.iload_n 3, 1) := by decide +kernel
theorem dX1_moveEntry_2 : decode cX1_moveEntry 2 = .ok (.iload 4, 2) := by decide +kernel
theorem dX1_moveEntry_4 : decode cX1_moveEntry 4 = .ok (.aload_n 0, 1) := by decide +kernel
theorem dX1_moveEntry_5 : decode cX1_moveEntry 5 = .ok (.iload_n 1, 1) := by decide +kernel
theorem dX1_moveEntry_6 : decode cX1_moveEntry 6 = .ok (.iload_n 2, 1) := by decide +kernel
theorem dX1_moveEntry_7 : decode cX1_moveEntry 7 = .ok (.invokevirtual 87, 3) := by decide +kernel
theorem dX1_moveEntry_10 : decode cX1_moveEntry 10 = .ok (.aload_n 0, 1) := by decide +kernel
theorem dX1_moveEntry_11 : decode cX1_moveEntry 11 = .ok (.iload_n 1, 1) := by decide +kernel
theorem dX1_moveEntry_12 : decode cX1_moveEntry 12 = .ok (.iload_n 2, 1) := by decide +kernel
theorem dX1_moveEntry_13 : decode cX1_moveEntry 13 = .ok (.invokevirtual 96, 3) := by decide +kernel
theorem dX1_moveEntry_16 : decode cX1_moveEntry 16 = .ok (.invokevirtual 106, 3) := by decide +kernel
theorem dX1_moveEntry_19 : decode cX1_moveEntry 19 = .ok (.return_, 1) := by decide +kernel
set_option maxRecDepth 20000 in
theorem ggX1_insertEntry_X1_sizeOf : GoodIn wsX1_insertEntry wsX1_sizeOf := goodIn_r _ [6, 1, 28, 29, 30, 31, 32, 33, 34, 35, 36] (by decide +kernel) (by decide +kernel)
set_option maxRecDepth 20000 in
theorem gX1_insertEntry_X1_sizeOf : GoodIn wsX1_insertEntry (wsV RX1 75 RX1 yX1_sizeOf wsX1_sizeOf) := goodIn_app (goodIn_of _ (by decide +kernel)) ggX1_insertEntry_X1_sizeOf
set_option maxRecDepth 20000 in
theorem ggX1_insertEntry_X1_keyAt : GoodIn wsX1_insertEntry wsX1_keyAt := goodIn_r _ [10, 11, 28, 29, 30, 31, 32, 33, 34, 35, 36] (by decide +kernel) (by decide +kernel)
set_option maxRecDepth 20000 in
theorem gX1_insertEntry_X1_keyAt : GoodIn wsX1_insertEntry (wsV RX1 87 RX1 yX1_keyAt wsX1_keyAt) := goodIn_app (goodIn_of _ (by decide +kernel)) ggX1_insertEntry_X1_keyAt
set_option maxRecDepth 20000 in
theorem ggX1_insertEntry_X1_moveEntry : GoodIn wsX1_insertEntry wsX1_moveEntry := goodIn_r _ [15, 7, 8, 9, 5, 10, 11, 16, 17, 18, 19, 20, 21, 22, 23, 24, 28, 29, 30, 31, 32, 33, 34, 35, 36] (by decide +kernel) (by decide +kernel)
set_option maxRecDepth 20000 in
theorem gX1_insertEntry_X1_moveEntry : GoodIn wsX1_insertEntry (wsV RX1 110 RX1 yX1_moveEntry wsX1_moveEntry) := goodIn_app (goodIn_of _ (by decide +kernel)) ggX1_insertEntry_X1_moveEntry
set_option maxRecDepth 20000 in
theorem ggX1_insertEntry_X1_setEntry : GoodIn wsX1_insertEntry wsX1_setEntry := goodIn_r _ [24, 11, 20, 28, 29, 30, 31, 32, 33, 34, 35, 36] (by decide +kernel) (by decide +kernel)
set_option maxRecDepth 20000 in
theorem gX1_insertEntry_X1_setEntry : GoodIn wsX1_insertEntry (wsV RX1 106 RX1 yX1_setEntry wsX1_setEntry) := goodIn_app (goodIn_of _ (by decide +kernel)) ggX1_insertEntry_X1_setEntry
set_option maxRecDepth 20000 in
theorem ggX1_insertEntry_X6_setCell : GoodIn wsX1_insertEntry wsX6_setCell := goodIn_r _ [27] (by decide +kernel) (by decide +kernel)
set_option maxRecDepth 20000 in
theorem gX1_insertEntry_X6_setCell_n63 : GoodIn wsX1_insertEntry (wsX6_setCell) := ggX1_insertEntry_X6_setCell
theorem dX1_insertEntry_0 : decode cX1_insertEntry 0 = .ok (.aload_n 0, 1) := by decide +kernel
theorem dX1_insertEntry_1 : decode cX1_insertEntry 1 = .ok (.iload_n 1, 1) := by decide +kernel
theorem dX1_insertEntry_2 : decode cX1_insertEntry 2 = .ok (.invokevirtual 75, 3) := by decide +kernel
theorem dX1_insertEntry_5 : decode cX1_insertEntry 5 = .ok (.istore 4, 2) := by decide +kernel
theorem dX1_insertEntry_7 : decode cX1_insertEntry 7 = .ok (.iload 4, 2) := by decide +kernel
theorem dX1_insertEntry_9 : decode cX1_insertEntry 9 = .ok (.istore 5, 2) := by decide +kernel
theorem dX1_insertEntry_11 : decode cX1_insertEntry 11 = .ok (.iload 5, 2) := by decide +kernel
theorem dX1_insertEntry_13 : decode cX1_insertEntry 13 = .ok (.ifCond .le 34, 3) := by decide +kernel
theorem dX1_insertEntry_16 : decode cX1_insertEntry 16 = .ok (.aload_n 0, 1) := by decide +kernel
theorem dX1_insertEntry_17 : decode cX1_insertEntry 17 = .ok (.iload_n 1, 1) := by decide +kernel
theorem dX1_insertEntry_18 : decode cX1_insertEntry 18 = .ok (.iload 5, 2) := by decide +kernel
theorem dX1_insertEntry_20 : decode cX1_insertEntry 20 = .ok (.iconst 1, 1) := by decide +kernel
theorem dX1_insertEntry_21 : decode cX1_insertEntry 21 = .ok (.isub, 1) := by decide +kernel
theorem dX1_insertEntry_22 : decode cX1_insertEntry 22 = .ok (.invokevirtual 87, 3) := by decide +kernel
theorem dX1_insertEntry_25 : decode cX1_insertEntry 25 = .ok (.iload_n 2, 1) := by decide +kernel
theorem dX1_insertEntry_26 : decode cX1_insertEntry 26 = .ok (.if_icmp .le 21, 3) := by decide +kernel
theorem dX1_insertEntry_29 : decode cX1_insertEntry 29 = .ok (.aload_n 0, 1) := by decide +kernel
theorem dX1_insertEntry_30 : decode cX1_insertEntry 30 = .ok (.iload_n 1, 1) := by decide +kernel
theorem dX1_insertEntry_31 : decode cX1_insertEntry 31 = .ok (.iload 5, 2) := by decide +kernel
theorem dX1_insertEntry_33 : decode cX1_insertEntry 33 = .ok (.iconst 1, 1) := by decide +kernel
theorem dX1_insertEntry_34 : decode cX1_insertEntry 34 = .ok (.isub, 1) := by decide +kernel
theorem dX1_insertEntry_35 : decode cX1_insertEntry 35 = .ok (.iload_n 1, 1) := by decide +kernel
theorem dX1_insertEntry_36 : decode cX1_insertEntry 36 = .ok (.iload 5, 2) := by decide +kernel
theorem dX1_insertEntry_38 : decode cX1_insertEntry 38 = .ok (.invokevirtual 110, 3) := by decide +kernel
theorem dX1_insertEntry_41 : decode cX1_insertEntry 41 = .ok (.iinc 5 (-1), 3) := by decide +kernel
theorem dX1_insertEntry_44 : decode cX1_insertEntry 44 = .ok (.goto (-33), 3) := by decide +kernel
theorem dX1_insertEntry_47 : decode cX1_insertEntry 47 = .ok (.aload_n 0, 1) := by decide +kernel
theorem dX1_insertEntry_48 : decode cX1_insertEntry 48 = .ok (.iload_n 1, 1) := by decide +kernel
theorem dX1_insertEntry_49 : decode cX1_insertEntry 49 = .ok (.iload 5, 2) := by decide +kernel
theorem dX1_insertEntry_51 : decode cX1_insertEntry 51 = .ok (.iload_n 2, 1) := by decide +kernel
theorem dX1_insertEntry_52 : decode cX1_insertEntry 52 = .ok (.iload_n 3, 1) := by decide +kernel
theorem dX1_insertEntry_53 : decode cX1_insertEntry 53 = .ok (.invokevirtual 106, 3) := by decide +kernel
theorem dX1_insertEntry_56 : decode cX1_insertEntry 56 = .ok (.aload_n 0, 1) := by decide +kernel
theorem dX1_insertEntry_57 : decode cX1_insertEntry 57 = .ok (.getfield 18, 3) := by decide +kernel
theorem dX1_insertEntry_60 : decode cX1_insertEntry 60 = .ok (.iload_n 1, 1) := by decide +kernel
theorem dX1_insertEntry_61 : decode cX1_insertEntry 61 = .ok (.iload 4, 2) := by decide +kernel
theorem dX1_insertEntry_63 : decode cX1_insertEntry 63 = .ok (.iconst 1, 1) := by decide +kernel
theorem dX1_insertEntry_64 : decode cX1_insertEntry 64 = .ok (.iadd, 1) := by decide +kernel
theorem dX1_insertEntry_65 : decode cX1_insertEntry 65 = .ok (.invokestatic 63, 3) := by decide +kernel
theorem dX1_insertEntry_68 : decode cX1_insertEntry 68 = .ok (.return_, 1) := by decide +kernel
set_option maxRecDepth 20000 in
theorem ggX1_cutEntry_X1_sizeOf : GoodIn wsX1_cutEntry wsX1_sizeOf := goodIn_r _ [6, 1, 28, 29, 30, 31, 32, 33, 34, 35, 36] (by decide +kernel) (by decide +kernel)
set_option maxRecDepth 20000 in
theorem gX1_cutEntry_X1_sizeOf : GoodIn wsX1_cutEntry (wsV RX1 75 RX1 yX1_sizeOf wsX1_sizeOf) := goodIn_app (goodIn_of _ (by decide +kernel)) ggX1_cutEntry_X1_sizeOf
set_option maxRecDepth 20000 in
theorem ggX1_cutEntry_X1_moveEntry : GoodIn wsX1_cutEntry wsX1_moveEntry := goodIn_r _ [10, 11, 12, 13, 5, 14, 15, 16, 17, 18, 19, 20, 21, 22, 23, 24, 28, 29, 30, 31, 32, 33, 34, 35, 36] (by decide +kernel) (by decide +kernel)
set_option maxRecDepth 20000 in
theorem gX1_cutEntry_X1_moveEntry : GoodIn wsX1_cutEntry (wsV RX1 110 RX1 yX1_moveEntry wsX1_moveEntry) := goodIn_app (goodIn_of _ (by decide +kernel)) ggX1_cutEntry_X1_moveEntry
set_option maxRecDepth 20000 in
theorem ggX1_cutEntry_X6_setCell : GoodIn wsX1_cutEntry wsX6_setCell := goodIn_r _ [27] (by decide +kernel) (by decide +kernel)
set_option maxRecDepth 20000 in
theorem gX1_cutEntry_X6_setCell_n63 : GoodIn wsX1_cutEntry (wsX6_setCell) := ggX1_cutEntry_X6_setCell
theorem dX1_cutEntry_0 : decode cX1_cutEntry 0 = .ok (.aload_n 0, 1) := by decide +kernel
theorem dX1_cutEntry_1 : decode cX1_cutEntry 1 = .ok (.iload_n 1, 1) := by decide +kernel
theorem dX1_cutEntry_2 : decode cX1_cutEntry 2 = .ok (.invokevirtual 75, 3) := by decide +kernel
theorem dX1_cutEntry_5 : decode cX1_cutEntry 5 = .ok (.istore_n 3, 1) := by decide +kernel
theorem dX1_cutEntry_6 : decode cX1_cutEntry 6 = .ok (.iload_n 2, 1) := by decide +kernel
theorem dX1_cutEntry_7 : decode cX1_cutEntry 7 = .ok (.istore 4, 2) := by decide +kernel
theorem dX1_cutEntry_9 : decode cX1_cutEntry 9 = .ok (.iload 4, 2) := by decide +kernel
theorem dX1_cutEntry_11 : decode cX1_cutEntry 11 = .ok (.iload_n 3, 1) := by decide +kernel
theorem dX1_cutEntry_12 : decode cX1_cutEntry 12 = .ok (.iconst 1, 1) := by decide +kernel
theorem dX1_cutEntry_13 : decode cX1_cutEntry 13 = .ok (.isub, 1) := by decide +kernel
theorem dX1_cutEntry_14 : decode cX1_cutEntry 14 = .ok (.if_icmp .ge 21, 3) := by decide +kernel
theorem dX1_cutEntry_17 : decode cX1_cutEntry 17 = .ok (.aload_n 0, 1) := by decide +kernel
theorem dX1_cutEntry_18 : decode cX1_cutEntry 18 = .ok (.iload_n 1, 1) := by decide +kernel
theorem dX1_cutEntry_19 : decode cX1_cutEntry 19 = .ok (.iload 4, 2) := by decide +kernel
theorem dX1_cutEntry_21 : decode cX1_cutEntry 21 = .ok (.iconst 1, 1) := by decide +kernel
theorem dX1_cutEntry_22 : decode cX1_cutEntry 22 = .ok (.iadd, 1) := by decide +kernel
theorem dX1_cutEntry_23 : decode cX1_cutEntry 23 = .ok (.iload_n 1, 1) := by decide +kernel
theorem dX1_cutEntry_24 : decode cX1_cutEntry 24 = .ok (.iload 4, 2) := by decide +kernel
theorem dX1_cutEntry_26 : decode cX1_cutEntry 26 = .ok (.invokevirtual 110, 3) := by decide +kernel
theorem dX1_cutEntry_29 : decode cX1_cutEntry 29 = .ok (.iinc 4 1, 3) := by decide +kernel
theorem dX1_cutEntry_32 : decode cX1_cutEntry 32 = .ok (.goto (-23), 3) := by decide +kernel
theorem dX1_cutEntry_35 : decode cX1_cutEntry 35 = .ok (.aload_n 0, 1) := by decide +kernel
theorem dX1_cutEntry_36 : decode cX1_cutEntry 36 = .ok (.getfield 18, 3) := by decide +kernel
theorem dX1_cutEntry_39 : decode cX1_cutEntry 39 = .ok (.iload_n 1, 1) := by decide +kernel
theorem dX1_cutEntry_40 : decode cX1_cutEntry 40 = .ok (.iload_n 3, 1) := by decide +kernel
theorem dX1_cutEntry_41 : decode cX1_cutEntry 41 = .ok (.iconst 1, 1) := by decide +kernel
theorem dX1_cutEntry_42 : decode cX1_cutEntry 42 = .ok (.isub, 1) := by decide +kernel
theorem dX1_cutEntry_43 : decode cX1_cutEntry 43 = .ok (.invokestatic 63, 3) := by decide +kernel
theorem dX1_cutEntry_46 : decode cX1_cutEntry 46 = .ok (.return_, 1) := by decide +kernel
set_option maxRecDepth 20000 in
theorem ggX1_copyLeaf_X1_sizeOf : GoodIn wsX1_copyLeaf wsX1_sizeOf := goodIn_r _ [6, 1, 28, 29, 30, 31, 32, 33, 34, 35, 36] (by decide +kernel) (by decide +kernel)
set_option maxRecDepth 20000 in
theorem gX1_copyLeaf_X1_sizeOf : GoodIn wsX1_copyLeaf (wsV RX1 75 RX1 yX1_sizeOf wsX1_sizeOf) := goodIn_app (goodIn_of _ (by decide +kernel)) ggX1_copyLeaf_X1_sizeOf
set_option maxRecDepth 20000 in
theorem ggX1_copyLeaf_X1_moveEntry : GoodIn wsX1_copyLeaf wsX1_moveEntry := goodIn_r _ [10, 11, 12, 13, 5, 14, 15, 16, 17, 18, 19, 20, 21, 22, 23, 24, 28, 29, 30, 31, 32, 33, 34, 35, 36] (by decide +kernel) (by decide +kernel)
set_option maxRecDepth 20000 in
theorem gX1_copyLeaf_X1_moveEntry : GoodIn wsX1_copyLeaf (wsV RX1 110 RX1 yX1_moveEntry wsX1_moveEntry) := goodIn_app (goodIn_of _ (by decide +kernel)) ggX1_copyLeaf_X1_moveEntry
set_option maxRecDepth 20000 in
theorem ggX1_copyLeaf_X6_setCell : GoodIn wsX1_copyLeaf wsX6_setCell := goodIn_r _ [27] (by decide +kernel) (by decide +kernel)
set_option maxRecDepth 20000 in
theorem gX1_copyLeaf_X6_setCell_n63 : GoodIn wsX1_copyLeaf (wsX6_setCell) := ggX1_copyLeaf_X6_setCell
theorem dX1_copyLeaf_0 : decode cX1_copyLeaf 0 = .ok (.aload_n 0, 1) := by decide +kernel
theorem dX1_copyLeaf_1 : decode cX1_copyLeaf 1 = .ok (.iload_n 1, 1) := by decide +kernel
theorem dX1_copyLeaf_2 : decode cX1_copyLeaf 2 = .ok (.invokevirtual 75, 3) := by decide +kernel
theorem dX1_copyLeaf_5 : decode cX1_copyLeaf 5 = .ok (.istore_n 3, 1) := by decide +kernel
theorem dX1_copyLeaf_6 : decode cX1_copyLeaf 6 = .ok (.iconst 0, 1) := by decide +kernel
theorem dX1_copyLeaf_7 : decode cX1_copyLeaf 7 = .ok (.istore 4, 2) := by decide +kernel
theorem dX1_copyLeaf_9 : decode cX1_copyLeaf 9 = .ok (.iload 4, 2) := by decide +kernel
theorem dX1_copyLeaf_11 : decode cX1_copyLeaf 11 = .ok (.iload_n 3, 1) := by decide +kernel
theorem dX1_copyLeaf_12 : decode cX1_copyLeaf 12 = .ok (.if_icmp .ge 19, 3) := by decide +kernel
theorem dX1_copyLeaf_15 : decode cX1_copyLeaf 15 = .ok (.aload_n 0, 1) := by decide +kernel
theorem dX1_copyLeaf_16 : decode cX1_copyLeaf 16 = .ok (.iload_n 1, 1) := by decide +kernel
theorem dX1_copyLeaf_17 : decode cX1_copyLeaf 17 = .ok (.iload 4, 2) := by decide +kernel
theorem dX1_copyLeaf_19 : decode cX1_copyLeaf 19 = .ok (.iload_n 2, 1) := by decide +kernel
theorem dX1_copyLeaf_20 : decode cX1_copyLeaf 20 = .ok (.iload 4, 2) := by decide +kernel
theorem dX1_copyLeaf_22 : decode cX1_copyLeaf 22 = .ok (.invokevirtual 110, 3) := by decide +kernel
theorem dX1_copyLeaf_25 : decode cX1_copyLeaf 25 = .ok (.iinc 4 1, 3) := by decide +kernel
theorem dX1_copyLeaf_28 : decode cX1_copyLeaf 28 = .ok (.goto (-19), 3) := by decide +kernel
theorem dX1_copyLeaf_31 : decode cX1_copyLeaf 31 = .ok (.aload_n 0, 1) := by decide +kernel
theorem dX1_copyLeaf_32 : decode cX1_copyLeaf 32 = .ok (.getfield 18, 3) := by decide +kernel
theorem dX1_copyLeaf_35 : decode cX1_copyLeaf 35 = .ok (.iload_n 2, 1) := by decide +kernel
theorem dX1_copyLeaf_36 : decode cX1_copyLeaf 36 = .ok (.iload_n 3, 1) := by decide +kernel
theorem dX1_copyLeaf_37 : decode cX1_copyLeaf 37 = .ok (.invokestatic 63, 3) := by decide +kernel
theorem dX1_copyLeaf_40 : decode cX1_copyLeaf 40 = .ok (.return_, 1) := by decide +kernel
set_option maxRecDepth 20000 in
theorem ggX1_splitLeaf_X1_sizeOf : GoodIn wsX1_splitLeaf wsX1_sizeOf := goodIn_r _ [6, 1, 28, 29, 30, 31, 32, 33, 34, 35, 36] (by decide +kernel) (by decide +kernel)
set_option maxRecDepth 20000 in
theorem gX1_splitLeaf_X1_sizeOf : GoodIn wsX1_splitLeaf (wsV RX1 75 RX1 yX1_sizeOf wsX1_sizeOf) := goodIn_app (goodIn_of _ (by decide +kernel)) ggX1_splitLeaf_X1_sizeOf
set_option maxRecDepth 20000 in
theorem ggX1_splitLeaf_X1_moveEntry : GoodIn wsX1_splitLeaf wsX1_moveEntry := goodIn_r _ [10, 11, 12, 13, 5, 14, 15, 16, 17, 18, 19, 20, 21, 22, 23, 24, 28, 29, 30, 31, 32, 33, 34, 35, 36] (by decide +kernel) (by decide +kernel)
set_option maxRecDepth 20000 in
theorem gX1_splitLeaf_X1_moveEntry : GoodIn wsX1_splitLeaf (wsV RX1 110 RX1 yX1_moveEntry wsX1_moveEntry) := goodIn_app (goodIn_of _ (by decide +kernel)) ggX1_splitLeaf_X1_moveEntry
set_option maxRecDepth 20000 in
theorem ggX1_splitLeaf_X6_setCell : GoodIn wsX1_splitLeaf wsX6_setCell := goodIn_r _ [27] (by decide +kernel) (by decide +kernel)
set_option maxRecDepth 20000 in
theorem gX1_splitLeaf_X6_setCell_n63 : GoodIn wsX1_splitLeaf (wsX6_setCell) := ggX1_splitLeaf_X6_setCell
theorem dX1_splitLeaf_0 : decode cX1_splitLeaf 0 = .ok (.aload_n 0, 1) := by decide +kernel
theorem dX1_splitLeaf_1 : decode cX1_splitLeaf 1 = .ok (.iload_n 1, 1) := by decide +kernel
theorem dX1_splitLeaf_2 : decode cX1_splitLeaf 2 = .ok (.invokevirtual 75, 3) := by decide +kernel
theorem dX1_splitLeaf_5 : decode cX1_splitLeaf 5 = .ok (.iconst 2, 1) := by decide +kernel
theorem dX1_splitLeaf_6 : decode cX1_splitLeaf 6 = .ok (.isub, 1) := by decide +kernel
theorem dX1_splitLeaf_7 : decode cX1_splitLeaf 7 = .ok (.istore_n 3, 1) := by decide +kernel
theorem dX1_splitLeaf_8 : decode cX1_splitLeaf 8 = .ok (.iconst 0, 1) := by decide +kernel
theorem dX1_splitLeaf_9 : decode cX1_splitLeaf 9 = .ok (.istore 4, 2) := by decide +kernel
theorem dX1_splitLeaf_11 : decode cX1_splitLeaf 11 = .ok (.iload 4, 2) := by decide +kernel
theorem dX1_splitLeaf_13 : decode cX1_splitLeaf 13 = .ok (.iconst 2, 1) := by decide +kernel
theorem dX1_splitLeaf_14 : decode cX1_splitLeaf 14 = .ok (.if_icmp .ge 21, 3) := by decide +kernel
theorem dX1_splitLeaf_17 : decode cX1_splitLeaf 17 = .ok (.aload_n 0, 1) := by decide +kernel
theorem dX1_splitLeaf_18 : decode cX1_splitLeaf 18 = .ok (.iload_n 1, 1) := by decide +kernel
theorem dX1_splitLeaf_19 : decode cX1_splitLeaf 19 = .ok (.iload_n 3, 1) := by decide +kernel
theorem dX1_splitLeaf_20 : decode cX1_splitLeaf 20 = .ok (.iload 4, 2) := by decide +kernel
theorem dX1_splitLeaf_22 : decode cX1_splitLeaf 22 = .ok (.iadd, 1) := by decide +kernel
theorem dX1_splitLeaf_23 : decode cX1_splitLeaf 23 = .ok (.iload_n 2, 1) := by decide +kernel
theorem dX1_splitLeaf_24 : decode cX1_splitLeaf 24 = .ok (.iload 4, 2) := by decide +kernel
theorem dX1_splitLeaf_26 : decode cX1_splitLeaf 26 = .ok (.invokevirtual 110, 3) := by decide +kernel
theorem dX1_splitLeaf_29 : decode cX1_splitLeaf 29 = .ok (.iinc 4 1, 3) := by decide +kernel
theorem dX1_splitLeaf_32 : decode cX1_splitLeaf 32 = .ok (.goto (-21), 3) := by decide +kernel
theorem dX1_splitLeaf_35 : decode cX1_splitLeaf 35 = .ok (.aload_n 0, 1) := by decide +kernel
theorem dX1_splitLeaf_36 : decode cX1_splitLeaf 36 = .ok (.getfield 18, 3) := by decide +kernel
theorem dX1_splitLeaf_39 : decode cX1_splitLeaf 39 = .ok (.iload_n 1, 1) := by decide +kernel
theorem dX1_splitLeaf_40 : decode cX1_splitLeaf 40 = .ok (.iload_n 3, 1) := by decide +kernel
theorem dX1_splitLeaf_41 : decode cX1_splitLeaf 41 = .ok (.invokestatic 63, 3) := by decide +kernel
theorem dX1_splitLeaf_44 : decode cX1_splitLeaf 44 = .ok (.aload_n 0, 1) := by decide +kernel
theorem dX1_splitLeaf_45 : decode cX1_splitLeaf 45 = .ok (.getfield 18, 3) := by decide +kernel
theorem dX1_splitLeaf_48 : decode cX1_splitLeaf 48 = .ok (.iload_n 2, 1) := by decide +kernel
theorem dX1_splitLeaf_49 : decode cX1_splitLeaf 49 = .ok (.iconst 2, 1) := by decide +kernel
theorem dX1_splitLeaf_50 : decode cX1_splitLeaf 50 = .ok (.invokestatic 63, 3) := by decide +kernel
theorem dX1_splitLeaf_53 : decode cX1_splitLeaf 53 = .ok (.return_, 1) := by decide +kernel
theorem dX3_init_0 : decode cX3_init 0 = .ok (.aload_n 0, 1) := by decide +kernel
theorem dX3_init_1 : decode cX3_init 1 = .ok (.invokespecial 3, 3) := by decide +kernel
theorem dX3_init_4 : decode cX3_init 4 = .ok (.aload_n 0, 1) := by decide +kernel
theorem dX3_init_5 : decode cX3_init 5 = .ok (.sipush 150, 3) := by decide +kernel
theorem dX3_init_8 : decode cX3_init 8 = .ok (.newarray .int, 2) := by decide +kernel
theorem dX3_init_10 : decode cX3_init 10 = .ok (.putfield 9, 3) := by decide +kernel
theorem dX3_init_13 : decode cX3_init 13 = .ok (.aload_n 0, 1) := by decide +kernel
theorem dX3_init_14 : decode cX3_init 14 = .ok (.iconst 0, 1) := by decide +kernel
theorem dX3_init_15 : decode cX3_init 15 = .ok (.putfield 15, 3) := by decide +kernel
theorem dX3_init_18 : decode cX3_init 18 = .ok (.aload_n 0, 1) := by decide +kernel
theorem dX3_init_19 : decode cX3_init 19 = .ok (.iconst 0, 1) := by decide +kernel
theorem dX3_init_20 : decode cX3_init 20 = .ok (.putfield 19, 3) := by decide +kernel
theorem dX3_init_23 : decode cX3_init 23 = .ok (.aload_n 0, 1) := by decide +kernel
theorem dX3_init_24 : decode cX3_init 24 = .ok (.sipush (-1000), 3) := by decide +kernel
theorem dX3_init_27 : decode cX3_init 27 = .ok (.putfield 22, 3) := by decide +kernel
theorem dX3_init_30 : decode cX3_init 30 = .ok (.aload_n 0, 1) := by decide +kernel
theorem dX3_init_31 : decode cX3_init 31 = .ok (.aconst_null, 1) := by decide +kernel
theorem dX3_init_32 : decode cX3_init 32 = .ok (.putfield 25, 3) := by decide +kernel
theorem dX3_init_35 : decode cX3_init 35 = .ok (.aload_n 0, 1) := by decide +kernel
theorem dX3_init_36 : decode cX3_init 36 = .ok (.iconst 0, 1) := by decide +kernel
theorem dX3_init_37 : decode cX3_init 37 = .ok (.putfield 29, 3) := by decide +kernel
theorem dX3_init_40 : decode cX3_init 40 = .ok (.aload_n 0, 1) := by decide +kernel
theorem dX3_init_41 : decode cX3_init 41 = .ok (.iconst 0, 1) := by decide +kernel
theorem dX3_init_42 : decode cX3_init 42 = .ok (.putfield 32, 3) := by decide +kernel
theorem dX3_init_45 : decode cX3_init 45 = .ok (.return_, 1) := by decide +kernel
set_option maxRecDepth 20000 in
theorem ggX4_init_X1_init : GoodIn wsX4_init wsX1_init := goodIn_r _ [20, 21, 2, 3, 8, 22, 23, 24, 25, 26, 27, 28, 29, 30, 31, 32, 33, 44, 45, 46, 47, 48, 49, 50, 51, 52] (by decide +kernel) (by decide +kernel)
set_option maxRecDepth 20000 in
theorem gX4_init_X1_init : GoodIn wsX4_init (wsX1_init) := ggX4_init_X1_init
set_option maxRecDepth 20000 in
theorem ggX4_init_X6_fillRow : GoodIn wsX4_init wsX6_fillRow := goodIn_r _ [33] (by decide +kernel) (by decide +kernel)
set_option maxRecDepth 20000 in
theorem gX4_init_X6_fillRow_n48 : GoodIn wsX4_init (wsX6_fillRow) := ggX4_init_X6_fillRow
set_option maxRecDepth 20000 in
theorem ggX4_init_X1_useFresh : GoodIn wsX4_init wsX1_useFresh := goodIn_r _ [37, 22, 23, 24, 25, 26, 38, 32, 39, 44, 45, 46, 47, 48, 49, 50, 51, 52] (by decide +kernel) (by decide +kernel)
set_option maxRecDepth 20000 in
theorem gX4_init_X1_useFresh : GoodIn wsX4_init (wsV RX4 52 RX1 yX1_useFresh wsX1_useFresh) := goodIn_app (goodIn_of _ (by decide +kernel)) ggX4_init_X1_useFresh
set_option maxRecDepth 20000 in
theorem ggX4_init_X1_keepFresh : GoodIn wsX4_init wsX1_keepFresh := goodIn_r _ [43, 26, 31, 32, 33, 44, 45, 46, 47, 48, 49, 50, 51, 52] (by decide +kernel) (by decide +kernel)
set_option maxRecDepth 20000 in
theorem gX4_init_X1_keepFresh : GoodIn wsX4_init (wsV RX4 56 RX1 yX1_keepFresh wsX1_keepFresh) := goodIn_app (goodIn_of _ (by decide +kernel)) ggX4_init_X1_keepFresh
set_option maxRecDepth 20000 in
theorem ggX4_init_X6_setCell : GoodIn wsX4_init wsX6_setCell := goodIn_r _ [39] (by decide +kernel) (by decide +kernel)
set_option maxRecDepth 20000 in
theorem gX4_init_X6_setCell_n59 : GoodIn wsX4_init (wsX6_setCell) := ggX4_init_X6_setCell
theorem dX4_init_0 : decode cX4_init 0 = .ok (.aload_n 0, 1) := by decide +kernel
theorem dX4_init_1 : decode cX4_init 1 = .ok (.invokespecial 3, 3) := by decide +kernel
theorem dX4_init_4 : decode cX4_init 4 = .ok (.aload_n 0, 1) := by decide +kernel
theorem dX4_init_5 : decode cX4_init 5 = .ok (.new 9, 3) := by decide +kernel
theorem dX4_init_8 : decode cX4_init 8 = .ok (.dup, 1) := by decide +kernel
theorem dX4_init_9 : decode cX4_init 9 = .ok (.invokespecial 11, 3) := by decide +kernel
theorem dX4_init_12 : decode cX4_init 12 = .ok (.putfield 12, 3) := by decide +kernel
theorem dX4_init_15 : decode cX4_init 15 = .ok (.aload_n 0, 1) := by decide +kernel
theorem dX4_init_16 : decode cX4_init 16 = .ok (.iconst 2, 1) := by decide +kernel
theorem dX4_init_17 : decode cX4_init 17 = .ok (.newarray .int, 2) := by decide +kernel
theorem dX4_init_19 : decode cX4_init 19 = .ok (.putfield 18, 3) := by decide +kernel
theorem dX4_init_22 : decode cX4_init 22 = .ok (.aload_n 0, 1) := by decide +kernel
theorem dX4_init_23 : decode cX4_init 23 = .ok (.iconst 2, 1) := by decide +kernel
theorem dX4_init_24 : decode cX4_init 24 = .ok (.newarray .int, 2) := by decide +kernel
theorem dX4_init_26 : decode cX4_init 26 = .ok (.putfield 22, 3) := by decide +kernel
theorem dX4_init_29 : decode cX4_init 29 = .ok (.aload_n 0, 1) := by decide +kernel
theorem dX4_init_30 : decode cX4_init 30 = .ok (.iconst 2, 1) := by decide +kernel
theorem dX4_init_31 : decode cX4_init 31 = .ok (.newarray .int, 2) := by decide +kernel
theorem dX4_init_33 : decode cX4_init 33 = .ok (.putfield 25, 3) := by decide +kernel
theorem dX4_init_36 : decode cX4_init 36 = .ok (.aload_n 0, 1) := by decide +kernel
theorem dX4_init_37 : decode cX4_init 37 = .ok (.iconst 4, 1) := by decide +kernel
theorem dX4_init_38 : decode cX4_init 38 = .ok (.newarray .int, 2) := by decide +kernel
theorem dX4_init_40 : decode cX4_init 40 = .ok (.putfield 28, 3) := by decide +kernel
theorem dX4_init_43 : decode cX4_init 43 = .ok (.aload_n 0, 1) := by decide +kernel
theorem dX4_init_44 : decode cX4_init 44 = .ok (.iconst 4, 1) := by decide +kernel
theorem dX4_init_45 : decode cX4_init 45 = .ok (.newarray .int, 2) := by decide +kernel
theorem dX4_init_47 : decode cX4_init 47 = .ok (.putfield 31, 3) := by decide +kernel
theorem dX4_init_50 : decode cX4_init 50 = .ok (.aload_n 0, 1) := by decide +kernel
theorem dX4_init_51 : decode cX4_init 51 = .ok (.iconst 0, 1) := by decide +kernel
theorem dX4_init_52 : decode cX4_init 52 = .ok (.putfield 34, 3) := by decide +kernel
theorem dX4_init_55 : decode cX4_init 55 = .ok (.aload_n 0, 1) := by decide +kernel
theorem dX4_init_56 : decode cX4_init 56 = .ok (.sipush (-1000), 3) := by decide +kernel
theorem dX4_init_59 : decode cX4_init 59 = .ok (.putfield 38, 3) := by decide +kernel
theorem dX4_init_62 : decode cX4_init 62 = .ok (.aload_n 0, 1) := by decide +kernel
theorem dX4_init_63 : decode cX4_init 63 = .ok (.iconst 0, 1) := by decide +kernel
theorem dX4_init_64 : decode cX4_init 64 = .ok (.putfield 42, 3) := by decide +kernel
theorem dX4_init_67 : decode cX4_init 67 = .ok (.aload_n 0, 1) := by decide +kernel
theorem dX4_init_68 : decode cX4_init 68 = .ok (.iconst 0, 1) := by decide +kernel
theorem dX4_init_69 : decode cX4_init 69 = .ok (.putfield 45, 3) := by decide +kernel
theorem dX4_init_72 : decode cX4_init 72 = .ok (.aload_n 0, 1) := by decide +kernel
theorem dX4_init_73 : decode cX4_init 73 = .ok (.getfield 28, 3) := by decide +kernel
theorem dX4_init_76 : decode cX4_init 76 = .ok (.sipush (-1000), 3) := by decide +kernel
theorem dX4_init_79 : decode cX4_init 79 = .ok (.invokestatic 48, 3) := by decide +kernel
theorem dX4_init_82 : decode cX4_init 82 = .ok (.aload_n 0, 1) := by decide +kernel
theorem dX4_init_83 : decode cX4_init 83 = .ok (.getfield 31, 3) := by decide +kernel
theorem dX4_init_86 : decode cX4_init 86 = .ok (.sipush (-1000), 3) := by decide +kernel
theorem dX4_init_89 : decode cX4_init 89 = .ok (.invokestatic 48, 3) := by decide +kernel
theorem dX4_init_92 : decode cX4_init 92 = .ok (.aload_n 0, 1) := by decide +kernel
theorem dX4_init_93 : decode cX4_init 93 = .ok (.getfield 12, 3) := by decide +kernel
theorem dX4_init_96 : decode cX4_init 96 = .ok (.iconst 0, 1) := by decide +kernel
theorem dX4_init_97 : decode cX4_init 97 = .ok (.iconst 1, 1) := by decide +kernel
theorem dX4_init_98 : decode cX4_init 98 = .ok (.invokevirtual 52, 3) := by decide +kernel
theorem dX4_init_101 : decode cX4_init 101 = .ok (.aload_n 0, 1) := by decide +kernel
theorem dX4_init_102 : decode cX4_init 102 = .ok (.getfield 12, 3) := by decide +kernel
theorem dX4_init_105 : decode cX4_init 105 = .ok (.invokevirtual 56, 3) := by decide +kernel
theorem dX4_init_108 : decode cX4_init 108 = .ok (.aload_n 0, 1) := by decide +kernel
theorem dX4_init_109 : decode cX4_init 109 = .ok (.getfield 18, 3) := by decide +kernel
theorem dX4_init_112 : decode cX4_init 112 = .ok (.iconst 0, 1) := by decide +kernel
theorem dX4_init_113 : decode cX4_init 113 = .ok (.iconst 1, 1) := by decide +kernel
theorem dX4_init_114 : decode cX4_init 114 = .ok (.invokestatic 59, 3) := by decide +kernel
theorem dX4_init_117 : decode cX4_init 117 = .ok (.aload_n 0, 1) := by decide +kernel
theorem dX4_init_118 : decode cX4_init 118 = .ok (.getfield 25, 3) := by decide +kernel
theorem dX4_init_121 : decode cX4_init 121 = .ok (.iconst 0, 1) := by decide +kernel
theorem dX4_init_122 : decode cX4_init 122 = .ok (.iconst 1, 1) := by decide +kernel
theorem dX4_init_123 : decode cX4_init 123 = .ok (.invokestatic 59, 3) := by decide +kernel
theorem dX4_init_126 : decode cX4_init 126 = .ok (.aload_n 0, 1) := by decide +kernel
theorem dX4_init_127 : decode cX4_init 127 = .ok (.getfield 22, 3) := by decide +kernel
theorem dX4_init_130 : decode cX4_init 130 = .ok (.iconst 1, 1) := by decide +kernel
theorem dX4_init_131 : decode cX4_init 131 = .ok (.sipush (-1000), 3) := by decide +kernel
theorem dX4_init_134 : decode cX4_init 134 = .ok (.invokestatic 59, 3) := by decide +kernel
theorem dX4_init_137 : decode cX4_init 137 = .ok (.return_, 1) := by decide +kernel
set_option maxRecDepth 20000 in
theorem ggX4_copyFrom_X1_copyFrom : GoodIn wsX4_copyFrom wsX1_copyFrom := goodIn_r _ [15, 16, 17, 18, 19, 20, 21, 22, 23, 24, 25, 26, 27, 38, 39, 40, 41, 42, 43, 44, 45, 46] (by decide +kernel) (by decide +kernel)
set_option maxRecDepth 20000 in
theorem gX4_copyFrom_X1_copyFrom : GoodIn wsX4_copyFrom (wsV RX4 63 RX1 yX1_copyFrom wsX1_copyFrom) := goodIn_app (goodIn_of _ (by decide +kernel)) ggX4_copyFrom_X1_copyFrom
set_option maxRecDepth 20000 in
theorem ggX4_copyFrom_X6_copyRow : GoodIn wsX4_copyFrom wsX6_copyRow := goodIn_r _ [27] (by decide +kernel) (by decide +kernel)
set_option maxRecDepth 20000 in
theorem gX4_copyFrom_X6_copyRow_n67 : GoodIn wsX4_copyFrom (wsX6_copyRow) := ggX4_copyFrom_X6_copyRow
theorem dX4_copyFrom_0 : decode cX4_copyFrom 0 = .ok (.aload_n 0, 1) := by decide +kernel
theorem dX4_copyFrom_1 : decode cX4_copyFrom 1 = .ok (.getfield 12, 3) := by decide +kernel
theorem dX4_copyFrom_4 : decode cX4_copyFrom 4 = .ok (.aload_n 1, 1) := by decide +kernel
theorem dX4_copyFrom_5 : decode cX4_copyFrom 5 = .ok (.getfield 12, 3) := by decide +kernel
theorem dX4_copyFrom_8 : decode cX4_copyFrom 8 = .ok (.invokevirtual 63, 3) := by decide +kernel
theorem dX4_copyFrom_11 : decode cX4_copyFrom 11 = .ok (.aload_n 1, 1) := by decide +kernel
theorem dX4_copyFrom_12 : decode cX4_copyFrom 12 = .ok (.getfield 18, 3) := by decide +kernel
theorem dX4_copyFrom_15 : decode cX4_copyFrom 15 = .ok (.aload_n 0, 1) := by decide +kernel
theorem dX4_copyFrom_16 : decode cX4_copyFrom 16 = .ok (.getfield 18, 3) := by decide +kernel
theorem dX4_copyFrom_19 : decode cX4_copyFrom 19 = .ok (.invokestatic 67, 3) := by decide +kernel
theorem dX4_copyFrom_22 : decode cX4_copyFrom 22 = .ok (.aload_n 1, 1) := by decide +kernel
theorem dX4_copyFrom_23 : decode cX4_copyFrom 23 = .ok (.getfield 22, 3) := by decide +kernel
theorem dX4_copyFrom_26 : decode cX4_copyFrom 26 = .ok (.aload_n 0, 1) := by decide +kernel
theorem dX4_copyFrom_27 : decode cX4_copyFrom 27 = .ok (.getfield 22, 3) := by decide +kernel
theorem dX4_copyFrom_30 : decode cX4_copyFrom 30 = .ok (.invokestatic 67, 3) := by decide +kernel
theorem dX4_copyFrom_33 : decode cX4_copyFrom 33 = .ok (.aload_n 1, 1) := by decide +kernel
theorem dX4_copyFrom_34 : decode cX4_copyFrom 34 = .ok (.getfield 25, 3) := by decide +kernel
theorem dX4_copyFrom_37 : decode cX4_copyFrom 37 = .ok (.aload_n 0, 1) := by decide +kernel
theorem dX4_copyFrom_38 : decode cX4_copyFrom 38 = .ok (.getfield 25, 3) := by decide +kernel
theorem dX4_copyFrom_41 : decode cX4_copyFrom 41 = .ok (.invokestatic 67, 3) := by decide +kernel
theorem dX4_copyFrom_44 : decode cX4_copyFrom 44 = .ok (.aload_n 1, 1) := by decide +kernel
theorem dX4_copyFrom_45 : decode cX4_copyFrom 45 = .ok (.getfield 28, 3) := by decide +kernel
theorem dX4_copyFrom_48 : decode cX4_copyFrom 48 = .ok (.aload_n 0, 1) := by decide +kernel
theorem dX4_copyFrom_49 : decode cX4_copyFrom 49 = .ok (.getfield 28, 3) := by decide +kernel
theorem dX4_copyFrom_52 : decode cX4_copyFrom 52 = .ok (.invokestatic 67, 3) := by decide +kernel
theorem dX4_copyFrom_55 : decode cX4_copyFrom 55 = .ok (.aload_n 1, 1) := by decide +kernel
theorem dX4_copyFrom_56 : decode cX4_copyFrom 56 = .ok (.getfield 31, 3) := by decide +kernel
theorem dX4_copyFrom_59 : decode cX4_copyFrom 59 = .ok (.aload_n 0, 1) := by decide +kernel
theorem dX4_copyFrom_60 : decode cX4_copyFrom 60 = .ok (.getfield 31, 3) := by decide +kernel
theorem dX4_copyFrom_63 : decode cX4_copyFrom 63 = .ok (.invokestatic 67, 3) := by decide +kernel
theorem dX4_copyFrom_66 : decode cX4_copyFrom 66 = .ok (.aload_n 0, 1) := by decide +kernel
theorem dX4_copyFrom_67 : decode cX4_copyFrom 67 = .ok (.aload_n 1, 1) := by decide +kernel
theorem dX4_copyFrom_68 : decode cX4_copyFrom 68 = .ok (.getfield 34, 3) := by decide +kernel
theorem dX4_copyFrom_71 : decode cX4_copyFrom 71 = .ok (.putfield 34, 3) := by decide +kernel
theorem dX4_copyFrom_74 : decode cX4_copyFrom 74 = .ok (.aload_n 0, 1) := by decide +kernel
theorem dX4_copyFrom_75 : decode cX4_copyFrom 75 = .ok (.aload_n 1, 1) := by decide +kernel
theorem dX4_copyFrom_76 : decode cX4_copyFrom 76 = .ok (.getfield 38, 3) := by decide +kernel
theorem dX4_copyFrom_79 : decode cX4_copyFrom 79 = .ok (.putfield 38, 3) := by decide +kernel
theorem dX4_copyFrom_82 : decode cX4_copyFrom 82 = .ok (.aload_n 0, 1) := by decide +kernel
theorem dX4_copyFrom_83 : decode cX4_copyFrom 83 = .ok (.aload_n 1, 1) := by decide +kernel
theorem dX4_copyFrom_84 : decode cX4_copyFrom 84 = .ok (.getfield 42, 3) := by decide +kernel
theorem dX4_copyFrom_87 : decode cX4_copyFrom 87 = .ok (.putfield 42, 3) := by decide +kernel
theorem dX4_copyFrom_90 : decode cX4_copyFrom 90 = .ok (.aload_n 0, 1) := by decide +kernel
theorem dX4_copyFrom_91 : decode cX4_copyFrom 91 = .ok (.aload_n 1, 1) := by decide +kernel
theorem dX4_copyFrom_92 : decode cX4_copyFrom 92 = .ok (.getfield 45, 3) := by decide +kernel
theorem dX4_copyFrom_95 : decode cX4_copyFrom 95 = .ok (.putfield 45, 3) := by decide +kernel
theorem dX4_copyFrom_98 : decode cX4_copyFrom 98 = .ok (.return_, 1) := by decide +kernel
theorem dX4_currentRoot_0 : decode cX4_currentRoot 0 = .ok (.iconst 0, 1) := by decide +kernel
theorem dX4_currentRoot_1 : decode cX4_currentRoot 1 = .ok (.istore_n 1, 1) := by decide +kernel
theorem dX4_currentRoot_2 : decode cX4_currentRoot 2 = .ok (.sipush (-1000), 3) := by decide +kernel
theorem dX4_currentRoot_5 : decode cX4_currentRoot 5 = .ok (.istore_n 2, 1) := by decide +kernel
theorem dX4_currentRoot_6 : decode cX4_currentRoot 6 = .ok (.iconst 0, 1) := by decide +kernel
theorem dX4_currentRoot_7 : decode cX4_currentRoot 7 = .ok (.istore_n 3, 1) := by decide +kernel
theorem dX4_currentRoot_8 : decode cX4_currentRoot 8 = .ok (.iload_n 3, 1) := by decide +kernel
theorem dX4_currentRoot_9 : decode cX4_currentRoot 9 = .ok (.iconst 2, 1) := by decide +kernel
theorem dX4_currentRoot_10 : decode cX4_currentRoot 10 = .ok (.if_icmp .ge 38, 3) := by decide +kernel
theorem dX4_currentRoot_13 : decode cX4_currentRoot 13 = .ok (.aload_n 0, 1) := by decide +kernel
theorem dX4_currentRoot_14 : decode cX4_currentRoot 14 = .ok (.getfield 25, 3) := by decide +kernel
theorem dX4_currentRoot_17 : decode cX4_currentRoot 17 = .ok (.iload_n 3, 1) := by decide +kernel
theorem dX4_currentRoot_18 : decode cX4_currentRoot 18 = .ok (.iaload, 1) := by decide +kernel
theorem dX4_currentRoot_19 : decode cX4_currentRoot 19 = .ok (.iconst 1, 1) := by decide +kernel
theorem dX4_currentRoot_20 : decode cX4_currentRoot 20 = .ok (.if_icmp .ne 22, 3) := by decide +kernel
theorem dX4_currentRoot_23 : decode cX4_currentRoot 23 = .ok (.aload_n 0, 1) := by decide +kernel
theorem dX4_currentRoot_24 : decode cX4_currentRoot 24 = .ok (.getfield 18, 3) := by decide +kernel
theorem dX4_currentRoot_27 : decode cX4_currentRoot 27 = .ok (.iload_n 3, 1) := by decide +kernel
theorem dX4_currentRoot_28 : decode cX4_currentRoot 28 = .ok (.iaload, 1) := by decide +kernel
theorem dX4_currentRoot_29 : decode cX4_currentRoot 29 = .ok (.iload_n 2, 1) := by decide +kernel
theorem dX4_currentRoot_30 : decode cX4_currentRoot 30 = .ok (.if_icmp .le 12, 3) := by decide +kernel
theorem dX4_currentRoot_33 : decode cX4_currentRoot 33 = .ok (.iload_n 3, 1) := by decide +kernel
theorem dX4_currentRoot_34 : decode cX4_currentRoot 34 = .ok (.istore_n 1, 1) := by decide +kernel
theorem dX4_currentRoot_35 : decode cX4_currentRoot 35 = .ok (.aload_n 0, 1) := by decide +kernel
theorem dX4_currentRoot_36 : decode cX4_currentRoot 36 = .ok (.getfield 18, 3) := by decide +kernel
theorem dX4_currentRoot_39 : decode cX4_currentRoot 39 = .ok (.iload_n 3, 1) := by decide +kernel
theorem dX4_currentRoot_40 : decode cX4_currentRoot 40 = .ok (.iaload, 1) := by decide +kernel
theorem dX4_currentRoot_41 : decode cX4_currentRoot 41 = .ok (.istore_n 2, 1) := by decide +kernel
theorem dX4_currentRoot_42 : decode cX4_currentRoot 42 = .ok (.iinc 3 1, 3) := by decide +kernel
theorem dX4_currentRoot_45 : decode cX4_currentRoot 45 = .ok (.goto (-37), 3) := by decide +kernel
theorem dX4_currentRoot_48 : decode cX4_currentRoot 48 = .ok (.iload_n 1, 1) := by decide +kernel
theorem dX4_currentRoot_49 : decode cX4_currentRoot 49 = .ok (.ireturn, 1) := by decide +kernel
set_option maxRecDepth 20000 in
theorem ggX4_currentDirectory_X4_currentRoot : GoodIn wsX4_currentDirectory wsX4_currentRoot := goodIn_r _ [6, 7, 8, 12, 13, 14, 15, 16, 17, 18, 19, 20, 21] (by decide +kernel) (by decide +kernel)
set_option maxRecDepth 20000 in
theorem gX4_currentDirectory_X4_currentRoot : GoodIn wsX4_currentDirectory (wsV RX4 71 RX4 yX4_currentRoot wsX4_currentRoot) := goodIn_app (goodIn_of _ (by decide +kernel)) ggX4_currentDirectory_X4_currentRoot
set_option maxRecDepth 20000 in
theorem ggX4_currentDirectory_X6_cell : GoodIn wsX4_currentDirectory wsX6_cell := goodIn_r _ [11] (by decide +kernel) (by decide +kernel)
set_option maxRecDepth 20000 in
theorem gX4_currentDirectory_X6_cell_n75 : GoodIn wsX4_currentDirectory (wsX6_cell) := ggX4_currentDirectory_X6_cell
theorem dX4_currentDirectory_0 : decode cX4_currentDirectory 0 = .ok (.aload_n 0, 1) := by decide +kernel
theorem dX4_currentDirectory_1 : decode cX4_currentDirectory 1 = .ok (.getfield 22, 3) := by decide +kernel
theorem dX4_currentDirectory_4 : decode cX4_currentDirectory 4 = .ok (.aload_n 0, 1) := by decide +kernel
theorem dX4_currentDirectory_5 : decode cX4_currentDirectory 5 = .ok (.invokevirtual 71, 3) := by decide +kernel
theorem dX4_currentDirectory_8 : decode cX4_currentDirectory 8 = .ok (.invokestatic 75, 3) := by decide +kernel
theorem dX4_currentDirectory_11 : decode cX4_currentDirectory 11 = .ok (.ireturn, 1) := by decide +kernel
set_option maxRecDepth 20000 in
theorem ggX4_currentCount_X4_currentRoot : GoodIn wsX4_currentCount wsX4_currentRoot := goodIn_r _ [6, 7, 1, 11, 12, 13, 14, 15, 16, 17, 18, 19, 20] (by decide +kernel) (by decide +kernel)
set_option maxRecDepth 20000 in
theorem gX4_currentCount_X4_currentRoot : GoodIn wsX4_currentCount (wsV RX4 71 RX4 yX4_currentRoot wsX4_currentRoot) := goodIn_app (goodIn_of _ (by decide +kernel)) ggX4_currentCount_X4_currentRoot
set_option maxRecDepth 20000 in
theorem ggX4_currentCount_X6_cell : GoodIn wsX4_currentCount wsX6_cell := goodIn_r _ [10] (by decide +kernel) (by decide +kernel)
set_option maxRecDepth 20000 in
theorem gX4_currentCount_X6_cell_n75 : GoodIn wsX4_currentCount (wsX6_cell) := ggX4_currentCount_X6_cell
theorem dX4_currentCount_0 : decode cX4_currentCount 0 = .ok (.aload_n 0, 1) := by decide +kernel
theorem dX4_currentCount_1 : decode cX4_currentCount 1 = .ok (.getfield 18, 3) := by decide +kernel
theorem dX4_currentCount_4 : decode cX4_currentCount 4 = .ok (.aload_n 0, 1) := by decide +kernel
theorem dX4_currentCount_5 : decode cX4_currentCount 5 = .ok (.invokevirtual 71, 3) := by decide +kernel
theorem dX4_currentCount_8 : decode cX4_currentCount 8 = .ok (.invokestatic 75, 3) := by decide +kernel
theorem dX4_currentCount_11 : decode cX4_currentCount 11 = .ok (.ireturn, 1) := by decide +kernel
set_option maxRecDepth 20000 in
theorem ggX4_neededCount_X4_neededCountBut : GoodIn wsX4_neededCount wsX4_neededCountBut := goodIn_r _ [5, 6, 7, 8, 9, 10, 11, 12, 13, 14, 15, 16, 17, 18, 19, 20, 21, 22, 23] (by decide +kernel) (by decide +kernel)
set_option maxRecDepth 20000 in
theorem gX4_neededCount_X4_neededCountBut : GoodIn wsX4_neededCount (wsV RX4 79 RX4 yX4_neededCountBut wsX4_neededCountBut) := goodIn_app (goodIn_of _ (by decide +kernel)) ggX4_neededCount_X4_neededCountBut
theorem dX4_neededCount_0 : decode cX4_neededCount 0 = .ok (.aload_n 0, 1) := by decide +kernel
theorem dX4_neededCount_1 : decode cX4_neededCount 1 = .ok (.sipush (-1000), 3) := by decide +kernel
theorem dX4_neededCount_4 : decode cX4_neededCount 4 = .ok (.invokevirtual 79, 3) := by decide +kernel
theorem dX4_neededCount_7 : decode cX4_neededCount 7 = .ok (.ireturn, 1) := by decide +kernel
theorem dX4_neededCountBut_0 : decode cX4_neededCountBut 0 = .ok (.ldc 83, 2) := by decide +kernel
theorem dX4_neededCountBut_2 : decode cX4_neededCountBut 2 = .ok (.istore_n 2, 1) := by decide +kernel
theorem dX4_neededCountBut_3 : decode cX4_neededCountBut 3 = .ok (.iconst 0, 1) := by decide +kernel
theorem dX4_neededCountBut_4 : decode cX4_neededCountBut 4 = .ok (.istore_n 3, 1) := by decide +kernel
theorem dX4_neededCountBut_5 : decode cX4_neededCountBut 5 = .ok (.iload_n 3, 1) := by decide +kernel
theorem dX4_neededCountBut_6 : decode cX4_neededCountBut 6 = .ok (.iconst 2, 1) := by decide +kernel
theorem dX4_neededCountBut_7 : decode cX4_neededCountBut 7 = .ok (.if_icmp .ge 30, 3) := by decide +kernel
theorem dX4_neededCountBut_10 : decode cX4_neededCountBut 10 = .ok (.aload_n 0, 1) := by decide +kernel
theorem dX4_neededCountBut_11 : decode cX4_neededCountBut 11 = .ok (.getfield 25, 3) := by decide +kernel
theorem dX4_neededCountBut_14 : decode cX4_neededCountBut 14 = .ok (.iload_n 3, 1) := by decide +kernel
theorem dX4_neededCountBut_15 : decode cX4_neededCountBut 15 = .ok (.iaload, 1) := by decide +kernel
theorem dX4_neededCountBut_16 : decode cX4_neededCountBut 16 = .ok (.iconst 1, 1) := by decide +kernel
theorem dX4_neededCountBut_17 : decode cX4_neededCountBut 17 = .ok (.if_icmp .ne 14, 3) := by decide +kernel
theorem dX4_neededCountBut_20 : decode cX4_neededCountBut 20 = .ok (.iload_n 2, 1) := by decide +kernel
theorem dX4_neededCountBut_21 : decode cX4_neededCountBut 21 = .ok (.aload_n 0, 1) := by decide +kernel
theorem dX4_neededCountBut_22 : decode cX4_neededCountBut 22 = .ok (.getfield 18, 3) := by decide +kernel
theorem dX4_neededCountBut_25 : decode cX4_neededCountBut 25 = .ok (.iload_n 3, 1) := by decide +kernel
theorem dX4_neededCountBut_26 : decode cX4_neededCountBut 26 = .ok (.iaload, 1) := by decide +kernel
theorem dX4_neededCountBut_27 : decode cX4_neededCountBut 27 = .ok (.invokestatic 84, 3) := by decide +kernel
theorem dX4_neededCountBut_30 : decode cX4_neededCountBut 30 = .ok (.istore_n 2, 1) := by decide +kernel
theorem dX4_neededCountBut_31 : decode cX4_neededCountBut 31 = .ok (.iinc 3 1, 3) := by decide +kernel
theorem dX4_neededCountBut_34 : decode cX4_neededCountBut 34 = .ok (.goto (-29), 3) := by decide +kernel
theorem dX4_neededCountBut_37 : decode cX4_neededCountBut 37 = .ok (.iconst 0, 1) := by decide +kernel
theorem dX4_neededCountBut_38 : decode cX4_neededCountBut 38 = .ok (.istore_n 3, 1) := by decide +kernel
theorem dX4_neededCountBut_39 : decode cX4_neededCountBut 39 = .ok (.iload_n 3, 1) := by decide +kernel
theorem dX4_neededCountBut_40 : decode cX4_neededCountBut 40 = .ok (.iconst 4, 1) := by decide +kernel
theorem dX4_neededCountBut_41 : decode cX4_neededCountBut 41 = .ok (.if_icmp .ge 37, 3) := by decide +kernel
theorem dX4_neededCountBut_44 : decode cX4_neededCountBut 44 = .ok (.iload_n 3, 1) := by decide +kernel
theorem dX4_neededCountBut_45 : decode cX4_neededCountBut 45 = .ok (.iload_n 1, 1) := by decide +kernel
theorem dX4_neededCountBut_46 : decode cX4_neededCountBut 46 = .ok (.if_icmp .eq 26, 3) := by decide +kernel
theorem dX4_neededCountBut_49 : decode cX4_neededCountBut 49 = .ok (.aload_n 0, 1) := by decide +kernel
theorem dX4_neededCountBut_50 : decode cX4_neededCountBut 50 = .ok (.getfield 28, 3) := by decide +kernel
theorem dX4_neededCountBut_53 : decode cX4_neededCountBut 53 = .ok (.iload_n 3, 1) := by decide +kernel
theorem dX4_neededCountBut_54 : decode cX4_neededCountBut 54 = .ok (.iaload, 1) := by decide +kernel
theorem dX4_neededCountBut_55 : decode cX4_neededCountBut 55 = .ok (.sipush (-1000), 3) := by decide +kernel
theorem dX4_neededCountBut_58 : decode cX4_neededCountBut 58 = .ok (.if_icmp .eq 14, 3) := by decide +kernel
theorem dX4_neededCountBut_61 : decode cX4_neededCountBut 61 = .ok (.iload_n 2, 1) := by decide +kernel
theorem dX4_neededCountBut_62 : decode cX4_neededCountBut 62 = .ok (.aload_n 0, 1) := by decide +kernel
theorem dX4_neededCountBut_63 : decode cX4_neededCountBut 63 = .ok (.getfield 28, 3) := by decide +kernel
theorem dX4_neededCountBut_66 : decode cX4_neededCountBut 66 = .ok (.iload_n 3, 1) := by decide +kernel
theorem dX4_neededCountBut_67 : decode cX4_neededCountBut 67 = .ok (.iaload, 1) := by decide +kernel
theorem dX4_neededCountBut_68 : decode cX4_neededCountBut 68 = .ok (.invokestatic 84, 3) := by decide +kernel
theorem dX4_neededCountBut_71 : decode cX4_neededCountBut 71 = .ok (.istore_n 2, 1) := by decide +kernel
theorem dX4_neededCountBut_72 : decode cX4_neededCountBut 72 = .ok (.iinc 3 1, 3) := by decide +kernel
theorem dX4_neededCountBut_75 : decode cX4_neededCountBut 75 = .ok (.goto (-36), 3) := by decide +kernel
theorem dX4_neededCountBut_78 : decode cX4_neededCountBut 78 = .ok (.iload_n 2, 1) := by decide +kernel
theorem dX4_neededCountBut_79 : decode cX4_neededCountBut 79 = .ok (.ireturn, 1) := by decide +kernel
theorem dX4_beginFault_0 : decode cX4_beginFault 0 = .ok (.aload_n 0, 1) := by decide +kernel
theorem dX4_beginFault_1 : decode cX4_beginFault 1 = .ok (.getfield 34, 3) := by decide +kernel
theorem dX4_beginFault_4 : decode cX4_beginFault 4 = .ok (.ifCond .eq 7, 3) := by decide +kernel
theorem dX4_beginFault_7 : decode cX4_beginFault 7 = .ok (.iconst 3, 1) := by decide +kernel
theorem dX4_beginFault_8 : decode cX4_beginFault 8 = .ok (.goto 4, 3) := by decide +kernel
theorem dX4_beginFault_11 : decode cX4_beginFault 11 = .ok (.iconst 0, 1) := by decide +kernel
theorem dX4_beginFault_12 : decode cX4_beginFault 12 = .ok (.ireturn, 1) := by decide +kernel
set_option maxRecDepth 20000 in
theorem ggX4_putFault_X6_isBelow : GoodIn wsX4_putFault wsX6_isBelow := goodIn_r _ [4] (by decide +kernel) (by decide +kernel)
set_option maxRecDepth 20000 in
theorem gX4_putFault_X6_isBelow_n90 : GoodIn wsX4_putFault (wsX6_isBelow) := ggX4_putFault_X6_isBelow
set_option maxRecDepth 20000 in
theorem ggX4_putFault_X4_hindranceToPut : GoodIn wsX4_putFault wsX4_hindranceToPut := goodIn_r _ [9, 10, 11, 12, 8, 13, 14, 15, 16, 17, 18, 19, 20, 21, 22, 23, 24, 25, 26, 27, 28, 29, 30, 31, 32, 33, 34, 35, 36, 37, 38, 39, 40, 41, 42, 43, 44, 45, 3, 46, 47, 48, 49, 50, 51, 52, 53, 54, 55, 56, 57, 58, 59, 60, 61, 62, 63, 64, 65, 66, 67, 68, 69, 70, 71, 72, 73, 74, 75, 76, 77, 78, 79, 80, 81, 82, 83, 84, 85, 86, 87, 88, 89, 90, 91, 92, 93, 94, 95, 96, 97, 98, 99, 100, 101, 102, 103, 104, 105] (by decide +kernel) (by decide +kernel)
set_option maxRecDepth 20000 in
theorem gX4_putFault_X4_hindranceToPut : GoodIn wsX4_putFault (wsV RX4 94 RX4 yX4_hindranceToPut wsX4_hindranceToPut) := goodIn_app (goodIn_of _ (by decide +kernel)) ggX4_putFault_X4_hindranceToPut
theorem dX4_putFault_0 : decode cX4_putFault 0 = .ok (.iload_n 1, 1) := by decide +kernel
theorem dX4_putFault_1 : decode cX4_putFault 1 = .ok (.bipush 100, 2) := by decide +kernel
theorem dX4_putFault_3 : decode cX4_putFault 3 = .ok (.invokestatic 90, 3) := by decide +kernel
theorem dX4_putFault_6 : decode cX4_putFault 6 = .ok (.ifCond .eq 17, 3) := by decide +kernel
theorem dX4_putFault_9 : decode cX4_putFault 9 = .ok (.iload_n 2, 1) := by decide +kernel
theorem dX4_putFault_10 : decode cX4_putFault 10 = .ok (.sipush (-999), 3) := by decide +kernel
theorem dX4_putFault_13 : decode cX4_putFault 13 = .ok (.if_icmp .lt 10, 3) := by decide +kernel
theorem dX4_putFault_16 : decode cX4_putFault 16 = .ok (.iload_n 2, 1) := by decide +kernel
theorem dX4_putFault_17 : decode cX4_putFault 17 = .ok (.sipush 999, 3) := by decide +kernel
theorem dX4_putFault_20 : decode cX4_putFault 20 = .ok (.if_icmp .le 5, 3) := by decide +kernel
theorem dX4_putFault_23 : decode cX4_putFault 23 = .ok (.iconst 2, 1) := by decide +kernel
theorem dX4_putFault_24 : decode cX4_putFault 24 = .ok (.ireturn, 1) := by decide +kernel
theorem dX4_putFault_25 : decode cX4_putFault 25 = .ok (.aload_n 0, 1) := by decide +kernel
theorem dX4_putFault_26 : decode cX4_putFault 26 = .ok (.getfield 34, 3) := by decide +kernel
theorem dX4_putFault_29 : decode cX4_putFault 29 = .ok (.ifCond .eq 15, 3) := by decide +kernel
theorem dX4_putFault_32 : decode cX4_putFault 32 = .ok (.aload_n 0, 1) := by decide +kernel
theorem dX4_putFault_33 : decode cX4_putFault 33 = .ok (.iload_n 1, 1) := by decide +kernel
theorem dX4_putFault_34 : decode cX4_putFault 34 = .ok (.invokevirtual 94, 3) := by decide +kernel
theorem dX4_putFault_37 : decode cX4_putFault 37 = .ok (.ifCond .ne 7, 3) := by decide +kernel
theorem dX4_putFault_40 : decode cX4_putFault 40 = .ok (.iconst 0, 1) := by decide +kernel
theorem dX4_putFault_41 : decode cX4_putFault 41 = .ok (.goto 4, 3) := by decide +kernel
theorem dX4_putFault_44 : decode cX4_putFault 44 = .ok (.iconst 3, 1) := by decide +kernel
theorem dX4_putFault_45 : decode cX4_putFault 45 = .ok (.ireturn, 1) := by decide +kernel
set_option maxRecDepth 20000 in
theorem ggX4_removeFault_X6_isBelow : GoodIn wsX4_removeFault wsX6_isBelow := goodIn_r _ [4] (by decide +kernel) (by decide +kernel)
set_option maxRecDepth 20000 in
theorem gX4_removeFault_X6_isBelow_n90 : GoodIn wsX4_removeFault (wsX6_isBelow) := ggX4_removeFault_X6_isBelow
set_option maxRecDepth 20000 in
theorem ggX4_removeFault_X4_draftedValue : GoodIn wsX4_removeFault wsX4_draftedValue := goodIn_r _ [9, 10, 11, 12, 13, 14, 15, 16, 17, 18, 19, 20, 21, 22, 23, 24, 25, 26, 27, 28, 29, 30, 31, 32, 33, 34, 35, 36, 37, 38, 39, 40, 41, 42, 43, 44, 97, 98, 99, 100, 101, 102, 103, 104, 105, 106, 107, 108, 109, 110, 111, 112, 113, 114, 115] (by decide +kernel) (by decide +kernel)
set_option maxRecDepth 20000 in
theorem gX4_removeFault_X4_draftedValue : GoodIn wsX4_removeFault (wsV RX4 97 RX4 yX4_draftedValue wsX4_draftedValue) := goodIn_app (goodIn_of _ (by decide +kernel)) ggX4_removeFault_X4_draftedValue
set_option maxRecDepth 20000 in
theorem ggX4_removeFault_X4_digsToRemove : GoodIn wsX4_removeFault wsX4_digsToRemove := goodIn_r _ [48, 10, 11, 49, 18, 19, 15, 20, 21, 22, 23, 24, 25, 26, 27, 28, 29, 30, 31, 32, 33, 34, 35, 50, 51, 52, 53, 8, 54, 55, 56, 57, 58, 59, 60, 3, 61, 62, 97, 98, 99, 100, 101, 102, 103, 104, 105, 106, 107, 108, 109, 110, 111, 112, 113, 114, 115] (by decide +kernel) (by decide +kernel)
set_option maxRecDepth 20000 in
theorem gX4_removeFault_X4_digsToRemove : GoodIn wsX4_removeFault (wsV RX4 100 RX4 yX4_digsToRemove wsX4_digsToRemove) := goodIn_app (goodIn_of _ (by decide +kernel)) ggX4_removeFault_X4_digsToRemove
set_option maxRecDepth 20000 in
theorem ggX4_removeFault_X4_bedsToDig : GoodIn wsX4_removeFault wsX4_bedsToDig := goodIn_r _ [66, 10, 67, 68, 69, 8, 70, 71, 72, 73, 74, 75, 76, 77, 78, 79, 80, 81, 82, 83, 84, 85, 15, 86, 87, 88, 89, 90, 91, 92, 60, 3, 61, 93, 94, 95, 96, 97, 98, 99, 100, 101, 102, 103, 104, 105, 106, 107, 108, 109, 110, 111, 112, 113, 114, 115] (by decide +kernel) (by decide +kernel)
set_option maxRecDepth 20000 in
theorem gX4_removeFault_X4_bedsToDig : GoodIn wsX4_removeFault (wsV RX4 103 RX4 yX4_bedsToDig wsX4_bedsToDig) := goodIn_app (goodIn_of _ (by decide +kernel)) ggX4_removeFault_X4_bedsToDig
theorem dX4_removeFault_0 : decode cX4_removeFault 0 = .ok (.iload_n 1, 1) := by decide +kernel
theorem dX4_removeFault_1 : decode cX4_removeFault 1 = .ok (.bipush 100, 2) := by decide +kernel
theorem dX4_removeFault_3 : decode cX4_removeFault 3 = .ok (.invokestatic 90, 3) := by decide +kernel
theorem dX4_removeFault_6 : decode cX4_removeFault 6 = .ok (.ifCond .ne 5, 3) := by decide +kernel
theorem dX4_removeFault_9 : decode cX4_removeFault 9 = .ok (.iconst 2, 1) := by decide +kernel
theorem dX4_removeFault_10 : decode cX4_removeFault 10 = .ok (.ireturn, 1) := by decide +kernel
theorem dX4_removeFault_11 : decode cX4_removeFault 11 = .ok (.aload_n 0, 1) := by decide +kernel
theorem dX4_removeFault_12 : decode cX4_removeFault 12 = .ok (.getfield 34, 3) := by decide +kernel
theorem dX4_removeFault_15 : decode cX4_removeFault 15 = .ok (.ifCond .eq 30, 3) := by decide +kernel
theorem dX4_removeFault_18 : decode cX4_removeFault 18 = .ok (.aload_n 0, 1) := by decide +kernel
theorem dX4_removeFault_19 : decode cX4_removeFault 19 = .ok (.iload_n 1, 1) := by decide +kernel
theorem dX4_removeFault_20 : decode cX4_removeFault 20 = .ok (.invokevirtual 97, 3) := by decide +kernel
theorem dX4_removeFault_23 : decode cX4_removeFault 23 = .ok (.sipush (-1000), 3) := by decide +kernel
theorem dX4_removeFault_26 : decode cX4_removeFault 26 = .ok (.if_icmp .eq 19, 3) := by decide +kernel
theorem dX4_removeFault_29 : decode cX4_removeFault 29 = .ok (.aload_n 0, 1) := by decide +kernel
theorem dX4_removeFault_30 : decode cX4_removeFault 30 = .ok (.iload_n 1, 1) := by decide +kernel
theorem dX4_removeFault_31 : decode cX4_removeFault 31 = .ok (.invokevirtual 100, 3) := by decide +kernel
theorem dX4_removeFault_34 : decode cX4_removeFault 34 = .ok (.aload_n 0, 1) := by decide +kernel
theorem dX4_removeFault_35 : decode cX4_removeFault 35 = .ok (.invokevirtual 103, 3) := by decide +kernel
theorem dX4_removeFault_38 : decode cX4_removeFault 38 = .ok (.if_icmp .gt 7, 3) := by decide +kernel
theorem dX4_removeFault_41 : decode cX4_removeFault 41 = .ok (.iconst 0, 1) := by decide +kernel
theorem dX4_removeFault_42 : decode cX4_removeFault 42 = .ok (.goto 4, 3) := by decide +kernel
theorem dX4_removeFault_45 : decode cX4_removeFault 45 = .ok (.iconst 3, 1) := by decide +kernel
theorem dX4_removeFault_46 : decode cX4_removeFault 46 = .ok (.ireturn, 1) := by decide +kernel
set_option maxRecDepth 20000 in
theorem ggX4_commitFault_X6_isBelow : GoodIn wsX4_commitFault wsX6_isBelow := goodIn_r _ [4] (by decide +kernel) (by decide +kernel)
set_option maxRecDepth 20000 in
theorem gX4_commitFault_X6_isBelow_n90 : GoodIn wsX4_commitFault (wsX6_isBelow) := ggX4_commitFault_X6_isBelow
theorem dX4_commitFault_0 : decode cX4_commitFault 0 = .ok (.iload_n 1, 1) := by decide +kernel
theorem dX4_commitFault_1 : decode cX4_commitFault 1 = .ok (.iconst 4, 1) := by decide +kernel
theorem dX4_commitFault_2 : decode cX4_commitFault 2 = .ok (.invokestatic 90, 3) := by decide +kernel
theorem dX4_commitFault_5 : decode cX4_commitFault 5 = .ok (.ifCond .ne 5, 3) := by decide +kernel
theorem dX4_commitFault_8 : decode cX4_commitFault 8 = .ok (.iconst 2, 1) := by decide +kernel
theorem dX4_commitFault_9 : decode cX4_commitFault 9 = .ok (.ireturn, 1) := by decide +kernel
theorem dX4_commitFault_10 : decode cX4_commitFault 10 = .ok (.aload_n 0, 1) := by decide +kernel
theorem dX4_commitFault_11 : decode cX4_commitFault 11 = .ok (.getfield 34, 3) := by decide +kernel
theorem dX4_commitFault_14 : decode cX4_commitFault 14 = .ok (.ifCond .eq 7, 3) := by decide +kernel
theorem dX4_commitFault_17 : decode cX4_commitFault 17 = .ok (.iconst 0, 1) := by decide +kernel
theorem dX4_commitFault_18 : decode cX4_commitFault 18 = .ok (.goto 4, 3) := by decide +kernel
theorem dX4_commitFault_21 : decode cX4_commitFault 21 = .ok (.iconst 3, 1) := by decide +kernel
theorem dX4_commitFault_22 : decode cX4_commitFault 22 = .ok (.ireturn, 1) := by decide +kernel
theorem dX4_abortFault_0 : decode cX4_abortFault 0 = .ok (.aload_n 0, 1) := by decide +kernel
theorem dX4_abortFault_1 : decode cX4_abortFault 1 = .ok (.getfield 34, 3) := by decide +kernel
theorem dX4_abortFault_4 : decode cX4_abortFault 4 = .ok (.ifCond .eq 7, 3) := by decide +kernel
theorem dX4_abortFault_7 : decode cX4_abortFault 7 = .ok (.iconst 0, 1) := by decide +kernel
theorem dX4_abortFault_8 : decode cX4_abortFault 8 = .ok (.goto 4, 3) := by decide +kernel
theorem dX4_abortFault_11 : decode cX4_abortFault 11 = .ok (.iconst 3, 1) := by decide +kernel
theorem dX4_abortFault_12 : decode cX4_abortFault 12 = .ok (.ireturn, 1) := by decide +kernel
set_option maxRecDepth 20000 in
theorem ggX4_openFault_X4_lowestClosedReader : GoodIn wsX4_openFault wsX4_lowestClosedReader := goodIn_r _ [5, 6, 7, 8, 4, 9, 10, 11, 12, 13, 14, 15, 16, 17, 18, 19, 20, 21, 22, 23] (by decide +kernel) (by decide +kernel)
set_option maxRecDepth 20000 in
theorem gX4_openFault_X4_lowestClosedReader : GoodIn wsX4_openFault (wsV RX4 106 RX4 yX4_lowestClosedReader wsX4_lowestClosedReader) := goodIn_app (goodIn_of _ (by decide +kernel)) ggX4_openFault_X4_lowestClosedReader
theorem dX4_openFault_0 : decode cX4_openFault 0 = .ok (.aload_n 0, 1) := by decide +kernel
theorem dX4_openFault_1 : decode cX4_openFault 1 = .ok (.invokevirtual 106, 3) := by decide +kernel
theorem dX4_openFault_4 : decode cX4_openFault 4 = .ok (.sipush (-1000), 3) := by decide +kernel
theorem dX4_openFault_7 : decode cX4_openFault 7 = .ok (.if_icmp .ne 7, 3) := by decide +kernel
theorem dX4_openFault_10 : decode cX4_openFault 10 = .ok (.iconst 3, 1) := by decide +kernel
theorem dX4_openFault_11 : decode cX4_openFault 11 = .ok (.goto 4, 3) := by decide +kernel
theorem dX4_openFault_14 : decode cX4_openFault 14 = .ok (.iconst 0, 1) := by decide +kernel
theorem dX4_openFault_15 : decode cX4_openFault 15 = .ok (.ireturn, 1) := by decide +kernel
set_option maxRecDepth 20000 in
theorem ggX4_openReaderFault_X6_isBelow : GoodIn wsX4_openReaderFault wsX6_isBelow := goodIn_r _ [3] (by decide +kernel) (by decide +kernel)
set_option maxRecDepth 20000 in
theorem gX4_openReaderFault_X6_isBelow_n90 : GoodIn wsX4_openReaderFault (wsX6_isBelow) := ggX4_openReaderFault_X6_isBelow
set_option maxRecDepth 20000 in
theorem ggX4_openReaderFault_X4_isOpen : GoodIn wsX4_openReaderFault wsX4_isOpen := goodIn_r _ [8, 9, 10, 2, 11, 12, 13, 14, 15, 16, 17, 18, 19, 20, 21] (by decide +kernel) (by decide +kernel)
set_option maxRecDepth 20000 in
theorem gX4_openReaderFault_X4_isOpen : GoodIn wsX4_openReaderFault (wsV RX4 109 RX4 yX4_isOpen wsX4_isOpen) := goodIn_app (goodIn_of _ (by decide +kernel)) ggX4_openReaderFault_X4_isOpen
theorem dX4_openReaderFault_0 : decode cX4_openReaderFault 0 = .ok (.iload_n 1, 1) := by decide +kernel
theorem dX4_openReaderFault_1 : decode cX4_openReaderFault 1 = .ok (.iconst 4, 1) := by decide +kernel
theorem dX4_openReaderFault_2 : decode cX4_openReaderFault 2 = .ok (.invokestatic 90, 3) := by decide +kernel
theorem dX4_openReaderFault_5 : decode cX4_openReaderFault 5 = .ok (.ifCond .ne 5, 3) := by decide +kernel
theorem dX4_openReaderFault_8 : decode cX4_openReaderFault 8 = .ok (.iconst 1, 1) := by decide +kernel
theorem dX4_openReaderFault_9 : decode cX4_openReaderFault 9 = .ok (.ireturn, 1) := by decide +kernel
theorem dX4_openReaderFault_10 : decode cX4_openReaderFault 10 = .ok (.aload_n 0, 1) := by decide +kernel
theorem dX4_openReaderFault_11 : decode cX4_openReaderFault 11 = .ok (.iload_n 1, 1) := by decide +kernel
theorem dX4_openReaderFault_12 : decode cX4_openReaderFault 12 = .ok (.invokevirtual 109, 3) := by decide +kernel
theorem dX4_openReaderFault_15 : decode cX4_openReaderFault 15 = .ok (.ifCond .eq 7, 3) := by decide +kernel
theorem dX4_openReaderFault_18 : decode cX4_openReaderFault 18 = .ok (.iconst 0, 1) := by decide +kernel
theorem dX4_openReaderFault_19 : decode cX4_openReaderFault 19 = .ok (.goto 4, 3) := by decide +kernel
theorem dX4_openReaderFault_22 : decode cX4_openReaderFault 22 = .ok (.iconst 3, 1) := by decide +kernel
theorem dX4_openReaderFault_23 : decode cX4_openReaderFault 23 = .ok (.ireturn, 1) := by decide +kernel
set_option maxRecDepth 20000 in
theorem ggX4_draftedFault_X6_isBelow : GoodIn wsX4_draftedFault wsX6_isBelow := goodIn_r _ [4] (by decide +kernel) (by decide +kernel)
set_option maxRecDepth 20000 in
theorem gX4_draftedFault_X6_isBelow_n90 : GoodIn wsX4_draftedFault (wsX6_isBelow) := ggX4_draftedFault_X6_isBelow
theorem dX4_draftedFault_0 : decode cX4_draftedFault 0 = .ok (.iload_n 1, 1) := by decide +kernel
theorem dX4_draftedFault_1 : decode cX4_draftedFault 1 = .ok (.bipush 100, 2) := by decide +kernel
theorem dX4_draftedFault_3 : decode cX4_draftedFault 3 = .ok (.invokestatic 90, 3) := by decide +kernel
theorem dX4_draftedFault_6 : decode cX4_draftedFault 6 = .ok (.ifCond .ne 5, 3) := by decide +kernel
theorem dX4_draftedFault_9 : decode cX4_draftedFault 9 = .ok (.iconst 2, 1) := by decide +kernel
theorem dX4_draftedFault_10 : decode cX4_draftedFault 10 = .ok (.ireturn, 1) := by decide +kernel
theorem dX4_draftedFault_11 : decode cX4_draftedFault 11 = .ok (.aload_n 0, 1) := by decide +kernel
theorem dX4_draftedFault_12 : decode cX4_draftedFault 12 = .ok (.getfield 34, 3) := by decide +kernel
theorem dX4_draftedFault_15 : decode cX4_draftedFault 15 = .ok (.ifCond .eq 7, 3) := by decide +kernel
theorem dX4_draftedFault_18 : decode cX4_draftedFault 18 = .ok (.iconst 0, 1) := by decide +kernel
theorem dX4_draftedFault_19 : decode cX4_draftedFault 19 = .ok (.goto 4, 3) := by decide +kernel
theorem dX4_draftedFault_22 : decode cX4_draftedFault 22 = .ok (.iconst 3, 1) := by decide +kernel
theorem dX4_draftedFault_23 : decode cX4_draftedFault 23 = .ok (.ireturn, 1) := by decide +kernel
set_option maxRecDepth 20000 in
theorem ggX4_readFault_X6_isBelow : GoodIn wsX4_readFault wsX6_isBelow := goodIn_r _ [3] (by decide +kernel) (by decide +kernel)
set_option maxRecDepth 20000 in
theorem gX4_readFault_X6_isBelow_n90 : GoodIn wsX4_readFault (wsX6_isBelow) := ggX4_readFault_X6_isBelow
set_option maxRecDepth 20000 in
theorem ggX4_readFault_X4_isOpen : GoodIn wsX4_readFault wsX4_isOpen := goodIn_r _ [8, 9, 10, 2, 11, 12, 13, 14, 15, 16, 17, 18, 19, 20, 21] (by decide +kernel) (by decide +kernel)
set_option maxRecDepth 20000 in
theorem gX4_readFault_X4_isOpen : GoodIn wsX4_readFault (wsV RX4 109 RX4 yX4_isOpen wsX4_isOpen) := goodIn_app (goodIn_of _ (by decide +kernel)) ggX4_readFault_X4_isOpen
theorem dX4_readFault_0 : decode cX4_readFault 0 = .ok (.iload_n 1, 1) := by decide +kernel
theorem dX4_readFault_1 : decode cX4_readFault 1 = .ok (.iconst 4, 1) := by decide +kernel
theorem dX4_readFault_2 : decode cX4_readFault 2 = .ok (.invokestatic 90, 3) := by decide +kernel
theorem dX4_readFault_5 : decode cX4_readFault 5 = .ok (.ifCond .ne 5, 3) := by decide +kernel
theorem dX4_readFault_8 : decode cX4_readFault 8 = .ok (.iconst 1, 1) := by decide +kernel
theorem dX4_readFault_9 : decode cX4_readFault 9 = .ok (.ireturn, 1) := by decide +kernel
theorem dX4_readFault_10 : decode cX4_readFault 10 = .ok (.iload_n 2, 1) := by decide +kernel
theorem dX4_readFault_11 : decode cX4_readFault 11 = .ok (.bipush 100, 2) := by decide +kernel
theorem dX4_readFault_13 : decode cX4_readFault 13 = .ok (.invokestatic 90, 3) := by decide +kernel
theorem dX4_readFault_16 : decode cX4_readFault 16 = .ok (.ifCond .ne 5, 3) := by decide +kernel
theorem dX4_readFault_19 : decode cX4_readFault 19 = .ok (.iconst 2, 1) := by decide +kernel
theorem dX4_readFault_20 : decode cX4_readFault 20 = .ok (.ireturn, 1) := by decide +kernel
theorem dX4_readFault_21 : decode cX4_readFault 21 = .ok (.aload_n 0, 1) := by decide +kernel
theorem dX4_readFault_22 : decode cX4_readFault 22 = .ok (.iload_n 1, 1) := by decide +kernel
theorem dX4_readFault_23 : decode cX4_readFault 23 = .ok (.invokevirtual 109, 3) := by decide +kernel
theorem dX4_readFault_26 : decode cX4_readFault 26 = .ok (.ifCond .eq 7, 3) := by decide +kernel
theorem dX4_readFault_29 : decode cX4_readFault 29 = .ok (.iconst 0, 1) := by decide +kernel
theorem dX4_readFault_30 : decode cX4_readFault 30 = .ok (.goto 4, 3) := by decide +kernel
theorem dX4_readFault_33 : decode cX4_readFault 33 = .ok (.iconst 3, 1) := by decide +kernel
theorem dX4_readFault_34 : decode cX4_readFault 34 = .ok (.ireturn, 1) := by decide +kernel
set_option maxRecDepth 20000 in
theorem ggX4_beginDraft_X4_currentDirectory : GoodIn wsX4_beginDraft wsX4_currentDirectory := goodIn_r _ [7, 8, 9, 10, 11, 6, 12, 13, 14, 15, 16, 17, 22, 23, 24, 25, 26, 27, 28, 29, 30, 31] (by decide +kernel) (by decide +kernel)
set_option maxRecDepth 20000 in
theorem gX4_beginDraft_X4_currentDirectory : GoodIn wsX4_beginDraft (wsV RX4 113 RX4 yX4_currentDirectory wsX4_currentDirectory) := goodIn_app (goodIn_of _ (by decide +kernel)) ggX4_beginDraft_X4_currentDirectory
set_option maxRecDepth 20000 in
theorem ggX4_beginDraft_X4_currentCount : GoodIn wsX4_beginDraft wsX4_currentCount := goodIn_r _ [21, 14, 9, 10, 11, 6, 12, 13, 15, 16, 17, 22, 23, 24, 25, 26, 27, 28, 29, 30, 31] (by decide +kernel) (by decide +kernel)
set_option maxRecDepth 20000 in
theorem gX4_beginDraft_X4_currentCount : GoodIn wsX4_beginDraft (wsV RX4 116 RX4 yX4_currentCount wsX4_currentCount) := goodIn_app (goodIn_of _ (by decide +kernel)) ggX4_beginDraft_X4_currentCount
theorem dX4_beginDraft_0 : decode cX4_beginDraft 0 = .ok (.aload_n 0, 1) := by decide +kernel
theorem dX4_beginDraft_1 : decode cX4_beginDraft 1 = .ok (.iconst 1, 1) := by decide +kernel
theorem dX4_beginDraft_2 : decode cX4_beginDraft 2 = .ok (.putfield 34, 3) := by decide +kernel
theorem dX4_beginDraft_5 : decode cX4_beginDraft 5 = .ok (.aload_n 0, 1) := by decide +kernel
theorem dX4_beginDraft_6 : decode cX4_beginDraft 6 = .ok (.aload_n 0, 1) := by decide +kernel
theorem dX4_beginDraft_7 : decode cX4_beginDraft 7 = .ok (.invokevirtual 113, 3) := by decide +kernel
theorem dX4_beginDraft_10 : decode cX4_beginDraft 10 = .ok (.putfield 38, 3) := by decide +kernel
theorem dX4_beginDraft_13 : decode cX4_beginDraft 13 = .ok (.aload_n 0, 1) := by decide +kernel
theorem dX4_beginDraft_14 : decode cX4_beginDraft 14 = .ok (.invokevirtual 116, 3) := by decide +kernel
theorem dX4_beginDraft_17 : decode cX4_beginDraft 17 = .ok (.ireturn, 1) := by decide +kernel
set_option maxRecDepth 20000 in
theorem ggX4_putEntry_X4_ownDirectory : GoodIn wsX4_putEntry wsX4_ownDirectory := goodIn_r _ [7, 1, 2, 8, 9, 10, 11, 12, 13, 14, 15, 16, 6, 17, 18, 19, 20, 21, 22, 23, 24, 25, 26, 27, 28, 29, 30, 31, 32, 33, 34, 35, 36, 37, 38, 39, 40, 41, 42, 43, 44, 45, 46, 47, 48, 49, 50, 51, 52, 53, 54, 55, 56, 57, 58, 59, 60, 61, 62, 63, 64, 65, 66, 67, 68, 69, 70, 71, 72, 73, 74, 75, 76, 77, 78, 79, 131, 132, 133, 134, 135, 136, 137, 138, 139, 140, 141, 142, 143, 144, 145, 146, 147, 148, 149] (by decide +kernel) (by decide +kernel)
set_option maxRecDepth 20000 in
theorem gX4_putEntry_X4_ownDirectory : GoodIn wsX4_putEntry (wsV RX4 119 RX4 yX4_ownDirectory wsX4_ownDirectory) := goodIn_app (goodIn_of _ (by decide +kernel)) ggX4_putEntry_X4_ownDirectory
set_option maxRecDepth 20000 in
theorem ggX4_putEntry_X1_leafPlace : GoodIn wsX4_putEntry wsX1_leafPlace := goodIn_r _ [83, 57, 58, 59, 11, 60, 49, 61, 62, 63, 64, 65, 84, 85, 86, 87, 88, 141, 142, 143, 144, 145, 146, 147, 148, 149] (by decide +kernel) (by decide +kernel)
set_option maxRecDepth 20000 in
theorem gX4_putEntry_X1_leafPlace : GoodIn wsX4_putEntry (wsV RX4 122 RX1 yX1_leafPlace wsX1_leafPlace) := goodIn_app (goodIn_of _ (by decide +kernel)) ggX4_putEntry_X1_leafPlace
set_option maxRecDepth 20000 in
theorem ggX4_putEntry_X4_dig : GoodIn wsX4_putEntry wsX4_dig := goodIn_r _ [17, 1, 18, 19, 20, 6, 21, 22, 23, 24, 25, 26, 27, 28, 29, 30, 31, 32, 11, 33, 34, 35, 36, 37, 38, 39, 40, 41, 42, 43, 44, 45, 46, 47, 48, 49, 13, 50, 51, 52, 131, 132, 133, 134, 135, 136, 137, 138, 139, 140, 141, 142, 143, 144, 145, 146, 147, 148, 149] (by decide +kernel) (by decide +kernel)
set_option maxRecDepth 20000 in
theorem gX4_putEntry_X4_dig : GoodIn wsX4_putEntry (wsV RX4 125 RX4 yX4_dig wsX4_dig) := goodIn_app (goodIn_of _ (by decide +kernel)) ggX4_putEntry_X4_dig
set_option maxRecDepth 20000 in
theorem ggX4_putEntry_X1_insertEntry : GoodIn wsX4_putEntry wsX1_insertEntry := goodIn_r _ [92, 49, 57, 58, 59, 11, 60, 84, 85, 86, 87, 88, 93, 94, 95, 96, 97, 98, 99, 100, 101, 102, 103, 104, 105, 50, 51, 52, 141, 142, 143, 144, 145, 146, 147, 148, 149] (by decide +kernel) (by decide +kernel)
set_option maxRecDepth 20000 in
theorem gX4_putEntry_X1_insertEntry : GoodIn wsX4_putEntry (wsV RX4 128 RX1 yX1_insertEntry wsX1_insertEntry) := goodIn_app (goodIn_of _ (by decide +kernel)) ggX4_putEntry_X1_insertEntry
set_option maxRecDepth 20000 in
theorem ggX4_putEntry_X1_insertLeaf : GoodIn wsX4_putEntry wsX1_insertLeaf := goodIn_r _ [109, 49, 57, 58, 59, 11, 60, 61, 62, 63, 64, 65, 66, 67, 68, 69, 50, 51, 52, 141, 142, 143, 144, 145, 146, 147, 148, 149] (by decide +kernel) (by decide +kernel)
set_option maxRecDepth 20000 in
theorem gX4_putEntry_X1_insertLeaf : GoodIn wsX4_putEntry (wsV RX4 132 RX1 yX1_insertLeaf wsX1_insertLeaf) := goodIn_app (goodIn_of _ (by decide +kernel)) ggX4_putEntry_X1_insertLeaf
set_option maxRecDepth 20000 in
theorem ggX4_putEntry_X4_ownLeaf : GoodIn wsX4_putEntry wsX4_ownLeaf := goodIn_r _ [113, 1, 2, 114, 62, 63, 11, 64, 65, 8, 9, 10, 12, 13, 14, 15, 16, 6, 17, 18, 19, 20, 21, 22, 23, 24, 25, 26, 27, 28, 29, 30, 31, 32, 33, 34, 35, 36, 37, 38, 39, 40, 41, 42, 43, 44, 45, 46, 47, 48, 49, 50, 51, 52, 115, 116, 117, 118, 57, 58, 59, 60, 93, 94, 95, 96, 84, 85, 86, 87, 88, 97, 98, 99, 100, 101, 102, 103, 104, 105, 70, 71, 72, 73, 74, 75, 76, 77, 78, 79, 119, 67, 68, 69, 131, 132, 133, 134, 135, 136, 137, 138, 139, 140, 141, 142, 143, 144, 145, 146, 147, 148, 149] (by decide +kernel) (by decide +kernel)
set_option maxRecDepth 20000 in
theorem gX4_putEntry_X4_ownLeaf : GoodIn wsX4_putEntry (wsV RX4 135 RX4 yX4_ownLeaf wsX4_ownLeaf) := goodIn_app (goodIn_of _ (by decide +kernel)) ggX4_putEntry_X4_ownLeaf
set_option maxRecDepth 20000 in
theorem ggX4_putEntry_X1_entryPlace : GoodIn wsX4_putEntry wsX1_entryPlace := goodIn_r _ [123, 57, 58, 59, 11, 60, 49, 84, 85, 86, 87, 88, 141, 142, 143, 144, 145, 146, 147, 148, 149] (by decide +kernel) (by decide +kernel)
set_option maxRecDepth 20000 in
theorem gX4_putEntry_X1_entryPlace : GoodIn wsX4_putEntry (wsV RX4 138 RX1 yX1_entryPlace wsX1_entryPlace) := goodIn_app (goodIn_of _ (by decide +kernel)) ggX4_putEntry_X1_entryPlace
set_option maxRecDepth 20000 in
theorem ggX4_putEntry_X1_valueAt : GoodIn wsX4_putEntry wsX1_valueAt := goodIn_r _ [100, 101, 141, 142, 143, 144, 145, 146, 147, 148, 149] (by decide +kernel) (by decide +kernel)
set_option maxRecDepth 20000 in
theorem gX4_putEntry_X1_valueAt : GoodIn wsX4_putEntry (wsV RX4 141 RX1 yX1_valueAt wsX1_valueAt) := goodIn_app (goodIn_of _ (by decide +kernel)) ggX4_putEntry_X1_valueAt
set_option maxRecDepth 20000 in
theorem ggX4_putEntry_X1_setEntry : GoodIn wsX4_putEntry wsX1_setEntry := goodIn_r _ [105, 88, 101, 141, 142, 143, 144, 145, 146, 147, 148, 149] (by decide +kernel) (by decide +kernel)
set_option maxRecDepth 20000 in
theorem gX4_putEntry_X1_setEntry : GoodIn wsX4_putEntry (wsV RX4 144 RX1 yX1_setEntry wsX1_setEntry) := goodIn_app (goodIn_of _ (by decide +kernel)) ggX4_putEntry_X1_setEntry
set_option maxRecDepth 20000 in
theorem ggX4_putEntry_X1_sizeOf : GoodIn wsX4_putEntry wsX1_sizeOf := goodIn_r _ [60, 49, 141, 142, 143, 144, 145, 146, 147, 148, 149] (by decide +kernel) (by decide +kernel)
set_option maxRecDepth 20000 in
theorem gX4_putEntry_X1_sizeOf : GoodIn wsX4_putEntry (wsV RX4 148 RX1 yX1_sizeOf wsX1_sizeOf) := goodIn_app (goodIn_of _ (by decide +kernel)) ggX4_putEntry_X1_sizeOf
set_option maxRecDepth 20000 in
theorem ggX4_putEntry_X1_splitLeaf : GoodIn wsX4_putEntry wsX1_splitLeaf := goodIn_r _ [130, 49, 57, 58, 59, 11, 60, 93, 94, 95, 96, 84, 85, 86, 87, 88, 97, 98, 99, 100, 101, 102, 103, 104, 105, 50, 51, 52, 141, 142, 143, 144, 145, 146, 147, 148, 149] (by decide +kernel) (by decide +kernel)
set_option maxRecDepth 20000 in
theorem gX4_putEntry_X1_splitLeaf : GoodIn wsX4_putEntry (wsV RX4 151 RX1 yX1_splitLeaf wsX1_splitLeaf) := goodIn_app (goodIn_of _ (by decide +kernel)) ggX4_putEntry_X1_splitLeaf
theorem dX4_putEntry_0 : decode cX4_putEntry 0 = .ok (.aload_n 0, 1) := by decide +kernel
theorem dX4_putEntry_1 : decode cX4_putEntry 1 = .ok (.invokevirtual 119, 3) := by decide +kernel
theorem dX4_putEntry_4 : decode cX4_putEntry 4 = .ok (.aload_n 0, 1) := by decide +kernel
theorem dX4_putEntry_5 : decode cX4_putEntry 5 = .ok (.getfield 12, 3) := by decide +kernel
theorem dX4_putEntry_8 : decode cX4_putEntry 8 = .ok (.aload_n 0, 1) := by decide +kernel
theorem dX4_putEntry_9 : decode cX4_putEntry 9 = .ok (.getfield 38, 3) := by decide +kernel
theorem dX4_putEntry_12 : decode cX4_putEntry 12 = .ok (.iload_n 1, 1) := by decide +kernel
theorem dX4_putEntry_13 : decode cX4_putEntry 13 = .ok (.invokevirtual 122, 3) := by decide +kernel
theorem dX4_putEntry_16 : decode cX4_putEntry 16 = .ok (.istore_n 3, 1) := by decide +kernel
theorem dX4_putEntry_17 : decode cX4_putEntry 17 = .ok (.iload_n 3, 1) := by decide +kernel
theorem dX4_putEntry_18 : decode cX4_putEntry 18 = .ok (.sipush (-1000), 3) := by decide +kernel
theorem dX4_putEntry_21 : decode cX4_putEntry 21 = .ok (.if_icmp .ne 39, 3) := by decide +kernel
theorem dX4_putEntry_24 : decode cX4_putEntry 24 = .ok (.aload_n 0, 1) := by decide +kernel
theorem dX4_putEntry_25 : decode cX4_putEntry 25 = .ok (.iconst 0, 1) := by decide +kernel
theorem dX4_putEntry_26 : decode cX4_putEntry 26 = .ok (.invokevirtual 125, 3) := by decide +kernel
theorem dX4_putEntry_29 : decode cX4_putEntry 29 = .ok (.istore 4, 2) := by decide +kernel
theorem dX4_putEntry_31 : decode cX4_putEntry 31 = .ok (.aload_n 0, 1) := by decide +kernel
theorem dX4_putEntry_32 : decode cX4_putEntry 32 = .ok (.getfield 12, 3) := by decide +kernel
theorem dX4_putEntry_35 : decode cX4_putEntry 35 = .ok (.iload 4, 2) := by decide +kernel
theorem dX4_putEntry_37 : decode cX4_putEntry 37 = .ok (.iload_n 1, 1) := by decide +kernel
theorem dX4_putEntry_38 : decode cX4_putEntry 38 = .ok (.iload_n 2, 1) := by decide +kernel
theorem dX4_putEntry_39 : decode cX4_putEntry 39 = .ok (.invokevirtual 128, 3) := by decide +kernel
theorem dX4_putEntry_42 : decode cX4_putEntry 42 = .ok (.aload_n 0, 1) := by decide +kernel
theorem dX4_putEntry_43 : decode cX4_putEntry 43 = .ok (.getfield 12, 3) := by decide +kernel
theorem dX4_putEntry_46 : decode cX4_putEntry 46 = .ok (.aload_n 0, 1) := by decide +kernel
theorem dX4_putEntry_47 : decode cX4_putEntry 47 = .ok (.getfield 38, 3) := by decide +kernel
theorem dX4_putEntry_50 : decode cX4_putEntry 50 = .ok (.iconst 0, 1) := by decide +kernel
theorem dX4_putEntry_51 : decode cX4_putEntry 51 = .ok (.iload 4, 2) := by decide +kernel
theorem dX4_putEntry_53 : decode cX4_putEntry 53 = .ok (.invokevirtual 132, 3) := by decide +kernel
theorem dX4_putEntry_56 : decode cX4_putEntry 56 = .ok (.sipush (-1000), 3) := by decide +kernel
theorem dX4_putEntry_59 : decode cX4_putEntry 59 = .ok (.ireturn, 1) := by decide +kernel
theorem dX4_putEntry_60 : decode cX4_putEntry 60 = .ok (.aload_n 0, 1) := by decide +kernel
theorem dX4_putEntry_61 : decode cX4_putEntry 61 = .ok (.iload_n 3, 1) := by decide +kernel
theorem dX4_putEntry_62 : decode cX4_putEntry 62 = .ok (.invokevirtual 135, 3) := by decide +kernel
theorem dX4_putEntry_65 : decode cX4_putEntry 65 = .ok (.istore 4, 2) := by decide +kernel
theorem dX4_putEntry_67 : decode cX4_putEntry 67 = .ok (.aload_n 0, 1) := by decide +kernel
theorem dX4_putEntry_68 : decode cX4_putEntry 68 = .ok (.getfield 12, 3) := by decide +kernel
theorem dX4_putEntry_71 : decode cX4_putEntry 71 = .ok (.iload 4, 2) := by decide +kernel
theorem dX4_putEntry_73 : decode cX4_putEntry 73 = .ok (.iload_n 1, 1) := by decide +kernel
theorem dX4_putEntry_74 : decode cX4_putEntry 74 = .ok (.invokevirtual 138, 3) := by decide +kernel
theorem dX4_putEntry_77 : decode cX4_putEntry 77 = .ok (.istore 5, 2) := by decide +kernel
theorem dX4_putEntry_79 : decode cX4_putEntry 79 = .ok (.iload 5, 2) := by decide +kernel
theorem dX4_putEntry_81 : decode cX4_putEntry 81 = .ok (.sipush (-1000), 3) := by decide +kernel
theorem dX4_putEntry_84 : decode cX4_putEntry 84 = .ok (.if_icmp .eq 32, 3) := by decide +kernel
theorem dX4_putEntry_87 : decode cX4_putEntry 87 = .ok (.aload_n 0, 1) := by decide +kernel
theorem dX4_putEntry_88 : decode cX4_putEntry 88 = .ok (.getfield 12, 3) := by decide +kernel
theorem dX4_putEntry_91 : decode cX4_putEntry 91 = .ok (.iload 4, 2) := by decide +kernel
theorem dX4_putEntry_93 : decode cX4_putEntry 93 = .ok (.iload 5, 2) := by decide +kernel
theorem dX4_putEntry_95 : decode cX4_putEntry 95 = .ok (.invokevirtual 141, 3) := by decide +kernel
theorem dX4_putEntry_98 : decode cX4_putEntry 98 = .ok (.istore 6, 2) := by decide +kernel
theorem dX4_putEntry_100 : decode cX4_putEntry 100 = .ok (.aload_n 0, 1) := by decide +kernel
theorem dX4_putEntry_101 : decode cX4_putEntry 101 = .ok (.getfield 12, 3) := by decide +kernel
theorem dX4_putEntry_104 : decode cX4_putEntry 104 = .ok (.iload 4, 2) := by decide +kernel
theorem dX4_putEntry_106 : decode cX4_putEntry 106 = .ok (.iload 5, 2) := by decide +kernel
theorem dX4_putEntry_108 : decode cX4_putEntry 108 = .ok (.iload_n 1, 1) := by decide +kernel
theorem dX4_putEntry_109 : decode cX4_putEntry 109 = .ok (.iload_n 2, 1) := by decide +kernel
theorem dX4_putEntry_110 : decode cX4_putEntry 110 = .ok (.invokevirtual 144, 3) := by decide +kernel
theorem dX4_putEntry_113 : decode cX4_putEntry 113 = .ok (.iload 6, 2) := by decide +kernel
theorem dX4_putEntry_115 : decode cX4_putEntry 115 = .ok (.ireturn, 1) := by decide +kernel
theorem dX4_putEntry_116 : decode cX4_putEntry 116 = .ok (.aload_n 0, 1) := by decide +kernel
theorem dX4_putEntry_117 : decode cX4_putEntry 117 = .ok (.getfield 12, 3) := by decide +kernel
theorem dX4_putEntry_120 : decode cX4_putEntry 120 = .ok (.iload 4, 2) := by decide +kernel
theorem dX4_putEntry_122 : decode cX4_putEntry 122 = .ok (.iload_n 1, 1) := by decide +kernel
theorem dX4_putEntry_123 : decode cX4_putEntry 123 = .ok (.iload_n 2, 1) := by decide +kernel
theorem dX4_putEntry_124 : decode cX4_putEntry 124 = .ok (.invokevirtual 128, 3) := by decide +kernel
theorem dX4_putEntry_127 : decode cX4_putEntry 127 = .ok (.aload_n 0, 1) := by decide +kernel
theorem dX4_putEntry_128 : decode cX4_putEntry 128 = .ok (.getfield 12, 3) := by decide +kernel
theorem dX4_putEntry_131 : decode cX4_putEntry 131 = .ok (.iload 4, 2) := by decide +kernel
theorem dX4_putEntry_133 : decode cX4_putEntry 133 = .ok (.invokevirtual 148, 3) := by decide +kernel
theorem dX4_putEntry_136 : decode cX4_putEntry 136 = .ok (.iconst 4, 1) := by decide +kernel
theorem dX4_putEntry_137 : decode cX4_putEntry 137 = .ok (.if_icmp .le 37, 3) := by decide +kernel
theorem dX4_putEntry_140 : decode cX4_putEntry 140 = .ok (.aload_n 0, 1) := by decide +kernel
theorem dX4_putEntry_141 : decode cX4_putEntry 141 = .ok (.iconst 0, 1) := by decide +kernel
theorem dX4_putEntry_142 : decode cX4_putEntry 142 = .ok (.invokevirtual 125, 3) := by decide +kernel
theorem dX4_putEntry_145 : decode cX4_putEntry 145 = .ok (.istore 6, 2) := by decide +kernel
theorem dX4_putEntry_147 : decode cX4_putEntry 147 = .ok (.aload_n 0, 1) := by decide +kernel
theorem dX4_putEntry_148 : decode cX4_putEntry 148 = .ok (.getfield 12, 3) := by decide +kernel
theorem dX4_putEntry_151 : decode cX4_putEntry 151 = .ok (.iload 4, 2) := by decide +kernel
theorem dX4_putEntry_153 : decode cX4_putEntry 153 = .ok (.iload 6, 2) := by decide +kernel
theorem dX4_putEntry_155 : decode cX4_putEntry 155 = .ok (.invokevirtual 151, 3) := by decide +kernel
theorem dX4_putEntry_158 : decode cX4_putEntry 158 = .ok (.aload_n 0, 1) := by decide +kernel
theorem dX4_putEntry_159 : decode cX4_putEntry 159 = .ok (.getfield 12, 3) := by decide +kernel
theorem dX4_putEntry_162 : decode cX4_putEntry 162 = .ok (.aload_n 0, 1) := by decide +kernel
theorem dX4_putEntry_163 : decode cX4_putEntry 163 = .ok (.getfield 38, 3) := by decide +kernel
theorem dX4_putEntry_166 : decode cX4_putEntry 166 = .ok (.iload_n 3, 1) := by decide +kernel
theorem dX4_putEntry_167 : decode cX4_putEntry 167 = .ok (.iconst 1, 1) := by decide +kernel
theorem dX4_putEntry_168 : decode cX4_putEntry 168 = .ok (.iadd, 1) := by decide +kernel
theorem dX4_putEntry_169 : decode cX4_putEntry 169 = .ok (.iload 6, 2) := by decide +kernel
theorem dX4_putEntry_171 : decode cX4_putEntry 171 = .ok (.invokevirtual 132, 3) := by decide +kernel
theorem dX4_putEntry_174 : decode cX4_putEntry 174 = .ok (.sipush (-1000), 3) := by decide +kernel
theorem dX4_putEntry_177 : decode cX4_putEntry 177 = .ok (.ireturn, 1) := by decide +kernel
set_option maxRecDepth 20000 in
theorem ggX4_removeEntry_X4_ownDirectory : GoodIn wsX4_removeEntry wsX4_ownDirectory := goodIn_r _ [7, 1, 2, 8, 9, 10, 11, 12, 13, 14, 15, 16, 6, 17, 18, 19, 20, 21, 22, 23, 24, 25, 26, 27, 28, 29, 30, 31, 32, 33, 34, 35, 36, 37, 38, 39, 40, 41, 42, 43, 44, 45, 46, 47, 48, 49, 50, 51, 52, 53, 54, 55, 56, 57, 58, 59, 60, 61, 62, 63, 64, 65, 66, 67, 68, 69, 70, 71, 72, 73, 74, 75, 76, 77, 78, 79, 126, 127, 128, 129, 130, 131, 132, 133, 134, 135, 136, 137, 138, 139, 140, 141, 142, 143, 144] (by decide +kernel) (by decide +kernel)
set_option maxRecDepth 20000 in
theorem gX4_removeEntry_X4_ownDirectory : GoodIn wsX4_removeEntry (wsV RX4 119 RX4 yX4_ownDirectory wsX4_ownDirectory) := goodIn_app (goodIn_of _ (by decide +kernel)) ggX4_removeEntry_X4_ownDirectory
set_option maxRecDepth 20000 in
theorem ggX4_removeEntry_X1_leafPlace : GoodIn wsX4_removeEntry wsX1_leafPlace := goodIn_r _ [83, 57, 58, 59, 11, 60, 49, 61, 62, 63, 64, 65, 84, 85, 86, 87, 88, 136, 137, 138, 139, 140, 141, 142, 143, 144] (by decide +kernel) (by decide +kernel)
set_option maxRecDepth 20000 in
theorem gX4_removeEntry_X1_leafPlace : GoodIn wsX4_removeEntry (wsV RX4 122 RX1 yX1_leafPlace wsX1_leafPlace) := goodIn_app (goodIn_of _ (by decide +kernel)) ggX4_removeEntry_X1_leafPlace
set_option maxRecDepth 20000 in
theorem ggX4_removeEntry_X1_leafAt : GoodIn wsX4_removeEntry wsX1_leafAt := goodIn_r _ [64, 65, 136, 137, 138, 139, 140, 141, 142, 143, 144] (by decide +kernel) (by decide +kernel)
set_option maxRecDepth 20000 in
theorem gX4_removeEntry_X1_leafAt : GoodIn wsX4_removeEntry (wsV RX4 154 RX1 yX1_leafAt wsX1_leafAt) := goodIn_app (goodIn_of _ (by decide +kernel)) ggX4_removeEntry_X1_leafAt
set_option maxRecDepth 20000 in
theorem ggX4_removeEntry_X1_entryPlace : GoodIn wsX4_removeEntry wsX1_entryPlace := goodIn_r _ [93, 57, 58, 59, 11, 60, 49, 84, 85, 86, 87, 88, 136, 137, 138, 139, 140, 141, 142, 143, 144] (by decide +kernel) (by decide +kernel)
set_option maxRecDepth 20000 in
theorem gX4_removeEntry_X1_entryPlace : GoodIn wsX4_removeEntry (wsV RX4 138 RX1 yX1_entryPlace wsX1_entryPlace) := goodIn_app (goodIn_of _ (by decide +kernel)) ggX4_removeEntry_X1_entryPlace
set_option maxRecDepth 20000 in
theorem ggX4_removeEntry_X1_valueAt : GoodIn wsX4_removeEntry wsX1_valueAt := goodIn_r _ [97, 98, 136, 137, 138, 139, 140, 141, 142, 143, 144] (by decide +kernel) (by decide +kernel)
set_option maxRecDepth 20000 in
theorem gX4_removeEntry_X1_valueAt : GoodIn wsX4_removeEntry (wsV RX4 141 RX1 yX1_valueAt wsX1_valueAt) := goodIn_app (goodIn_of _ (by decide +kernel)) ggX4_removeEntry_X1_valueAt
set_option maxRecDepth 20000 in
theorem ggX4_removeEntry_X1_sizeOf : GoodIn wsX4_removeEntry wsX1_sizeOf := goodIn_r _ [60, 49, 136, 137, 138, 139, 140, 141, 142, 143, 144] (by decide +kernel) (by decide +kernel)
set_option maxRecDepth 20000 in
theorem gX4_removeEntry_X1_sizeOf : GoodIn wsX4_removeEntry (wsV RX4 148 RX1 yX1_sizeOf wsX1_sizeOf) := goodIn_app (goodIn_of _ (by decide +kernel)) ggX4_removeEntry_X1_sizeOf
set_option maxRecDepth 20000 in
theorem ggX4_removeEntry_X1_cutLeaf : GoodIn wsX4_removeEntry wsX1_cutLeaf := goodIn_r _ [103, 49, 57, 58, 59, 11, 60, 61, 62, 63, 64, 65, 66, 67, 68, 69, 50, 51, 52, 136, 137, 138, 139, 140, 141, 142, 143, 144] (by decide +kernel) (by decide +kernel)
set_option maxRecDepth 20000 in
theorem gX4_removeEntry_X1_cutLeaf : GoodIn wsX4_removeEntry (wsV RX4 157 RX1 yX1_cutLeaf wsX1_cutLeaf) := goodIn_app (goodIn_of _ (by decide +kernel)) ggX4_removeEntry_X1_cutLeaf
set_option maxRecDepth 20000 in
theorem ggX4_removeEntry_X1_leave : GoodIn wsX4_removeEntry wsX1_leave := goodIn_r _ [73, 74, 75, 9, 10, 11, 12, 13, 76, 77, 78, 79, 39, 48, 49, 34, 50, 51, 52, 136, 137, 138, 139, 140, 141, 142, 143, 144] (by decide +kernel) (by decide +kernel)
set_option maxRecDepth 20000 in
theorem gX4_removeEntry_X1_leave : GoodIn wsX4_removeEntry (wsV RX4 160 RX1 yX1_leave wsX1_leave) := goodIn_app (goodIn_of _ (by decide +kernel)) ggX4_removeEntry_X1_leave
set_option maxRecDepth 20000 in
theorem ggX4_removeEntry_X4_ownLeaf : GoodIn wsX4_removeEntry wsX4_ownLeaf := goodIn_r _ [107, 1, 2, 89, 62, 63, 11, 64, 65, 8, 9, 10, 12, 13, 14, 15, 16, 6, 17, 18, 19, 20, 21, 22, 23, 24, 25, 26, 27, 28, 29, 30, 31, 32, 33, 34, 35, 36, 37, 38, 39, 40, 41, 42, 43, 44, 45, 46, 47, 48, 49, 50, 51, 52, 108, 109, 110, 111, 57, 58, 59, 60, 112, 113, 114, 115, 84, 85, 86, 87, 88, 116, 95, 96, 97, 98, 117, 118, 119, 120, 70, 71, 72, 73, 74, 75, 76, 77, 78, 79, 121, 67, 68, 69, 126, 127, 128, 129, 130, 131, 132, 133, 134, 135, 136, 137, 138, 139, 140, 141, 142, 143, 144] (by decide +kernel) (by decide +kernel)
set_option maxRecDepth 20000 in
theorem gX4_removeEntry_X4_ownLeaf : GoodIn wsX4_removeEntry (wsV RX4 135 RX4 yX4_ownLeaf wsX4_ownLeaf) := goodIn_app (goodIn_of _ (by decide +kernel)) ggX4_removeEntry_X4_ownLeaf
set_option maxRecDepth 20000 in
theorem ggX4_removeEntry_X1_cutEntry : GoodIn wsX4_removeEntry wsX1_cutEntry := goodIn_r _ [125, 49, 57, 58, 59, 11, 60, 112, 113, 114, 115, 84, 85, 86, 87, 88, 116, 95, 96, 97, 98, 117, 118, 119, 120, 50, 51, 52, 136, 137, 138, 139, 140, 141, 142, 143, 144] (by decide +kernel) (by decide +kernel)
set_option maxRecDepth 20000 in
theorem gX4_removeEntry_X1_cutEntry : GoodIn wsX4_removeEntry (wsV RX4 164 RX1 yX1_cutEntry wsX1_cutEntry) := goodIn_app (goodIn_of _ (by decide +kernel)) ggX4_removeEntry_X1_cutEntry
theorem dX4_removeEntry_0 : decode cX4_removeEntry 0 = .ok (.aload_n 0, 1) := by decide +kernel
theorem dX4_removeEntry_1 : decode cX4_removeEntry 1 = .ok (.invokevirtual 119, 3) := by decide +kernel
theorem dX4_removeEntry_4 : decode cX4_removeEntry 4 = .ok (.aload_n 0, 1) := by decide +kernel
theorem dX4_removeEntry_5 : decode cX4_removeEntry 5 = .ok (.getfield 12, 3) := by decide +kernel
theorem dX4_removeEntry_8 : decode cX4_removeEntry 8 = .ok (.aload_n 0, 1) := by decide +kernel
theorem dX4_removeEntry_9 : decode cX4_removeEntry 9 = .ok (.getfield 38, 3) := by decide +kernel
theorem dX4_removeEntry_12 : decode cX4_removeEntry 12 = .ok (.iload_n 1, 1) := by decide +kernel
theorem dX4_removeEntry_13 : decode cX4_removeEntry 13 = .ok (.invokevirtual 122, 3) := by decide +kernel
theorem dX4_removeEntry_16 : decode cX4_removeEntry 16 = .ok (.istore_n 2, 1) := by decide +kernel
theorem dX4_removeEntry_17 : decode cX4_removeEntry 17 = .ok (.aload_n 0, 1) := by decide +kernel
theorem dX4_removeEntry_18 : decode cX4_removeEntry 18 = .ok (.getfield 12, 3) := by decide +kernel
theorem dX4_removeEntry_21 : decode cX4_removeEntry 21 = .ok (.aload_n 0, 1) := by decide +kernel
theorem dX4_removeEntry_22 : decode cX4_removeEntry 22 = .ok (.getfield 38, 3) := by decide +kernel
theorem dX4_removeEntry_25 : decode cX4_removeEntry 25 = .ok (.iload_n 2, 1) := by decide +kernel
theorem dX4_removeEntry_26 : decode cX4_removeEntry 26 = .ok (.invokevirtual 154, 3) := by decide +kernel
theorem dX4_removeEntry_29 : decode cX4_removeEntry 29 = .ok (.istore_n 3, 1) := by decide +kernel
theorem dX4_removeEntry_30 : decode cX4_removeEntry 30 = .ok (.aload_n 0, 1) := by decide +kernel
theorem dX4_removeEntry_31 : decode cX4_removeEntry 31 = .ok (.getfield 12, 3) := by decide +kernel
theorem dX4_removeEntry_34 : decode cX4_removeEntry 34 = .ok (.iload_n 3, 1) := by decide +kernel
theorem dX4_removeEntry_35 : decode cX4_removeEntry 35 = .ok (.aload_n 0, 1) := by decide +kernel
theorem dX4_removeEntry_36 : decode cX4_removeEntry 36 = .ok (.getfield 12, 3) := by decide +kernel
theorem dX4_removeEntry_39 : decode cX4_removeEntry 39 = .ok (.iload_n 3, 1) := by decide +kernel
theorem dX4_removeEntry_40 : decode cX4_removeEntry 40 = .ok (.iload_n 1, 1) := by decide +kernel
theorem dX4_removeEntry_41 : decode cX4_removeEntry 41 = .ok (.invokevirtual 138, 3) := by decide +kernel
theorem dX4_removeEntry_44 : decode cX4_removeEntry 44 = .ok (.invokevirtual 141, 3) := by decide +kernel
theorem dX4_removeEntry_47 : decode cX4_removeEntry 47 = .ok (.istore 4, 2) := by decide +kernel
theorem dX4_removeEntry_49 : decode cX4_removeEntry 49 = .ok (.aload_n 0, 1) := by decide +kernel
theorem dX4_removeEntry_50 : decode cX4_removeEntry 50 = .ok (.getfield 12, 3) := by decide +kernel
theorem dX4_removeEntry_53 : decode cX4_removeEntry 53 = .ok (.iload_n 3, 1) := by decide +kernel
theorem dX4_removeEntry_54 : decode cX4_removeEntry 54 = .ok (.invokevirtual 148, 3) := by decide +kernel
theorem dX4_removeEntry_57 : decode cX4_removeEntry 57 = .ok (.iconst 1, 1) := by decide +kernel
theorem dX4_removeEntry_58 : decode cX4_removeEntry 58 = .ok (.if_icmp .ne 26, 3) := by decide +kernel
theorem dX4_removeEntry_61 : decode cX4_removeEntry 61 = .ok (.aload_n 0, 1) := by decide +kernel
theorem dX4_removeEntry_62 : decode cX4_removeEntry 62 = .ok (.getfield 12, 3) := by decide +kernel
theorem dX4_removeEntry_65 : decode cX4_removeEntry 65 = .ok (.aload_n 0, 1) := by decide +kernel
theorem dX4_removeEntry_66 : decode cX4_removeEntry 66 = .ok (.getfield 38, 3) := by decide +kernel
theorem dX4_removeEntry_69 : decode cX4_removeEntry 69 = .ok (.iload_n 2, 1) := by decide +kernel
theorem dX4_removeEntry_70 : decode cX4_removeEntry 70 = .ok (.invokevirtual 157, 3) := by decide +kernel
theorem dX4_removeEntry_73 : decode cX4_removeEntry 73 = .ok (.aload_n 0, 1) := by decide +kernel
theorem dX4_removeEntry_74 : decode cX4_removeEntry 74 = .ok (.getfield 12, 3) := by decide +kernel
theorem dX4_removeEntry_77 : decode cX4_removeEntry 77 = .ok (.iload_n 3, 1) := by decide +kernel
theorem dX4_removeEntry_78 : decode cX4_removeEntry 78 = .ok (.invokevirtual 160, 3) := by decide +kernel
theorem dX4_removeEntry_81 : decode cX4_removeEntry 81 = .ok (.goto 29, 3) := by decide +kernel
theorem dX4_removeEntry_84 : decode cX4_removeEntry 84 = .ok (.aload_n 0, 1) := by decide +kernel
theorem dX4_removeEntry_85 : decode cX4_removeEntry 85 = .ok (.iload_n 2, 1) := by decide +kernel
theorem dX4_removeEntry_86 : decode cX4_removeEntry 86 = .ok (.invokevirtual 135, 3) := by decide +kernel
theorem dX4_removeEntry_89 : decode cX4_removeEntry 89 = .ok (.istore 5, 2) := by decide +kernel
theorem dX4_removeEntry_91 : decode cX4_removeEntry 91 = .ok (.aload_n 0, 1) := by decide +kernel
theorem dX4_removeEntry_92 : decode cX4_removeEntry 92 = .ok (.getfield 12, 3) := by decide +kernel
theorem dX4_removeEntry_95 : decode cX4_removeEntry 95 = .ok (.iload 5, 2) := by decide +kernel
theorem dX4_removeEntry_97 : decode cX4_removeEntry 97 = .ok (.aload_n 0, 1) := by decide +kernel
theorem dX4_removeEntry_98 : decode cX4_removeEntry 98 = .ok (.getfield 12, 3) := by decide +kernel
theorem dX4_removeEntry_101 : decode cX4_removeEntry 101 = .ok (.iload 5, 2) := by decide +kernel
theorem dX4_removeEntry_103 : decode cX4_removeEntry 103 = .ok (.iload_n 1, 1) := by decide +kernel
theorem dX4_removeEntry_104 : decode cX4_removeEntry 104 = .ok (.invokevirtual 138, 3) := by decide +kernel
theorem dX4_removeEntry_107 : decode cX4_removeEntry 107 = .ok (.invokevirtual 164, 3) := by decide +kernel
theorem dX4_removeEntry_110 : decode cX4_removeEntry 110 = .ok (.iload 4, 2) := by decide +kernel
theorem dX4_removeEntry_112 : decode cX4_removeEntry 112 = .ok (.ireturn, 1) := by decide +kernel
set_option maxRecDepth 20000 in
theorem ggX4_ownDirectory_X1_isFresh : GoodIn wsX4_ownDirectory wsX1_isFresh := goodIn_r _ [7, 8, 86, 87, 88, 89, 90, 91, 92, 93, 94] (by decide +kernel) (by decide +kernel)
set_option maxRecDepth 20000 in
theorem gX4_ownDirectory_X1_isFresh : GoodIn wsX4_ownDirectory (wsV RX4 167 RX1 yX1_isFresh wsX1_isFresh) := goodIn_app (goodIn_of _ (by decide +kernel)) ggX4_ownDirectory_X1_isFresh
set_option maxRecDepth 20000 in
theorem ggX4_ownDirectory_X4_dig : GoodIn wsX4_ownDirectory wsX4_dig := goodIn_r _ [13, 1, 14, 15, 16, 12, 17, 18, 19, 20, 21, 22, 23, 24, 25, 26, 27, 28, 6, 29, 30, 31, 32, 33, 34, 35, 36, 37, 38, 39, 40, 41, 42, 43, 44, 45, 8, 46, 47, 48, 76, 77, 78, 79, 80, 81, 82, 83, 84, 85, 86, 87, 88, 89, 90, 91, 92, 93, 94] (by decide +kernel) (by decide +kernel)
set_option maxRecDepth 20000 in
theorem gX4_ownDirectory_X4_dig : GoodIn wsX4_ownDirectory (wsV RX4 125 RX4 yX4_dig wsX4_dig) := goodIn_app (goodIn_of _ (by decide +kernel)) ggX4_ownDirectory_X4_dig
set_option maxRecDepth 20000 in
theorem ggX4_ownDirectory_X1_copyDirectory : GoodIn wsX4_ownDirectory wsX1_copyDirectory := goodIn_r _ [52, 45, 53, 54, 55, 6, 56, 57, 58, 59, 60, 61, 62, 63, 64, 65, 46, 47, 48, 86, 87, 88, 89, 90, 91, 92, 93, 94] (by decide +kernel) (by decide +kernel)
set_option maxRecDepth 20000 in
theorem gX4_ownDirectory_X1_copyDirectory : GoodIn wsX4_ownDirectory (wsV RX4 170 RX1 yX1_copyDirectory wsX1_copyDirectory) := goodIn_app (goodIn_of _ (by decide +kernel)) ggX4_ownDirectory_X1_copyDirectory
set_option maxRecDepth 20000 in
theorem ggX4_ownDirectory_X1_leave : GoodIn wsX4_ownDirectory wsX1_leave := goodIn_r _ [69, 70, 71, 4, 5, 6, 7, 8, 72, 73, 74, 75, 35, 44, 45, 30, 46, 47, 48, 86, 87, 88, 89, 90, 91, 92, 93, 94] (by decide +kernel) (by decide +kernel)
set_option maxRecDepth 20000 in
theorem gX4_ownDirectory_X1_leave : GoodIn wsX4_ownDirectory (wsV RX4 160 RX1 yX1_leave wsX1_leave) := goodIn_app (goodIn_of _ (by decide +kernel)) ggX4_ownDirectory_X1_leave
theorem dX4_ownDirectory_0 : decode cX4_ownDirectory 0 = .ok (.aload_n 0, 1) := by decide +kernel
theorem dX4_ownDirectory_1 : decode cX4_ownDirectory 1 = .ok (.getfield 12, 3) := by decide +kernel
theorem dX4_ownDirectory_4 : decode cX4_ownDirectory 4 = .ok (.aload_n 0, 1) := by decide +kernel
theorem dX4_ownDirectory_5 : decode cX4_ownDirectory 5 = .ok (.getfield 38, 3) := by decide +kernel
theorem dX4_ownDirectory_8 : decode cX4_ownDirectory 8 = .ok (.invokevirtual 167, 3) := by decide +kernel
theorem dX4_ownDirectory_11 : decode cX4_ownDirectory 11 = .ok (.ifCond .ne 37, 3) := by decide +kernel
theorem dX4_ownDirectory_14 : decode cX4_ownDirectory 14 = .ok (.aload_n 0, 1) := by decide +kernel
theorem dX4_ownDirectory_15 : decode cX4_ownDirectory 15 = .ok (.iconst 1, 1) := by decide +kernel
theorem dX4_ownDirectory_16 : decode cX4_ownDirectory 16 = .ok (.invokevirtual 125, 3) := by decide +kernel
theorem dX4_ownDirectory_19 : decode cX4_ownDirectory 19 = .ok (.istore_n 1, 1) := by decide +kernel
theorem dX4_ownDirectory_20 : decode cX4_ownDirectory 20 = .ok (.aload_n 0, 1) := by decide +kernel
theorem dX4_ownDirectory_21 : decode cX4_ownDirectory 21 = .ok (.getfield 12, 3) := by decide +kernel
theorem dX4_ownDirectory_24 : decode cX4_ownDirectory 24 = .ok (.aload_n 0, 1) := by decide +kernel
theorem dX4_ownDirectory_25 : decode cX4_ownDirectory 25 = .ok (.getfield 38, 3) := by decide +kernel
theorem dX4_ownDirectory_28 : decode cX4_ownDirectory 28 = .ok (.iload_n 1, 1) := by decide +kernel
theorem dX4_ownDirectory_29 : decode cX4_ownDirectory 29 = .ok (.invokevirtual 170, 3) := by decide +kernel
theorem dX4_ownDirectory_32 : decode cX4_ownDirectory 32 = .ok (.aload_n 0, 1) := by decide +kernel
theorem dX4_ownDirectory_33 : decode cX4_ownDirectory 33 = .ok (.getfield 12, 3) := by decide +kernel
theorem dX4_ownDirectory_36 : decode cX4_ownDirectory 36 = .ok (.aload_n 0, 1) := by decide +kernel
theorem dX4_ownDirectory_37 : decode cX4_ownDirectory 37 = .ok (.getfield 38, 3) := by decide +kernel
theorem dX4_ownDirectory_40 : decode cX4_ownDirectory 40 = .ok (.invokevirtual 160, 3) := by decide +kernel
theorem dX4_ownDirectory_43 : decode cX4_ownDirectory 43 = .ok (.aload_n 0, 1) := by decide +kernel
theorem dX4_ownDirectory_44 : decode cX4_ownDirectory 44 = .ok (.iload_n 1, 1) := by decide +kernel
theorem dX4_ownDirectory_45 : decode cX4_ownDirectory 45 = .ok (.putfield 38, 3) := by decide +kernel
theorem dX4_ownDirectory_48 : decode cX4_ownDirectory 48 = .ok (.return_, 1) := by decide +kernel
set_option maxRecDepth 20000 in
theorem ggX4_ownLeaf_X1_leafAt : GoodIn wsX4_ownLeaf wsX1_leafAt := goodIn_r _ [7, 8, 104, 105, 106, 107, 108, 109, 110, 111, 112] (by decide +kernel) (by decide +kernel)
set_option maxRecDepth 20000 in
theorem gX4_ownLeaf_X1_leafAt : GoodIn wsX4_ownLeaf (wsV RX4 154 RX1 yX1_leafAt wsX1_leafAt) := goodIn_app (goodIn_of _ (by decide +kernel)) ggX4_ownLeaf_X1_leafAt
set_option maxRecDepth 20000 in
theorem ggX4_ownLeaf_X1_isFresh : GoodIn wsX4_ownLeaf wsX1_isFresh := goodIn_r _ [12, 13, 104, 105, 106, 107, 108, 109, 110, 111, 112] (by decide +kernel) (by decide +kernel)
set_option maxRecDepth 20000 in
theorem gX4_ownLeaf_X1_isFresh : GoodIn wsX4_ownLeaf (wsV RX4 167 RX1 yX1_isFresh wsX1_isFresh) := goodIn_app (goodIn_of _ (by decide +kernel)) ggX4_ownLeaf_X1_isFresh
set_option maxRecDepth 20000 in
theorem ggX4_ownLeaf_X4_dig : GoodIn wsX4_ownLeaf wsX4_dig := goodIn_r _ [18, 1, 19, 20, 21, 17, 22, 23, 24, 25, 26, 27, 28, 29, 30, 31, 32, 33, 6, 34, 35, 36, 37, 38, 39, 40, 41, 42, 43, 44, 45, 46, 47, 48, 49, 50, 13, 51, 52, 53, 94, 95, 96, 97, 98, 99, 100, 101, 102, 103, 104, 105, 106, 107, 108, 109, 110, 111, 112] (by decide +kernel) (by decide +kernel)
set_option maxRecDepth 20000 in
theorem gX4_ownLeaf_X4_dig : GoodIn wsX4_ownLeaf (wsV RX4 125 RX4 yX4_dig wsX4_dig) := goodIn_app (goodIn_of _ (by decide +kernel)) ggX4_ownLeaf_X4_dig
set_option maxRecDepth 20000 in
theorem ggX4_ownLeaf_X1_copyLeaf : GoodIn wsX4_ownLeaf wsX1_copyLeaf := goodIn_r _ [57, 50, 58, 59, 60, 6, 61, 62, 63, 64, 65, 66, 67, 68, 69, 70, 71, 72, 73, 74, 75, 76, 77, 78, 79, 51, 52, 53, 104, 105, 106, 107, 108, 109, 110, 111, 112] (by decide +kernel) (by decide +kernel)
set_option maxRecDepth 20000 in
theorem gX4_ownLeaf_X1_copyLeaf : GoodIn wsX4_ownLeaf (wsV RX4 173 RX1 yX1_copyLeaf wsX1_copyLeaf) := goodIn_app (goodIn_of _ (by decide +kernel)) ggX4_ownLeaf_X1_copyLeaf
set_option maxRecDepth 20000 in
theorem ggX4_ownLeaf_X1_leave : GoodIn wsX4_ownLeaf wsX1_leave := goodIn_r _ [83, 84, 85, 10, 11, 6, 12, 13, 86, 87, 88, 89, 40, 49, 50, 35, 51, 52, 53, 104, 105, 106, 107, 108, 109, 110, 111, 112] (by decide +kernel) (by decide +kernel)
set_option maxRecDepth 20000 in
theorem gX4_ownLeaf_X1_leave : GoodIn wsX4_ownLeaf (wsV RX4 160 RX1 yX1_leave wsX1_leave) := goodIn_app (goodIn_of _ (by decide +kernel)) ggX4_ownLeaf_X1_leave
set_option maxRecDepth 20000 in
theorem ggX4_ownLeaf_X1_setLeaf : GoodIn wsX4_ownLeaf wsX1_setLeaf := goodIn_r _ [93, 8, 104, 105, 106, 107, 108, 109, 110, 111, 112] (by decide +kernel) (by decide +kernel)
set_option maxRecDepth 20000 in
theorem gX4_ownLeaf_X1_setLeaf : GoodIn wsX4_ownLeaf (wsV RX4 176 RX1 yX1_setLeaf wsX1_setLeaf) := goodIn_app (goodIn_of _ (by decide +kernel)) ggX4_ownLeaf_X1_setLeaf
theorem dX4_ownLeaf_0 : decode cX4_ownLeaf 0 = .ok (.aload_n 0, 1) := by decide +kernel
theorem dX4_ownLeaf_1 : decode cX4_ownLeaf 1 = .ok (.getfield 12, 3) := by decide +kernel
theorem dX4_ownLeaf_4 : decode cX4_ownLeaf 4 = .ok (.aload_n 0, 1) := by decide +kernel
theorem dX4_ownLeaf_5 : decode cX4_ownLeaf 5 = .ok (.getfield 38, 3) := by decide +kernel
theorem dX4_ownLeaf_8 : decode cX4_ownLeaf 8 = .ok (.iload_n 1, 1) := by decide +kernel
theorem dX4_ownLeaf_9 : decode cX4_ownLeaf 9 = .ok (.invokevirtual 154, 3) := by decide +kernel
theorem dX4_ownLeaf_12 : decode cX4_ownLeaf 12 = .ok (.istore_n 2, 1) := by decide +kernel
theorem dX4_ownLeaf_13 : decode cX4_ownLeaf 13 = .ok (.aload_n 0, 1) := by decide +kernel
theorem dX4_ownLeaf_14 : decode cX4_ownLeaf 14 = .ok (.getfield 12, 3) := by decide +kernel
theorem dX4_ownLeaf_17 : decode cX4_ownLeaf 17 = .ok (.iload_n 2, 1) := by decide +kernel
theorem dX4_ownLeaf_18 : decode cX4_ownLeaf 18 = .ok (.invokevirtual 167, 3) := by decide +kernel
theorem dX4_ownLeaf_21 : decode cX4_ownLeaf 21 = .ok (.ifCond .eq 5, 3) := by decide +kernel
theorem dX4_ownLeaf_24 : decode cX4_ownLeaf 24 = .ok (.iload_n 2, 1) := by decide +kernel
theorem dX4_ownLeaf_25 : decode cX4_ownLeaf 25 = .ok (.ireturn, 1) := by decide +kernel
theorem dX4_ownLeaf_26 : decode cX4_ownLeaf 26 = .ok (.aload_n 0, 1) := by decide +kernel
theorem dX4_ownLeaf_27 : decode cX4_ownLeaf 27 = .ok (.iconst 0, 1) := by decide +kernel
theorem dX4_ownLeaf_28 : decode cX4_ownLeaf 28 = .ok (.invokevirtual 125, 3) := by decide +kernel
theorem dX4_ownLeaf_31 : decode cX4_ownLeaf 31 = .ok (.istore_n 3, 1) := by decide +kernel
theorem dX4_ownLeaf_32 : decode cX4_ownLeaf 32 = .ok (.aload_n 0, 1) := by decide +kernel
theorem dX4_ownLeaf_33 : decode cX4_ownLeaf 33 = .ok (.getfield 12, 3) := by decide +kernel
theorem dX4_ownLeaf_36 : decode cX4_ownLeaf 36 = .ok (.iload_n 2, 1) := by decide +kernel
theorem dX4_ownLeaf_37 : decode cX4_ownLeaf 37 = .ok (.iload_n 3, 1) := by decide +kernel
theorem dX4_ownLeaf_38 : decode cX4_ownLeaf 38 = .ok (.invokevirtual 173, 3) := by decide +kernel
theorem dX4_ownLeaf_41 : decode cX4_ownLeaf 41 = .ok (.aload_n 0, 1) := by decide +kernel
theorem dX4_ownLeaf_42 : decode cX4_ownLeaf 42 = .ok (.getfield 12, 3) := by decide +kernel
theorem dX4_ownLeaf_45 : decode cX4_ownLeaf 45 = .ok (.iload_n 2, 1) := by decide +kernel
theorem dX4_ownLeaf_46 : decode cX4_ownLeaf 46 = .ok (.invokevirtual 160, 3) := by decide +kernel
theorem dX4_ownLeaf_49 : decode cX4_ownLeaf 49 = .ok (.aload_n 0, 1) := by decide +kernel
theorem dX4_ownLeaf_50 : decode cX4_ownLeaf 50 = .ok (.getfield 12, 3) := by decide +kernel
theorem dX4_ownLeaf_53 : decode cX4_ownLeaf 53 = .ok (.aload_n 0, 1) := by decide +kernel
theorem dX4_ownLeaf_54 : decode cX4_ownLeaf 54 = .ok (.getfield 38, 3) := by decide +kernel
theorem dX4_ownLeaf_57 : decode cX4_ownLeaf 57 = .ok (.iload_n 1, 1) := by decide +kernel
theorem dX4_ownLeaf_58 : decode cX4_ownLeaf 58 = .ok (.iload_n 3, 1) := by decide +kernel
theorem dX4_ownLeaf_59 : decode cX4_ownLeaf 59 = .ok (.invokevirtual 176, 3) := by decide +kernel
theorem dX4_ownLeaf_62 : decode cX4_ownLeaf 62 = .ok (.iload_n 3, 1) := by decide +kernel
theorem dX4_ownLeaf_63 : decode cX4_ownLeaf 63 = .ok (.ireturn, 1) := by decide +kernel
set_option maxRecDepth 20000 in
theorem ggX4_dig_X4_neededCountBut : GoodIn wsX4_dig wsX4_neededCountBut := goodIn_r _ [6, 7, 8, 9, 10, 11, 12, 13, 14, 40, 41, 42, 43, 44, 45, 46, 47, 48, 49] (by decide +kernel) (by decide +kernel)
set_option maxRecDepth 20000 in
theorem gX4_dig_X4_neededCountBut : GoodIn wsX4_dig (wsV RX4 79 RX4 yX4_neededCountBut wsX4_neededCountBut) := goodIn_app (goodIn_of _ (by decide +kernel)) ggX4_dig_X4_neededCountBut
set_option maxRecDepth 20000 in
theorem ggX4_dig_X1_bedToDig : GoodIn wsX4_dig wsX1_bedToDig := goodIn_r _ [19, 20, 21, 22, 23, 18, 24, 25, 26, 27, 28, 29, 50, 51, 52, 53, 54, 55, 56, 57, 58] (by decide +kernel) (by decide +kernel)
set_option maxRecDepth 20000 in
theorem gX4_dig_X1_bedToDig : GoodIn wsX4_dig (wsV RX4 179 RX1 yX1_bedToDig wsX1_bedToDig) := goodIn_app (goodIn_of _ (by decide +kernel)) ggX4_dig_X1_bedToDig
set_option maxRecDepth 20000 in
theorem ggX4_dig_X1_useFresh : GoodIn wsX4_dig wsX1_useFresh := goodIn_r _ [33, 25, 34, 35, 20, 36, 37, 38, 39, 50, 51, 52, 53, 54, 55, 56, 57, 58] (by decide +kernel) (by decide +kernel)
set_option maxRecDepth 20000 in
theorem gX4_dig_X1_useFresh : GoodIn wsX4_dig (wsV RX4 52 RX1 yX1_useFresh wsX1_useFresh) := goodIn_app (goodIn_of _ (by decide +kernel)) ggX4_dig_X1_useFresh
theorem dX4_dig_0 : decode cX4_dig 0 = .ok (.aload_n 0, 1) := by decide +kernel
theorem dX4_dig_1 : decode cX4_dig 1 = .ok (.getfield 12, 3) := by decide +kernel
theorem dX4_dig_4 : decode cX4_dig 4 = .ok (.aload_n 0, 1) := by decide +kernel
theorem dX4_dig_5 : decode cX4_dig 5 = .ok (.sipush (-1000), 3) := by decide +kernel
theorem dX4_dig_8 : decode cX4_dig 8 = .ok (.invokevirtual 79, 3) := by decide +kernel
theorem dX4_dig_11 : decode cX4_dig 11 = .ok (.invokevirtual 179, 3) := by decide +kernel
theorem dX4_dig_14 : decode cX4_dig 14 = .ok (.istore_n 2, 1) := by decide +kernel
theorem dX4_dig_15 : decode cX4_dig 15 = .ok (.aload_n 0, 1) := by decide +kernel
theorem dX4_dig_16 : decode cX4_dig 16 = .ok (.getfield 12, 3) := by decide +kernel
theorem dX4_dig_19 : decode cX4_dig 19 = .ok (.iload_n 2, 1) := by decide +kernel
theorem dX4_dig_20 : decode cX4_dig 20 = .ok (.iload_n 1, 1) := by decide +kernel
theorem dX4_dig_21 : decode cX4_dig 21 = .ok (.invokevirtual 52, 3) := by decide +kernel
theorem dX4_dig_24 : decode cX4_dig 24 = .ok (.iload_n 2, 1) := by decide +kernel
theorem dX4_dig_25 : decode cX4_dig 25 = .ok (.ireturn, 1) := by decide +kernel
set_option maxRecDepth 20000 in
theorem ggX4_commitDraft_X1_isFresh : GoodIn wsX4_commitDraft wsX1_isFresh := goodIn_r _ [9, 10, 74, 75, 76, 77, 78, 79, 80, 81, 82] (by decide +kernel) (by decide +kernel)
set_option maxRecDepth 20000 in
theorem gX4_commitDraft_X1_isFresh : GoodIn wsX4_commitDraft (wsV RX4 167 RX1 yX1_isFresh wsX1_isFresh) := goodIn_app (goodIn_of _ (by decide +kernel)) ggX4_commitDraft_X1_isFresh
set_option maxRecDepth 20000 in
theorem ggX4_commitDraft_X4_endDraft : GoodIn wsX4_commitDraft wsX4_endDraft := goodIn_r _ [15, 16, 2, 64, 65, 66, 67, 68, 69, 70, 71, 72, 73] (by decide +kernel) (by decide +kernel)
set_option maxRecDepth 20000 in
theorem gX4_commitDraft_X4_endDraft : GoodIn wsX4_commitDraft (wsV RX4 182 RX4 yX4_endDraft wsX4_endDraft) := goodIn_app (goodIn_of _ (by decide +kernel)) ggX4_commitDraft_X4_endDraft
set_option maxRecDepth 20000 in
theorem ggX4_commitDraft_X4_writeAsleepRoot : GoodIn wsX4_commitDraft wsX4_writeAsleepRoot := goodIn_r _ [20, 21, 22, 2, 23, 24, 25, 26, 14, 27, 28, 29, 30, 31, 32, 33, 34, 35, 36, 64, 65, 66, 67, 68, 69, 70, 71, 72, 73] (by decide +kernel) (by decide +kernel)
set_option maxRecDepth 20000 in
theorem gX4_commitDraft_X4_writeAsleepRoot : GoodIn wsX4_commitDraft (wsV RX4 185 RX4 yX4_writeAsleepRoot wsX4_writeAsleepRoot) := goodIn_app (goodIn_of _ (by decide +kernel)) ggX4_commitDraft_X4_writeAsleepRoot
set_option maxRecDepth 20000 in
theorem ggX4_commitDraft_X4_dropDraft : GoodIn wsX4_commitDraft wsX4_dropDraft := goodIn_r _ [40, 1, 11, 12, 13, 14, 15, 16, 2, 41, 42, 43, 8, 44, 10, 45, 46, 47, 48, 49, 50, 51, 52, 53, 35, 33, 36, 54, 55, 64, 65, 66, 67, 68, 69, 70, 71, 72, 73, 74, 75, 76, 77, 78, 79, 80, 81, 82] (by decide +kernel) (by decide +kernel)
set_option maxRecDepth 20000 in
theorem gX4_commitDraft_X4_dropDraft : GoodIn wsX4_commitDraft (wsV RX4 188 RX4 yX4_dropDraft wsX4_dropDraft) := goodIn_app (goodIn_of _ (by decide +kernel)) ggX4_commitDraft_X4_dropDraft
set_option maxRecDepth 20000 in
theorem ggX4_commitDraft_X1_keepFresh : GoodIn wsX4_commitDraft wsX1_keepFresh := goodIn_r _ [59, 10, 54, 33, 55, 74, 75, 76, 77, 78, 79, 80, 81, 82] (by decide +kernel) (by decide +kernel)
set_option maxRecDepth 20000 in
theorem gX4_commitDraft_X1_keepFresh : GoodIn wsX4_commitDraft (wsV RX4 56 RX1 yX1_keepFresh wsX1_keepFresh) := goodIn_app (goodIn_of _ (by decide +kernel)) ggX4_commitDraft_X1_keepFresh
set_option maxRecDepth 20000 in
theorem ggX4_commitDraft_X4_currentCount : GoodIn wsX4_commitDraft wsX4_currentCount := goodIn_r _ [31, 23, 24, 25, 26, 14, 27, 21, 32, 33, 34, 64, 65, 66, 67, 68, 69, 70, 71, 72, 73] (by decide +kernel) (by decide +kernel)
set_option maxRecDepth 20000 in
theorem gX4_commitDraft_X4_currentCount : GoodIn wsX4_commitDraft (wsV RX4 116 RX4 yX4_currentCount wsX4_currentCount) := goodIn_app (goodIn_of _ (by decide +kernel)) ggX4_commitDraft_X4_currentCount
set_option maxRecDepth 20000 in
theorem ggX4_commitDraft_X1_freeLeft : GoodIn wsX4_commitDraft wsX1_freeLeft := goodIn_r _ [63, 45, 50, 53, 74, 75, 76, 77, 78, 79, 80, 81, 82] (by decide +kernel) (by decide +kernel)
set_option maxRecDepth 20000 in
theorem gX4_commitDraft_X1_freeLeft : GoodIn wsX4_commitDraft (wsV RX4 191 RX1 yX1_freeLeft wsX1_freeLeft) := goodIn_app (goodIn_of _ (by decide +kernel)) ggX4_commitDraft_X1_freeLeft
theorem dX4_commitDraft_0 : decode cX4_commitDraft 0 = .ok (.aload_n 0, 1) := by decide +kernel
theorem dX4_commitDraft_1 : decode cX4_commitDraft 1 = .ok (.getfield 12, 3) := by decide +kernel
theorem dX4_commitDraft_4 : decode cX4_commitDraft 4 = .ok (.aload_n 0, 1) := by decide +kernel
theorem dX4_commitDraft_5 : decode cX4_commitDraft 5 = .ok (.getfield 38, 3) := by decide +kernel
theorem dX4_commitDraft_8 : decode cX4_commitDraft 8 = .ok (.invokevirtual 167, 3) := by decide +kernel
theorem dX4_commitDraft_11 : decode cX4_commitDraft 11 = .ok (.ifCond .ne 9, 3) := by decide +kernel
theorem dX4_commitDraft_14 : decode cX4_commitDraft 14 = .ok (.aload_n 0, 1) := by decide +kernel
theorem dX4_commitDraft_15 : decode cX4_commitDraft 15 = .ok (.invokevirtual 182, 3) := by decide +kernel
theorem dX4_commitDraft_18 : decode cX4_commitDraft 18 = .ok (.iconst 0, 1) := by decide +kernel
theorem dX4_commitDraft_19 : decode cX4_commitDraft 19 = .ok (.ireturn, 1) := by decide +kernel
theorem dX4_commitDraft_20 : decode cX4_commitDraft 20 = .ok (.aload_n 0, 1) := by decide +kernel
theorem dX4_commitDraft_21 : decode cX4_commitDraft 21 = .ok (.iload_n 1, 1) := by decide +kernel
theorem dX4_commitDraft_22 : decode cX4_commitDraft 22 = .ok (.invokevirtual 185, 3) := by decide +kernel
theorem dX4_commitDraft_25 : decode cX4_commitDraft 25 = .ok (.iload_n 1, 1) := by decide +kernel
theorem dX4_commitDraft_26 : decode cX4_commitDraft 26 = .ok (.iconst 3, 1) := by decide +kernel
theorem dX4_commitDraft_27 : decode cX4_commitDraft 27 = .ok (.if_icmp .ge 22, 3) := by decide +kernel
theorem dX4_commitDraft_30 : decode cX4_commitDraft 30 = .ok (.aload_n 0, 1) := by decide +kernel
theorem dX4_commitDraft_31 : decode cX4_commitDraft 31 = .ok (.dup, 1) := by decide +kernel
theorem dX4_commitDraft_32 : decode cX4_commitDraft 32 = .ok (.getfield 45, 3) := by decide +kernel
theorem dX4_commitDraft_35 : decode cX4_commitDraft 35 = .ok (.iconst 1, 1) := by decide +kernel
theorem dX4_commitDraft_36 : decode cX4_commitDraft 36 = .ok (.iadd, 1) := by decide +kernel
theorem dX4_commitDraft_37 : decode cX4_commitDraft 37 = .ok (.putfield 45, 3) := by decide +kernel
theorem dX4_commitDraft_40 : decode cX4_commitDraft 40 = .ok (.aload_n 0, 1) := by decide +kernel
theorem dX4_commitDraft_41 : decode cX4_commitDraft 41 = .ok (.invokevirtual 188, 3) := by decide +kernel
theorem dX4_commitDraft_44 : decode cX4_commitDraft 44 = .ok (.pop, 1) := by decide +kernel
theorem dX4_commitDraft_45 : decode cX4_commitDraft 45 = .ok (.sipush (-1000), 3) := by decide +kernel
theorem dX4_commitDraft_48 : decode cX4_commitDraft 48 = .ok (.ireturn, 1) := by decide +kernel
theorem dX4_commitDraft_49 : decode cX4_commitDraft 49 = .ok (.aload_n 0, 1) := by decide +kernel
theorem dX4_commitDraft_50 : decode cX4_commitDraft 50 = .ok (.dup, 1) := by decide +kernel
theorem dX4_commitDraft_51 : decode cX4_commitDraft 51 = .ok (.getfield 42, 3) := by decide +kernel
theorem dX4_commitDraft_54 : decode cX4_commitDraft 54 = .ok (.iconst 1, 1) := by decide +kernel
theorem dX4_commitDraft_55 : decode cX4_commitDraft 55 = .ok (.iadd, 1) := by decide +kernel
