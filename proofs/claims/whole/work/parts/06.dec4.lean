theorem dX7_doPut_168 : decode cX7_doPut 168 = .ok (.aload_n 0, 1) := by decide +kernel
theorem dX7_doPut_169 : decode cX7_doPut 169 = .ok (.iload 6, 2) := by decide +kernel
theorem dX7_doPut_171 : decode cX7_doPut 171 = .ok (.iconst 2, 1) := by decide +kernel
theorem dX7_doPut_172 : decode cX7_doPut 172 = .ok (.invokevirtual 53, 3) := by decide +kernel
theorem dX7_doPut_175 : decode cX7_doPut 175 = .ok (.iconst 4, 1) := by decide +kernel
theorem dX7_doPut_176 : decode cX7_doPut 176 = .ok (.if_icmp .ne 18, 3) := by decide +kernel
theorem dX7_doPut_179 : decode cX7_doPut 179 = .ok (.aload_n 0, 1) := by decide +kernel
theorem dX7_doPut_180 : decode cX7_doPut 180 = .ok (.iload 4, 2) := by decide +kernel
theorem dX7_doPut_182 : decode cX7_doPut 182 = .ok (.iload 5, 2) := by decide +kernel
theorem dX7_doPut_184 : decode cX7_doPut 184 = .ok (.iload 6, 2) := by decide +kernel
theorem dX7_doPut_186 : decode cX7_doPut 186 = .ok (.iload_n 1, 1) := by decide +kernel
theorem dX7_doPut_187 : decode cX7_doPut 187 = .ok (.iload_n 2, 1) := by decide +kernel
theorem dX7_doPut_188 : decode cX7_doPut 188 = .ok (.invokevirtual 135, 3) := by decide +kernel
theorem dX7_doPut_191 : decode cX7_doPut 191 = .ok (.goto 11, 3) := by decide +kernel
theorem dX7_doPut_194 : decode cX7_doPut 194 = .ok (.aload_n 0, 1) := by decide +kernel
theorem dX7_doPut_195 : decode cX7_doPut 195 = .ok (.iload 6, 2) := by decide +kernel
theorem dX7_doPut_197 : decode cX7_doPut 197 = .ok (.iload_n 1, 1) := by decide +kernel
theorem dX7_doPut_198 : decode cX7_doPut 198 = .ok (.iload_n 2, 1) := by decide +kernel
theorem dX7_doPut_199 : decode cX7_doPut 199 = .ok (.invokevirtual 129, 3) := by decide +kernel
theorem dX7_doPut_202 : decode cX7_doPut 202 = .ok (.sipush (-1000), 3) := by decide +kernel
theorem dX7_doPut_205 : decode cX7_doPut 205 = .ok (.ireturn, 1) := by decide +kernel
set_option maxRecDepth 20000 in
theorem ggX7_doRemove_X7_in : GoodIn wsX7_doRemove wsX7_in := goodIn_r _ [5] (by decide +kernel) (by decide +kernel)
set_option maxRecDepth 20000 in
theorem gX7_doRemove_X7_in : GoodIn wsX7_doRemove (va_wsS RX7 113 yX7_in wsX7_in) := goodIn_app (goodIn_of _ (by decide +kernel)) ggX7_doRemove_X7_in
set_option maxRecDepth 20000 in
theorem ggX7_doRemove_X7_refuse : GoodIn wsX7_doRemove wsX7_refuse := goodIn_r _ [9, 10, 107, 108, 109, 110, 111, 112, 113, 114, 115, 116, 117, 118, 119] (by decide +kernel) (by decide +kernel)
set_option maxRecDepth 20000 in
theorem gX7_doRemove_X7_refuse : GoodIn wsX7_doRemove (wsV RX7 117 RX7 yX7_refuse wsX7_refuse) := goodIn_app (goodIn_of _ (by decide +kernel)) ggX7_doRemove_X7_refuse
set_option maxRecDepth 20000 in
theorem ggX7_doRemove_X7_drafts : GoodIn wsX7_doRemove wsX7_drafts := goodIn_r _ [14, 1, 15, 16, 17, 4, 18, 19, 20, 21, 22, 23, 24, 25, 26, 107, 108, 109, 110, 111, 112, 113, 114, 115, 116, 117, 118, 119] (by decide +kernel) (by decide +kernel)
set_option maxRecDepth 20000 in
theorem gX7_doRemove_X7_drafts : GoodIn wsX7_doRemove (wsV RX7 93 RX7 yX7_drafts wsX7_drafts) := goodIn_app (goodIn_of _ (by decide +kernel)) ggX7_doRemove_X7_drafts
set_option maxRecDepth 20000 in
theorem ggX7_doRemove_X7_valueBy : GoodIn wsX7_doRemove wsX7_valueBy := goodIn_r _ [30, 31, 32, 33, 4, 34, 35, 36, 37, 38, 1, 39, 40, 41, 42, 43, 44, 45, 46, 47, 48, 49, 50, 51, 52, 53, 54, 107, 108, 109, 110, 111, 112, 113, 114, 115, 116, 117, 118, 119] (by decide +kernel) (by decide +kernel)
set_option maxRecDepth 20000 in
theorem gX7_doRemove_X7_valueBy : GoodIn wsX7_doRemove (wsV RX7 139 RX7 yX7_valueBy wsX7_valueBy) := goodIn_app (goodIn_of _ (by decide +kernel)) ggX7_doRemove_X7_valueBy
set_option maxRecDepth 20000 in
theorem ggX7_doRemove_X7_placeFor : GoodIn wsX7_doRemove wsX7_placeFor := goodIn_r _ [34, 35, 36, 37, 4, 38, 1, 39, 40, 41, 42, 43, 44, 45, 46, 107, 108, 109, 110, 111, 112, 113, 114, 115, 116, 117, 118, 119] (by decide +kernel) (by decide +kernel)
set_option maxRecDepth 20000 in
theorem gX7_doRemove_X7_placeFor : GoodIn wsX7_doRemove (wsV RX7 81 RX7 yX7_placeFor wsX7_placeFor) := goodIn_app (goodIn_of _ (by decide +kernel)) ggX7_doRemove_X7_placeFor
set_option maxRecDepth 20000 in
theorem ggX7_doRemove_X7_leafAt : GoodIn wsX7_doRemove wsX7_leafAt := goodIn_r _ [42, 35, 36, 37, 4, 38, 1, 107, 108, 109, 110, 111, 112, 113, 114, 115, 116, 117, 118, 119] (by decide +kernel) (by decide +kernel)
set_option maxRecDepth 20000 in
theorem gX7_doRemove_X7_leafAt : GoodIn wsX7_doRemove (wsV RX7 75 RX7 yX7_leafAt wsX7_leafAt) := goodIn_app (goodIn_of _ (by decide +kernel)) ggX7_doRemove_X7_leafAt
set_option maxRecDepth 20000 in
theorem ggX7_doRemove_X7_of : GoodIn wsX7_doRemove wsX7_of := goodIn_r _ [38, 1, 107, 108, 109, 110, 111, 112, 113, 114, 115, 116, 117, 118, 119] (by decide +kernel) (by decide +kernel)
set_option maxRecDepth 20000 in
theorem gX7_doRemove_X7_of : GoodIn wsX7_doRemove (wsV RX7 53 RX7 yX7_of wsX7_of) := goodIn_app (goodIn_of _ (by decide +kernel)) ggX7_doRemove_X7_of
set_option maxRecDepth 20000 in
theorem ggX7_doRemove_X7_manyToDig : GoodIn wsX7_doRemove wsX7_manyToDig := goodIn_r _ [58, 59, 60, 61, 4, 62, 35, 36, 37, 38, 1, 63, 64, 65, 66, 19, 20, 21, 22, 23, 24, 25, 26, 67, 68, 69, 70, 107, 108, 109, 110, 111, 112, 113, 114, 115, 116, 117, 118, 119] (by decide +kernel) (by decide +kernel)
set_option maxRecDepth 20000 in
theorem gX7_doRemove_X7_manyToDig : GoodIn wsX7_doRemove (wsV RX7 123 RX7 yX7_manyToDig wsX7_manyToDig) := goodIn_app (goodIn_of _ (by decide +kernel)) ggX7_doRemove_X7_manyToDig
set_option maxRecDepth 20000 in
theorem ggX7_doRemove_X7_directory : GoodIn wsX7_doRemove wsX7_directory := goodIn_r _ [74, 1, 15, 16, 17, 4, 18, 19, 20, 21, 22, 23, 24, 25, 26, 75, 76, 77, 78, 79, 80, 81, 82, 59, 60, 61, 62, 35, 36, 37, 38, 63, 64, 65, 66, 67, 68, 69, 70, 83, 84, 85, 86, 87, 88, 89, 90, 91, 92, 93, 94, 95, 96, 97, 98, 107, 108, 109, 110, 111, 112, 113, 114, 115, 116, 117, 118, 119] (by decide +kernel) (by decide +kernel)
set_option maxRecDepth 20000 in
theorem gX7_doRemove_X7_directory : GoodIn wsX7_doRemove (wsV RX7 126 RX7 yX7_directory wsX7_directory) := goodIn_app (goodIn_of _ (by decide +kernel)) ggX7_doRemove_X7_directory
set_option maxRecDepth 20000 in
theorem ggX7_doRemove_X7_leaves : GoodIn wsX7_doRemove wsX7_leaves := goodIn_r _ [94, 35, 36, 37, 4, 38, 1, 95, 96, 97, 98, 83, 84, 85, 86, 107, 108, 109, 110, 111, 112, 113, 114, 115, 116, 117, 118, 119] (by decide +kernel) (by decide +kernel)
set_option maxRecDepth 20000 in
theorem gX7_doRemove_X7_leaves : GoodIn wsX7_doRemove (wsV RX7 103 RX7 yX7_leaves wsX7_leaves) := goodIn_app (goodIn_of _ (by decide +kernel)) ggX7_doRemove_X7_leaves
set_option maxRecDepth 20000 in
theorem ggX7_doRemove_X7_lay : GoodIn wsX7_doRemove wsX7_lay := goodIn_r _ [86, 1, 107, 108, 109, 110, 111, 112, 113, 114, 115, 116, 117, 118, 119] (by decide +kernel) (by decide +kernel)
set_option maxRecDepth 20000 in
theorem gX7_doRemove_X7_lay : GoodIn wsX7_doRemove (wsV RX7 67 RX7 yX7_lay wsX7_lay) := goodIn_app (goodIn_of _ (by decide +kernel)) ggX7_doRemove_X7_lay
set_option maxRecDepth 20000 in
theorem ggX7_doRemove_X7_ownLeaf : GoodIn wsX7_doRemove wsX7_ownLeaf := goodIn_r _ [102, 39, 40, 41, 4, 42, 35, 36, 37, 38, 1, 75, 76, 77, 78, 79, 80, 81, 82, 59, 60, 61, 62, 63, 64, 65, 66, 19, 20, 21, 22, 23, 24, 25, 26, 67, 68, 69, 70, 83, 84, 85, 86, 87, 88, 89, 90, 91, 92, 93, 94, 95, 96, 97, 98, 107, 108, 109, 110, 111, 112, 113, 114, 115, 116, 117, 118, 119] (by decide +kernel) (by decide +kernel)
set_option maxRecDepth 20000 in
theorem gX7_doRemove_X7_ownLeaf : GoodIn wsX7_doRemove (wsV RX7 132 RX7 yX7_ownLeaf wsX7_ownLeaf) := goodIn_app (goodIn_of _ (by decide +kernel)) ggX7_doRemove_X7_ownLeaf
set_option maxRecDepth 20000 in
theorem ggX7_doRemove_X7_placeIn : GoodIn wsX7_doRemove wsX7_placeIn := goodIn_r _ [50, 35, 36, 37, 4, 38, 1, 43, 44, 45, 46, 107, 108, 109, 110, 111, 112, 113, 114, 115, 116, 117, 118, 119] (by decide +kernel) (by decide +kernel)
set_option maxRecDepth 20000 in
theorem gX7_doRemove_X7_placeIn : GoodIn wsX7_doRemove (wsV RX7 84 RX7 yX7_placeIn wsX7_placeIn) := goodIn_app (goodIn_of _ (by decide +kernel)) ggX7_doRemove_X7_placeIn
set_option maxRecDepth 20000 in
theorem ggX7_doRemove_X7_keyAt : GoodIn wsX7_doRemove wsX7_keyAt := goodIn_r _ [46, 35, 36, 37, 4, 38, 1, 107, 108, 109, 110, 111, 112, 113, 114, 115, 116, 117, 118, 119] (by decide +kernel) (by decide +kernel)
set_option maxRecDepth 20000 in
theorem gX7_doRemove_X7_keyAt : GoodIn wsX7_doRemove (wsV RX7 78 RX7 yX7_keyAt wsX7_keyAt) := goodIn_app (goodIn_of _ (by decide +kernel)) ggX7_doRemove_X7_keyAt
set_option maxRecDepth 20000 in
theorem ggX7_doRemove_X7_valueAt : GoodIn wsX7_doRemove wsX7_valueAt := goodIn_r _ [54, 35, 36, 37, 4, 38, 1, 107, 108, 109, 110, 111, 112, 113, 114, 115, 116, 117, 118, 119] (by decide +kernel) (by decide +kernel)
set_option maxRecDepth 20000 in
theorem gX7_doRemove_X7_valueAt : GoodIn wsX7_doRemove (wsV RX7 87 RX7 yX7_valueAt wsX7_valueAt) := goodIn_app (goodIn_of _ (by decide +kernel)) ggX7_doRemove_X7_valueAt
set_option maxRecDepth 20000 in
theorem ggX7_doRemove_X7_setEntry : GoodIn wsX7_doRemove wsX7_setEntry := goodIn_r _ [106, 83, 84, 85, 4, 86, 1, 107, 108, 109, 110, 111, 112, 113, 114, 115, 116, 117, 118, 119] (by decide +kernel) (by decide +kernel)
set_option maxRecDepth 20000 in
theorem gX7_doRemove_X7_setEntry : GoodIn wsX7_doRemove (wsV RX7 106 RX7 yX7_setEntry wsX7_setEntry) := goodIn_app (goodIn_of _ (by decide +kernel)) ggX7_doRemove_X7_setEntry
theorem dX7_doRemove_0 : decode cX7_doRemove 0 = .ok (.iload_n 1, 1) := by decide +kernel
theorem dX7_doRemove_1 : decode cX7_doRemove 1 = .ok (.iconst 0, 1) := by decide +kernel
theorem dX7_doRemove_2 : decode cX7_doRemove 2 = .ok (.bipush 99, 2) := by decide +kernel
theorem dX7_doRemove_4 : decode cX7_doRemove 4 = .ok (.invokestatic 113, 3) := by decide +kernel
theorem dX7_doRemove_7 : decode cX7_doRemove 7 = .ok (.ifCond .ne 9, 3) := by decide +kernel
theorem dX7_doRemove_10 : decode cX7_doRemove 10 = .ok (.aload_n 0, 1) := by decide +kernel
theorem dX7_doRemove_11 : decode cX7_doRemove 11 = .ok (.iconst 1, 1) := by decide +kernel
theorem dX7_doRemove_12 : decode cX7_doRemove 12 = .ok (.invokevirtual 117, 3) := by decide +kernel
theorem dX7_doRemove_15 : decode cX7_doRemove 15 = .ok (.ireturn, 1) := by decide +kernel
theorem dX7_doRemove_16 : decode cX7_doRemove 16 = .ok (.aload_n 0, 1) := by decide +kernel
theorem dX7_doRemove_17 : decode cX7_doRemove 17 = .ok (.getfield 7, 3) := by decide +kernel
theorem dX7_doRemove_20 : decode cX7_doRemove 20 = .ok (.sipush 466, 3) := by decide +kernel
theorem dX7_doRemove_23 : decode cX7_doRemove 23 = .ok (.iaload, 1) := by decide +kernel
theorem dX7_doRemove_24 : decode cX7_doRemove 24 = .ok (.ifCond .ne 9, 3) := by decide +kernel
theorem dX7_doRemove_27 : decode cX7_doRemove 27 = .ok (.sipush (-1000), 3) := by decide +kernel
theorem dX7_doRemove_30 : decode cX7_doRemove 30 = .ok (.goto 12, 3) := by decide +kernel
theorem dX7_doRemove_33 : decode cX7_doRemove 33 = .ok (.aload_n 0, 1) := by decide +kernel
theorem dX7_doRemove_34 : decode cX7_doRemove 34 = .ok (.aload_n 0, 1) := by decide +kernel
theorem dX7_doRemove_35 : decode cX7_doRemove 35 = .ok (.invokevirtual 93, 3) := by decide +kernel
theorem dX7_doRemove_38 : decode cX7_doRemove 38 = .ok (.iload_n 1, 1) := by decide +kernel
theorem dX7_doRemove_39 : decode cX7_doRemove 39 = .ok (.invokevirtual 139, 3) := by decide +kernel
theorem dX7_doRemove_42 : decode cX7_doRemove 42 = .ok (.istore_n 2, 1) := by decide +kernel
theorem dX7_doRemove_43 : decode cX7_doRemove 43 = .ok (.iload_n 2, 1) := by decide +kernel
theorem dX7_doRemove_44 : decode cX7_doRemove 44 = .ok (.sipush (-1000), 3) := by decide +kernel
theorem dX7_doRemove_47 : decode cX7_doRemove 47 = .ok (.if_icmp .ne 9, 3) := by decide +kernel
theorem dX7_doRemove_50 : decode cX7_doRemove 50 = .ok (.aload_n 0, 1) := by decide +kernel
theorem dX7_doRemove_51 : decode cX7_doRemove 51 = .ok (.iconst 2, 1) := by decide +kernel
theorem dX7_doRemove_52 : decode cX7_doRemove 52 = .ok (.invokevirtual 117, 3) := by decide +kernel
theorem dX7_doRemove_55 : decode cX7_doRemove 55 = .ok (.ireturn, 1) := by decide +kernel
theorem dX7_doRemove_56 : decode cX7_doRemove 56 = .ok (.aload_n 0, 1) := by decide +kernel
theorem dX7_doRemove_57 : decode cX7_doRemove 57 = .ok (.aload_n 0, 1) := by decide +kernel
theorem dX7_doRemove_58 : decode cX7_doRemove 58 = .ok (.invokevirtual 93, 3) := by decide +kernel
theorem dX7_doRemove_61 : decode cX7_doRemove 61 = .ok (.iload_n 1, 1) := by decide +kernel
theorem dX7_doRemove_62 : decode cX7_doRemove 62 = .ok (.invokevirtual 81, 3) := by decide +kernel
theorem dX7_doRemove_65 : decode cX7_doRemove 65 = .ok (.istore_n 3, 1) := by decide +kernel
theorem dX7_doRemove_66 : decode cX7_doRemove 66 = .ok (.aload_n 0, 1) := by decide +kernel
theorem dX7_doRemove_67 : decode cX7_doRemove 67 = .ok (.aload_n 0, 1) := by decide +kernel
theorem dX7_doRemove_68 : decode cX7_doRemove 68 = .ok (.invokevirtual 93, 3) := by decide +kernel
theorem dX7_doRemove_71 : decode cX7_doRemove 71 = .ok (.iload_n 3, 1) := by decide +kernel
theorem dX7_doRemove_72 : decode cX7_doRemove 72 = .ok (.invokevirtual 75, 3) := by decide +kernel
theorem dX7_doRemove_75 : decode cX7_doRemove 75 = .ok (.istore 4, 2) := by decide +kernel
theorem dX7_doRemove_77 : decode cX7_doRemove 77 = .ok (.aload_n 0, 1) := by decide +kernel
theorem dX7_doRemove_78 : decode cX7_doRemove 78 = .ok (.iload 4, 2) := by decide +kernel
theorem dX7_doRemove_80 : decode cX7_doRemove 80 = .ok (.iconst 2, 1) := by decide +kernel
theorem dX7_doRemove_81 : decode cX7_doRemove 81 = .ok (.invokevirtual 53, 3) := by decide +kernel
theorem dX7_doRemove_84 : decode cX7_doRemove 84 = .ok (.iconst 1, 1) := by decide +kernel
theorem dX7_doRemove_85 : decode cX7_doRemove 85 = .ok (.if_icmp .ne 7, 3) := by decide +kernel
theorem dX7_doRemove_88 : decode cX7_doRemove 88 = .ok (.iconst 1, 1) := by decide +kernel
theorem dX7_doRemove_89 : decode cX7_doRemove 89 = .ok (.goto 4, 3) := by decide +kernel
theorem dX7_doRemove_92 : decode cX7_doRemove 92 = .ok (.iconst 0, 1) := by decide +kernel
theorem dX7_doRemove_93 : decode cX7_doRemove 93 = .ok (.istore 5, 2) := by decide +kernel
theorem dX7_doRemove_95 : decode cX7_doRemove 95 = .ok (.aload_n 0, 1) := by decide +kernel
theorem dX7_doRemove_96 : decode cX7_doRemove 96 = .ok (.getfield 7, 3) := by decide +kernel
theorem dX7_doRemove_99 : decode cX7_doRemove 99 = .ok (.sipush 467, 3) := by decide +kernel
theorem dX7_doRemove_102 : decode cX7_doRemove 102 = .ok (.iaload, 1) := by decide +kernel
theorem dX7_doRemove_103 : decode cX7_doRemove 103 = .ok (.ifCond .ge 7, 3) := by decide +kernel
theorem dX7_doRemove_106 : decode cX7_doRemove 106 = .ok (.iconst 1, 1) := by decide +kernel
theorem dX7_doRemove_107 : decode cX7_doRemove 107 = .ok (.goto 4, 3) := by decide +kernel
theorem dX7_doRemove_110 : decode cX7_doRemove 110 = .ok (.iconst 0, 1) := by decide +kernel
theorem dX7_doRemove_111 : decode cX7_doRemove 111 = .ok (.iload 5, 2) := by decide +kernel
theorem dX7_doRemove_113 : decode cX7_doRemove 113 = .ok (.ifCond .ne 14, 3) := by decide +kernel
theorem dX7_doRemove_116 : decode cX7_doRemove 116 = .ok (.aload_n 0, 1) := by decide +kernel
theorem dX7_doRemove_117 : decode cX7_doRemove 117 = .ok (.iload 4, 2) := by decide +kernel
theorem dX7_doRemove_119 : decode cX7_doRemove 119 = .ok (.iconst 4, 1) := by decide +kernel
theorem dX7_doRemove_120 : decode cX7_doRemove 120 = .ok (.invokevirtual 53, 3) := by decide +kernel
theorem dX7_doRemove_123 : decode cX7_doRemove 123 = .ok (.iconst 1, 1) := by decide +kernel
theorem dX7_doRemove_124 : decode cX7_doRemove 124 = .ok (.if_icmp .ne 7, 3) := by decide +kernel
theorem dX7_doRemove_127 : decode cX7_doRemove 127 = .ok (.iconst 0, 1) := by decide +kernel
theorem dX7_doRemove_128 : decode cX7_doRemove 128 = .ok (.goto 4, 3) := by decide +kernel
theorem dX7_doRemove_131 : decode cX7_doRemove 131 = .ok (.iconst 1, 1) := by decide +kernel
theorem dX7_doRemove_132 : decode cX7_doRemove 132 = .ok (.iadd, 1) := by decide +kernel
theorem dX7_doRemove_133 : decode cX7_doRemove 133 = .ok (.istore 6, 2) := by decide +kernel
theorem dX7_doRemove_135 : decode cX7_doRemove 135 = .ok (.iload 6, 2) := by decide +kernel
theorem dX7_doRemove_137 : decode cX7_doRemove 137 = .ok (.aload_n 0, 1) := by decide +kernel
theorem dX7_doRemove_138 : decode cX7_doRemove 138 = .ok (.invokevirtual 123, 3) := by decide +kernel
theorem dX7_doRemove_141 : decode cX7_doRemove 141 = .ok (.if_icmp .le 9, 3) := by decide +kernel
theorem dX7_doRemove_144 : decode cX7_doRemove 144 = .ok (.aload_n 0, 1) := by decide +kernel
theorem dX7_doRemove_145 : decode cX7_doRemove 145 = .ok (.iconst 2, 1) := by decide +kernel
theorem dX7_doRemove_146 : decode cX7_doRemove 146 = .ok (.invokevirtual 117, 3) := by decide +kernel
theorem dX7_doRemove_149 : decode cX7_doRemove 149 = .ok (.ireturn, 1) := by decide +kernel
theorem dX7_doRemove_150 : decode cX7_doRemove 150 = .ok (.aload_n 0, 1) := by decide +kernel
theorem dX7_doRemove_151 : decode cX7_doRemove 151 = .ok (.invokevirtual 126, 3) := by decide +kernel
theorem dX7_doRemove_154 : decode cX7_doRemove 154 = .ok (.istore 7, 2) := by decide +kernel
theorem dX7_doRemove_156 : decode cX7_doRemove 156 = .ok (.iload 5, 2) := by decide +kernel
theorem dX7_doRemove_158 : decode cX7_doRemove 158 = .ok (.ifCond .eq 71, 3) := by decide +kernel
theorem dX7_doRemove_161 : decode cX7_doRemove 161 = .ok (.aload_n 0, 1) := by decide +kernel
theorem dX7_doRemove_162 : decode cX7_doRemove 162 = .ok (.iload 4, 2) := by decide +kernel
theorem dX7_doRemove_164 : decode cX7_doRemove 164 = .ok (.invokevirtual 103, 3) := by decide +kernel
theorem dX7_doRemove_167 : decode cX7_doRemove 167 = .ok (.iload_n 3, 1) := by decide +kernel
theorem dX7_doRemove_168 : decode cX7_doRemove 168 = .ok (.istore 8, 2) := by decide +kernel
theorem dX7_doRemove_170 : decode cX7_doRemove 170 = .ok (.iload 8, 2) := by decide +kernel
theorem dX7_doRemove_172 : decode cX7_doRemove 172 = .ok (.iconst 1, 1) := by decide +kernel
theorem dX7_doRemove_173 : decode cX7_doRemove 173 = .ok (.iadd, 1) := by decide +kernel
theorem dX7_doRemove_174 : decode cX7_doRemove 174 = .ok (.aload_n 0, 1) := by decide +kernel
theorem dX7_doRemove_175 : decode cX7_doRemove 175 = .ok (.iload 7, 2) := by decide +kernel
theorem dX7_doRemove_177 : decode cX7_doRemove 177 = .ok (.iconst 2, 1) := by decide +kernel
theorem dX7_doRemove_178 : decode cX7_doRemove 178 = .ok (.invokevirtual 53, 3) := by decide +kernel
theorem dX7_doRemove_181 : decode cX7_doRemove 181 = .ok (.if_icmp .ge 30, 3) := by decide +kernel
theorem dX7_doRemove_184 : decode cX7_doRemove 184 = .ok (.aload_n 0, 1) := by decide +kernel
theorem dX7_doRemove_185 : decode cX7_doRemove 185 = .ok (.iload 7, 2) := by decide +kernel
theorem dX7_doRemove_187 : decode cX7_doRemove 187 = .ok (.bipush 6, 2) := by decide +kernel
theorem dX7_doRemove_189 : decode cX7_doRemove 189 = .ok (.iload 8, 2) := by decide +kernel
theorem dX7_doRemove_191 : decode cX7_doRemove 191 = .ok (.iadd, 1) := by decide +kernel
theorem dX7_doRemove_192 : decode cX7_doRemove 192 = .ok (.aload_n 0, 1) := by decide +kernel
theorem dX7_doRemove_193 : decode cX7_doRemove 193 = .ok (.iload 7, 2) := by decide +kernel
theorem dX7_doRemove_195 : decode cX7_doRemove 195 = .ok (.iload 8, 2) := by decide +kernel
theorem dX7_doRemove_197 : decode cX7_doRemove 197 = .ok (.iconst 1, 1) := by decide +kernel
theorem dX7_doRemove_198 : decode cX7_doRemove 198 = .ok (.iadd, 1) := by decide +kernel
theorem dX7_doRemove_199 : decode cX7_doRemove 199 = .ok (.invokevirtual 75, 3) := by decide +kernel
theorem dX7_doRemove_202 : decode cX7_doRemove 202 = .ok (.invokevirtual 67, 3) := by decide +kernel
theorem dX7_doRemove_205 : decode cX7_doRemove 205 = .ok (.iinc 8 1, 3) := by decide +kernel
theorem dX7_doRemove_208 : decode cX7_doRemove 208 = .ok (.goto (-38), 3) := by decide +kernel
theorem dX7_doRemove_211 : decode cX7_doRemove 211 = .ok (.aload_n 0, 1) := by decide +kernel
theorem dX7_doRemove_212 : decode cX7_doRemove 212 = .ok (.iload 7, 2) := by decide +kernel
theorem dX7_doRemove_214 : decode cX7_doRemove 214 = .ok (.iconst 2, 1) := by decide +kernel
theorem dX7_doRemove_215 : decode cX7_doRemove 215 = .ok (.aload_n 0, 1) := by decide +kernel
theorem dX7_doRemove_216 : decode cX7_doRemove 216 = .ok (.iload 7, 2) := by decide +kernel
theorem dX7_doRemove_218 : decode cX7_doRemove 218 = .ok (.iconst 2, 1) := by decide +kernel
theorem dX7_doRemove_219 : decode cX7_doRemove 219 = .ok (.invokevirtual 53, 3) := by decide +kernel
theorem dX7_doRemove_222 : decode cX7_doRemove 222 = .ok (.iconst 1, 1) := by decide +kernel
theorem dX7_doRemove_223 : decode cX7_doRemove 223 = .ok (.isub, 1) := by decide +kernel
theorem dX7_doRemove_224 : decode cX7_doRemove 224 = .ok (.invokevirtual 67, 3) := by decide +kernel
theorem dX7_doRemove_227 : decode cX7_doRemove 227 = .ok (.iload_n 2, 1) := by decide +kernel
theorem dX7_doRemove_228 : decode cX7_doRemove 228 = .ok (.ireturn, 1) := by decide +kernel
theorem dX7_doRemove_229 : decode cX7_doRemove 229 = .ok (.aload_n 0, 1) := by decide +kernel
theorem dX7_doRemove_230 : decode cX7_doRemove 230 = .ok (.iload 7, 2) := by decide +kernel
theorem dX7_doRemove_232 : decode cX7_doRemove 232 = .ok (.iload_n 3, 1) := by decide +kernel
theorem dX7_doRemove_233 : decode cX7_doRemove 233 = .ok (.invokevirtual 132, 3) := by decide +kernel
theorem dX7_doRemove_236 : decode cX7_doRemove 236 = .ok (.istore 8, 2) := by decide +kernel
theorem dX7_doRemove_238 : decode cX7_doRemove 238 = .ok (.aload_n 0, 1) := by decide +kernel
theorem dX7_doRemove_239 : decode cX7_doRemove 239 = .ok (.iload 8, 2) := by decide +kernel
theorem dX7_doRemove_241 : decode cX7_doRemove 241 = .ok (.iload_n 1, 1) := by decide +kernel
theorem dX7_doRemove_242 : decode cX7_doRemove 242 = .ok (.invokevirtual 84, 3) := by decide +kernel
theorem dX7_doRemove_245 : decode cX7_doRemove 245 = .ok (.istore 9, 2) := by decide +kernel
theorem dX7_doRemove_247 : decode cX7_doRemove 247 = .ok (.iload 9, 2) := by decide +kernel
theorem dX7_doRemove_249 : decode cX7_doRemove 249 = .ok (.iconst 1, 1) := by decide +kernel
theorem dX7_doRemove_250 : decode cX7_doRemove 250 = .ok (.iadd, 1) := by decide +kernel
theorem dX7_doRemove_251 : decode cX7_doRemove 251 = .ok (.aload_n 0, 1) := by decide +kernel
theorem dX7_doRemove_252 : decode cX7_doRemove 252 = .ok (.iload 8, 2) := by decide +kernel
theorem dX7_doRemove_254 : decode cX7_doRemove 254 = .ok (.iconst 2, 1) := by decide +kernel
theorem dX7_doRemove_255 : decode cX7_doRemove 255 = .ok (.invokevirtual 53, 3) := by decide +kernel
theorem dX7_doRemove_258 : decode cX7_doRemove 258 = .ok (.if_icmp .ge 37, 3) := by decide +kernel
theorem dX7_doRemove_261 : decode cX7_doRemove 261 = .ok (.aload_n 0, 1) := by decide +kernel
theorem dX7_doRemove_262 : decode cX7_doRemove 262 = .ok (.iload 8, 2) := by decide +kernel
theorem dX7_doRemove_264 : decode cX7_doRemove 264 = .ok (.iload 9, 2) := by decide +kernel
theorem dX7_doRemove_266 : decode cX7_doRemove 266 = .ok (.aload_n 0, 1) := by decide +kernel
theorem dX7_doRemove_267 : decode cX7_doRemove 267 = .ok (.iload 8, 2) := by decide +kernel
theorem dX7_doRemove_269 : decode cX7_doRemove 269 = .ok (.iload 9, 2) := by decide +kernel
theorem dX7_doRemove_271 : decode cX7_doRemove 271 = .ok (.iconst 1, 1) := by decide +kernel
theorem dX7_doRemove_272 : decode cX7_doRemove 272 = .ok (.iadd, 1) := by decide +kernel
theorem dX7_doRemove_273 : decode cX7_doRemove 273 = .ok (.invokevirtual 78, 3) := by decide +kernel
theorem dX7_doRemove_276 : decode cX7_doRemove 276 = .ok (.aload_n 0, 1) := by decide +kernel
theorem dX7_doRemove_277 : decode cX7_doRemove 277 = .ok (.iload 8, 2) := by decide +kernel
theorem dX7_doRemove_279 : decode cX7_doRemove 279 = .ok (.iload 9, 2) := by decide +kernel
theorem dX7_doRemove_281 : decode cX7_doRemove 281 = .ok (.iconst 1, 1) := by decide +kernel
theorem dX7_doRemove_282 : decode cX7_doRemove 282 = .ok (.iadd, 1) := by decide +kernel
theorem dX7_doRemove_283 : decode cX7_doRemove 283 = .ok (.invokevirtual 87, 3) := by decide +kernel
theorem dX7_doRemove_286 : decode cX7_doRemove 286 = .ok (.invokevirtual 106, 3) := by decide +kernel
theorem dX7_doRemove_289 : decode cX7_doRemove 289 = .ok (.iinc 9 1, 3) := by decide +kernel
theorem dX7_doRemove_292 : decode cX7_doRemove 292 = .ok (.goto (-45), 3) := by decide +kernel
theorem dX7_doRemove_295 : decode cX7_doRemove 295 = .ok (.aload_n 0, 1) := by decide +kernel
theorem dX7_doRemove_296 : decode cX7_doRemove 296 = .ok (.iload 8, 2) := by decide +kernel
theorem dX7_doRemove_298 : decode cX7_doRemove 298 = .ok (.iconst 2, 1) := by decide +kernel
theorem dX7_doRemove_299 : decode cX7_doRemove 299 = .ok (.aload_n 0, 1) := by decide +kernel
theorem dX7_doRemove_300 : decode cX7_doRemove 300 = .ok (.iload 8, 2) := by decide +kernel
theorem dX7_doRemove_302 : decode cX7_doRemove 302 = .ok (.iconst 2, 1) := by decide +kernel
theorem dX7_doRemove_303 : decode cX7_doRemove 303 = .ok (.invokevirtual 53, 3) := by decide +kernel
theorem dX7_doRemove_306 : decode cX7_doRemove 306 = .ok (.iconst 1, 1) := by decide +kernel
theorem dX7_doRemove_307 : decode cX7_doRemove 307 = .ok (.isub, 1) := by decide +kernel
theorem dX7_doRemove_308 : decode cX7_doRemove 308 = .ok (.invokevirtual 67, 3) := by decide +kernel
theorem dX7_doRemove_311 : decode cX7_doRemove 311 = .ok (.iload_n 2, 1) := by decide +kernel
theorem dX7_doRemove_312 : decode cX7_doRemove 312 = .ok (.ireturn, 1) := by decide +kernel
set_option maxRecDepth 20000 in
theorem ggX7_doBegin_X7_refuse : GoodIn wsX7_doBegin wsX7_refuse := goodIn_r _ [6, 7, 16, 17, 18, 19, 20, 21, 22, 23, 24, 25, 26, 27, 28] (by decide +kernel) (by decide +kernel)
set_option maxRecDepth 20000 in
theorem gX7_doBegin_X7_refuse : GoodIn wsX7_doBegin (wsV RX7 117 RX7 yX7_refuse wsX7_refuse) := goodIn_app (goodIn_of _ (by decide +kernel)) ggX7_doBegin_X7_refuse
set_option maxRecDepth 20000 in
theorem ggX7_doBegin_X7_current : GoodIn wsX7_doBegin wsX7_current := goodIn_r _ [11, 1, 16, 17, 18, 19, 20, 21, 22, 23, 24, 25, 26, 27, 28] (by decide +kernel) (by decide +kernel)
set_option maxRecDepth 20000 in
theorem gX7_doBegin_X7_current : GoodIn wsX7_doBegin (wsV RX7 42 RX7 yX7_current wsX7_current) := goodIn_app (goodIn_of _ (by decide +kernel)) ggX7_doBegin_X7_current
set_option maxRecDepth 20000 in
theorem ggX7_doBegin_X7_ofRoot : GoodIn wsX7_doBegin wsX7_ofRoot := goodIn_r _ [15, 1, 16, 17, 18, 19, 20, 21, 22, 23, 24, 25, 26, 27, 28] (by decide +kernel) (by decide +kernel)
set_option maxRecDepth 20000 in
theorem gX7_doBegin_X7_ofRoot : GoodIn wsX7_doBegin (wsV RX7 46 RX7 yX7_ofRoot wsX7_ofRoot) := goodIn_app (goodIn_of _ (by decide +kernel)) ggX7_doBegin_X7_ofRoot
theorem dX7_doBegin_0 : decode cX7_doBegin 0 = .ok (.aload_n 0, 1) := by decide +kernel
theorem dX7_doBegin_1 : decode cX7_doBegin 1 = .ok (.getfield 7, 3) := by decide +kernel
theorem dX7_doBegin_4 : decode cX7_doBegin 4 = .ok (.sipush 466, 3) := by decide +kernel
theorem dX7_doBegin_7 : decode cX7_doBegin 7 = .ok (.iaload, 1) := by decide +kernel
theorem dX7_doBegin_8 : decode cX7_doBegin 8 = .ok (.iconst 1, 1) := by decide +kernel
theorem dX7_doBegin_9 : decode cX7_doBegin 9 = .ok (.if_icmp .ne 9, 3) := by decide +kernel
theorem dX7_doBegin_12 : decode cX7_doBegin 12 = .ok (.aload_n 0, 1) := by decide +kernel
theorem dX7_doBegin_13 : decode cX7_doBegin 13 = .ok (.iconst 1, 1) := by decide +kernel
theorem dX7_doBegin_14 : decode cX7_doBegin 14 = .ok (.invokevirtual 117, 3) := by decide +kernel
theorem dX7_doBegin_17 : decode cX7_doBegin 17 = .ok (.ireturn, 1) := by decide +kernel
theorem dX7_doBegin_18 : decode cX7_doBegin 18 = .ok (.aload_n 0, 1) := by decide +kernel
theorem dX7_doBegin_19 : decode cX7_doBegin 19 = .ok (.getfield 7, 3) := by decide +kernel
theorem dX7_doBegin_22 : decode cX7_doBegin 22 = .ok (.sipush 466, 3) := by decide +kernel
theorem dX7_doBegin_25 : decode cX7_doBegin 25 = .ok (.iconst 1, 1) := by decide +kernel
theorem dX7_doBegin_26 : decode cX7_doBegin 26 = .ok (.iastore, 1) := by decide +kernel
theorem dX7_doBegin_27 : decode cX7_doBegin 27 = .ok (.aload_n 0, 1) := by decide +kernel
theorem dX7_doBegin_28 : decode cX7_doBegin 28 = .ok (.getfield 7, 3) := by decide +kernel
theorem dX7_doBegin_31 : decode cX7_doBegin 31 = .ok (.sipush 467, 3) := by decide +kernel
theorem dX7_doBegin_34 : decode cX7_doBegin 34 = .ok (.iconst (-1), 1) := by decide +kernel
theorem dX7_doBegin_35 : decode cX7_doBegin 35 = .ok (.iastore, 1) := by decide +kernel
theorem dX7_doBegin_36 : decode cX7_doBegin 36 = .ok (.aload_n 0, 1) := by decide +kernel
theorem dX7_doBegin_37 : decode cX7_doBegin 37 = .ok (.aload_n 0, 1) := by decide +kernel
theorem dX7_doBegin_38 : decode cX7_doBegin 38 = .ok (.invokevirtual 42, 3) := by decide +kernel
theorem dX7_doBegin_41 : decode cX7_doBegin 41 = .ok (.iconst 0, 1) := by decide +kernel
theorem dX7_doBegin_42 : decode cX7_doBegin 42 = .ok (.invokevirtual 46, 3) := by decide +kernel
theorem dX7_doBegin_45 : decode cX7_doBegin 45 = .ok (.ireturn, 1) := by decide +kernel
set_option maxRecDepth 20000 in
theorem ggX7_begin_X7_hold : GoodIn wsX7_begin wsX7_hold := goodIn_r _ [5, 6, 7, 8, 9, 10, 4, 11, 35, 36, 37, 38, 39, 40, 41, 42, 43, 44, 45, 46, 47] (by decide +kernel) (by decide +kernel)
set_option maxRecDepth 20000 in
theorem gX7_begin_X7_hold : GoodIn wsX7_begin (wsV RX7 142 RX7 yX7_hold wsX7_hold) := goodIn_app (goodIn_of _ (by decide +kernel)) ggX7_begin_X7_hold
set_option maxRecDepth 20000 in
theorem ggX7_begin_X7_doBegin : GoodIn wsX7_begin wsX7_doBegin := goodIn_r _ [15, 7, 16, 17, 18, 4, 19, 6, 20, 21, 22, 23, 24, 25, 26, 27, 35, 36, 37, 38, 39, 40, 41, 42, 43, 44, 45, 46, 47] (by decide +kernel) (by decide +kernel)
set_option maxRecDepth 20000 in
theorem gX7_begin_X7_doBegin : GoodIn wsX7_begin (wsV RX7 145 RX7 yX7_doBegin wsX7_doBegin) := goodIn_app (goodIn_of _ (by decide +kernel)) ggX7_begin_X7_doBegin
set_option maxRecDepth 20000 in
theorem ggX7_begin_X7_ends : GoodIn wsX7_begin wsX7_ends := goodIn_r _ [31, 6, 32, 33, 34, 8, 9, 10, 4, 11, 35, 36, 37, 38, 39, 40, 41, 42, 43, 44, 45, 46, 47] (by decide +kernel) (by decide +kernel)
set_option maxRecDepth 20000 in
theorem gX7_begin_X7_ends : GoodIn wsX7_begin (wsV RX7 148 RX7 yX7_ends wsX7_ends) := goodIn_app (goodIn_of _ (by decide +kernel)) ggX7_begin_X7_ends
theorem dX7_begin_0 : decode cX7_begin 0 = .ok (.aload_n 0, 1) := by decide +kernel
theorem dX7_begin_1 : decode cX7_begin 1 = .ok (.invokevirtual 142, 3) := by decide +kernel
theorem dX7_begin_4 : decode cX7_begin 4 = .ok (.aload_n 0, 1) := by decide +kernel
theorem dX7_begin_5 : decode cX7_begin 5 = .ok (.aload_n 0, 1) := by decide +kernel
theorem dX7_begin_6 : decode cX7_begin 6 = .ok (.invokevirtual 145, 3) := by decide +kernel
theorem dX7_begin_9 : decode cX7_begin 9 = .ok (.invokevirtual 148, 3) := by decide +kernel
theorem dX7_begin_12 : decode cX7_begin 12 = .ok (.ireturn, 1) := by decide +kernel
set_option maxRecDepth 20000 in
theorem ggX7_put_X7_hold : GoodIn wsX7_put wsX7_hold := goodIn_r _ [5, 6, 7, 8, 9, 10, 4, 11, 139, 140, 141, 142, 143, 144, 145, 146, 147, 148, 149, 150, 151] (by decide +kernel) (by decide +kernel)
set_option maxRecDepth 20000 in
theorem gX7_put_X7_hold : GoodIn wsX7_put (wsV RX7 142 RX7 yX7_hold wsX7_hold) := goodIn_app (goodIn_of _ (by decide +kernel)) ggX7_put_X7_hold
set_option maxRecDepth 20000 in
theorem ggX7_put_X7_doPut : GoodIn wsX7_put wsX7_doPut := goodIn_r _ [15, 7, 16, 17, 4, 18, 19, 20, 21, 22, 6, 23, 24, 25, 26, 27, 28, 29, 30, 31, 32, 33, 34, 35, 36, 37, 38, 39, 40, 41, 42, 43, 44, 45, 46, 47, 48, 49, 50, 51, 52, 53, 54, 55, 56, 57, 58, 59, 60, 61, 62, 63, 64, 65, 66, 67, 68, 69, 70, 71, 72, 73, 74, 75, 76, 77, 78, 79, 80, 81, 82, 83, 84, 85, 86, 87, 88, 89, 90, 91, 92, 93, 94, 95, 96, 97, 98, 99, 100, 101, 102, 103, 104, 105, 106, 107, 108, 109, 110, 111, 112, 113, 114, 115, 116, 117, 118, 119, 120, 121, 122, 123, 124, 125, 126, 127, 128, 129, 130, 131, 139, 140, 141, 142, 143, 144, 145, 146, 147, 148, 149, 150, 151] (by decide +kernel) (by decide +kernel)
set_option maxRecDepth 20000 in
theorem gX7_put_X7_doPut : GoodIn wsX7_put (wsV RX7 151 RX7 yX7_doPut wsX7_doPut) := goodIn_app (goodIn_of _ (by decide +kernel)) ggX7_put_X7_doPut
set_option maxRecDepth 20000 in
theorem ggX7_put_X7_ends : GoodIn wsX7_put wsX7_ends := goodIn_r _ [135, 6, 136, 137, 138, 8, 9, 10, 4, 11, 139, 140, 141, 142, 143, 144, 145, 146, 147, 148, 149, 150, 151] (by decide +kernel) (by decide +kernel)
set_option maxRecDepth 20000 in
theorem gX7_put_X7_ends : GoodIn wsX7_put (wsV RX7 148 RX7 yX7_ends wsX7_ends) := goodIn_app (goodIn_of _ (by decide +kernel)) ggX7_put_X7_ends
theorem dX7_put_0 : decode cX7_put 0 = .ok (.aload_n 0, 1) := by decide +kernel
theorem dX7_put_1 : decode cX7_put 1 = .ok (.invokevirtual 142, 3) := by decide +kernel
theorem dX7_put_4 : decode cX7_put 4 = .ok (.aload_n 0, 1) := by decide +kernel
theorem dX7_put_5 : decode cX7_put 5 = .ok (.aload_n 0, 1) := by decide +kernel
theorem dX7_put_6 : decode cX7_put 6 = .ok (.iload_n 1, 1) := by decide +kernel
theorem dX7_put_7 : decode cX7_put 7 = .ok (.iload_n 2, 1) := by decide +kernel
theorem dX7_put_8 : decode cX7_put 8 = .ok (.invokevirtual 151, 3) := by decide +kernel
theorem dX7_put_11 : decode cX7_put 11 = .ok (.invokevirtual 148, 3) := by decide +kernel
theorem dX7_put_14 : decode cX7_put 14 = .ok (.ireturn, 1) := by decide +kernel
set_option maxRecDepth 20000 in
theorem ggX7_remove_X7_hold : GoodIn wsX7_remove wsX7_hold := goodIn_r _ [5, 6, 7, 8, 9, 10, 4, 11, 126, 127, 128, 129, 130, 131, 132, 133, 134, 135, 136, 137, 138] (by decide +kernel) (by decide +kernel)
set_option maxRecDepth 20000 in
theorem gX7_remove_X7_hold : GoodIn wsX7_remove (wsV RX7 142 RX7 yX7_hold wsX7_hold) := goodIn_app (goodIn_of _ (by decide +kernel)) ggX7_remove_X7_hold
set_option maxRecDepth 20000 in
theorem ggX7_remove_X7_doRemove : GoodIn wsX7_remove wsX7_doRemove := goodIn_r _ [15, 7, 16, 17, 4, 18, 19, 20, 21, 22, 6, 23, 24, 25, 26, 27, 28, 29, 30, 31, 32, 33, 34, 35, 36, 37, 38, 39, 40, 41, 42, 43, 44, 45, 46, 47, 48, 49, 50, 51, 52, 53, 54, 55, 56, 57, 58, 59, 60, 61, 62, 63, 64, 65, 66, 67, 68, 69, 70, 71, 72, 73, 74, 75, 76, 77, 78, 79, 80, 81, 82, 83, 84, 85, 86, 87, 88, 89, 90, 91, 92, 93, 94, 95, 96, 97, 98, 99, 100, 101, 102, 103, 104, 105, 106, 107, 108, 109, 110, 111, 112, 113, 114, 115, 116, 117, 118, 126, 127, 128, 129, 130, 131, 132, 133, 134, 135, 136, 137, 138] (by decide +kernel) (by decide +kernel)
set_option maxRecDepth 20000 in
theorem gX7_remove_X7_doRemove : GoodIn wsX7_remove (wsV RX7 154 RX7 yX7_doRemove wsX7_doRemove) := goodIn_app (goodIn_of _ (by decide +kernel)) ggX7_remove_X7_doRemove
set_option maxRecDepth 20000 in
theorem ggX7_remove_X7_ends : GoodIn wsX7_remove wsX7_ends := goodIn_r _ [122, 6, 123, 124, 125, 8, 9, 10, 4, 11, 126, 127, 128, 129, 130, 131, 132, 133, 134, 135, 136, 137, 138] (by decide +kernel) (by decide +kernel)
set_option maxRecDepth 20000 in
theorem gX7_remove_X7_ends : GoodIn wsX7_remove (wsV RX7 148 RX7 yX7_ends wsX7_ends) := goodIn_app (goodIn_of _ (by decide +kernel)) ggX7_remove_X7_ends
theorem dX7_remove_0 : decode cX7_remove 0 = .ok (.aload_n 0, 1) := by decide +kernel
theorem dX7_remove_1 : decode cX7_remove 1 = .ok (.invokevirtual 142, 3) := by decide +kernel
theorem dX7_remove_4 : decode cX7_remove 4 = .ok (.aload_n 0, 1) := by decide +kernel
theorem dX7_remove_5 : decode cX7_remove 5 = .ok (.aload_n 0, 1) := by decide +kernel
theorem dX7_remove_6 : decode cX7_remove 6 = .ok (.iload_n 1, 1) := by decide +kernel
theorem dX7_remove_7 : decode cX7_remove 7 = .ok (.invokevirtual 154, 3) := by decide +kernel
theorem dX7_remove_10 : decode cX7_remove 10 = .ok (.invokevirtual 148, 3) := by decide +kernel
theorem dX7_remove_13 : decode cX7_remove 13 = .ok (.ireturn, 1) := by decide +kernel
set_option maxRecDepth 20000 in
theorem ggX7_drops_X7_lay : GoodIn wsX7_drops wsX7_lay := goodIn_r _ [6, 1, 15, 16, 17, 18, 19, 20, 21, 22, 23, 24, 25, 26, 27] (by decide +kernel) (by decide +kernel)
set_option maxRecDepth 20000 in
theorem gX7_drops_X7_lay : GoodIn wsX7_drops (wsV RX7 67 RX7 yX7_lay wsX7_lay) := goodIn_app (goodIn_of _ (by decide +kernel)) ggX7_drops_X7_lay
set_option maxRecDepth 20000 in
theorem ggX7_drops_X7_of : GoodIn wsX7_drops wsX7_of := goodIn_r _ [10, 1, 15, 16, 17, 18, 19, 20, 21, 22, 23, 24, 25, 26, 27] (by decide +kernel) (by decide +kernel)
set_option maxRecDepth 20000 in
theorem gX7_drops_X7_of : GoodIn wsX7_drops (wsV RX7 53 RX7 yX7_of wsX7_of) := goodIn_app (goodIn_of _ (by decide +kernel)) ggX7_drops_X7_of
set_option maxRecDepth 20000 in
theorem ggX7_drops_X7_becomesWild : GoodIn wsX7_drops wsX7_becomesWild := goodIn_r _ [14, 2, 3, 4, 5, 6, 1, 15, 16, 17, 18, 19, 20, 21, 22, 23, 24, 25, 26, 27] (by decide +kernel) (by decide +kernel)
set_option maxRecDepth 20000 in
theorem gX7_drops_X7_becomesWild : GoodIn wsX7_drops (wsV RX7 71 RX7 yX7_becomesWild wsX7_becomesWild) := goodIn_app (goodIn_of _ (by decide +kernel)) ggX7_drops_X7_becomesWild
theorem dX7_drops_0 : decode cX7_drops 0 = .ok (.iconst 0, 1) := by decide +kernel
theorem dX7_drops_1 : decode cX7_drops 1 = .ok (.istore_n 1, 1) := by decide +kernel
theorem dX7_drops_2 : decode cX7_drops 2 = .ok (.iconst 0, 1) := by decide +kernel
theorem dX7_drops_3 : decode cX7_drops 3 = .ok (.istore_n 2, 1) := by decide +kernel
theorem dX7_drops_4 : decode cX7_drops 4 = .ok (.iload_n 2, 1) := by decide +kernel
theorem dX7_drops_5 : decode cX7_drops 5 = .ok (.bipush 32, 2) := by decide +kernel
theorem dX7_drops_7 : decode cX7_drops 7 = .ok (.if_icmp .ge 34, 3) := by decide +kernel
theorem dX7_drops_10 : decode cX7_drops 10 = .ok (.aload_n 0, 1) := by decide +kernel
theorem dX7_drops_11 : decode cX7_drops 11 = .ok (.iload_n 2, 1) := by decide +kernel
theorem dX7_drops_12 : decode cX7_drops 12 = .ok (.iconst 5, 1) := by decide +kernel
theorem dX7_drops_13 : decode cX7_drops 13 = .ok (.iconst 0, 1) := by decide +kernel
theorem dX7_drops_14 : decode cX7_drops 14 = .ok (.invokevirtual 67, 3) := by decide +kernel
theorem dX7_drops_17 : decode cX7_drops 17 = .ok (.aload_n 0, 1) := by decide +kernel
theorem dX7_drops_18 : decode cX7_drops 18 = .ok (.iload_n 2, 1) := by decide +kernel
theorem dX7_drops_19 : decode cX7_drops 19 = .ok (.iconst 4, 1) := by decide +kernel
theorem dX7_drops_20 : decode cX7_drops 20 = .ok (.invokevirtual 53, 3) := by decide +kernel
theorem dX7_drops_23 : decode cX7_drops 23 = .ok (.iconst 1, 1) := by decide +kernel
theorem dX7_drops_24 : decode cX7_drops 24 = .ok (.if_icmp .ne 11, 3) := by decide +kernel
theorem dX7_drops_27 : decode cX7_drops 27 = .ok (.aload_n 0, 1) := by decide +kernel
theorem dX7_drops_28 : decode cX7_drops 28 = .ok (.iload_n 2, 1) := by decide +kernel
theorem dX7_drops_29 : decode cX7_drops 29 = .ok (.invokevirtual 71, 3) := by decide +kernel
theorem dX7_drops_32 : decode cX7_drops 32 = .ok (.iinc 1 1, 3) := by decide +kernel
theorem dX7_drops_35 : decode cX7_drops 35 = .ok (.iinc 2 1, 3) := by decide +kernel
theorem dX7_drops_38 : decode cX7_drops 38 = .ok (.goto (-34), 3) := by decide +kernel
theorem dX7_drops_41 : decode cX7_drops 41 = .ok (.aload_n 0, 1) := by decide +kernel
theorem dX7_drops_42 : decode cX7_drops 42 = .ok (.getfield 7, 3) := by decide +kernel
theorem dX7_drops_45 : decode cX7_drops 45 = .ok (.sipush 466, 3) := by decide +kernel
theorem dX7_drops_48 : decode cX7_drops 48 = .ok (.iconst 0, 1) := by decide +kernel
theorem dX7_drops_49 : decode cX7_drops 49 = .ok (.iastore, 1) := by decide +kernel
theorem dX7_drops_50 : decode cX7_drops 50 = .ok (.aload_n 0, 1) := by decide +kernel
theorem dX7_drops_51 : decode cX7_drops 51 = .ok (.getfield 7, 3) := by decide +kernel
theorem dX7_drops_54 : decode cX7_drops 54 = .ok (.sipush 467, 3) := by decide +kernel
theorem dX7_drops_57 : decode cX7_drops 57 = .ok (.iconst (-1), 1) := by decide +kernel
theorem dX7_drops_58 : decode cX7_drops 58 = .ok (.iastore, 1) := by decide +kernel
theorem dX7_drops_59 : decode cX7_drops 59 = .ok (.iload_n 1, 1) := by decide +kernel
theorem dX7_drops_60 : decode cX7_drops 60 = .ok (.ireturn, 1) := by decide +kernel
set_option maxRecDepth 20000 in
theorem ggX7_frees_X7_of : GoodIn wsX7_frees wsX7_of := goodIn_r _ [6, 1, 11, 12, 13, 14, 15, 16, 17, 18, 19, 20, 21, 22, 23] (by decide +kernel) (by decide +kernel)
set_option maxRecDepth 20000 in
theorem gX7_frees_X7_of : GoodIn wsX7_frees (wsV RX7 53 RX7 yX7_of wsX7_of) := goodIn_app (goodIn_of _ (by decide +kernel)) ggX7_frees_X7_of
set_option maxRecDepth 20000 in
theorem ggX7_frees_X7_lay : GoodIn wsX7_frees wsX7_lay := goodIn_r _ [10, 1, 11, 12, 13, 14, 15, 16, 17, 18, 19, 20, 21, 22, 23] (by decide +kernel) (by decide +kernel)
set_option maxRecDepth 20000 in
theorem gX7_frees_X7_lay : GoodIn wsX7_frees (wsV RX7 67 RX7 yX7_lay wsX7_lay) := goodIn_app (goodIn_of _ (by decide +kernel)) ggX7_frees_X7_lay
theorem dX7_frees_0 : decode cX7_frees 0 = .ok (.iconst 0, 1) := by decide +kernel
theorem dX7_frees_1 : decode cX7_frees 1 = .ok (.istore_n 2, 1) := by decide +kernel
theorem dX7_frees_2 : decode cX7_frees 2 = .ok (.iconst 0, 1) := by decide +kernel
theorem dX7_frees_3 : decode cX7_frees 3 = .ok (.istore_n 3, 1) := by decide +kernel
theorem dX7_frees_4 : decode cX7_frees 4 = .ok (.iload_n 3, 1) := by decide +kernel
theorem dX7_frees_5 : decode cX7_frees 5 = .ok (.bipush 32, 2) := by decide +kernel
theorem dX7_frees_7 : decode cX7_frees 7 = .ok (.if_icmp .ge 50, 3) := by decide +kernel
theorem dX7_frees_10 : decode cX7_frees 10 = .ok (.aload_n 0, 1) := by decide +kernel
theorem dX7_frees_11 : decode cX7_frees 11 = .ok (.iload_n 3, 1) := by decide +kernel
theorem dX7_frees_12 : decode cX7_frees 12 = .ok (.iconst 5, 1) := by decide +kernel
theorem dX7_frees_13 : decode cX7_frees 13 = .ok (.invokevirtual 53, 3) := by decide +kernel
theorem dX7_frees_16 : decode cX7_frees 16 = .ok (.iconst 1, 1) := by decide +kernel
theorem dX7_frees_17 : decode cX7_frees 17 = .ok (.if_icmp .ne 20, 3) := by decide +kernel
theorem dX7_frees_20 : decode cX7_frees 20 = .ok (.aload_n 0, 1) := by decide +kernel
theorem dX7_frees_21 : decode cX7_frees 21 = .ok (.iload_n 3, 1) := by decide +kernel
theorem dX7_frees_22 : decode cX7_frees 22 = .ok (.iconst 0, 1) := by decide +kernel
theorem dX7_frees_23 : decode cX7_frees 23 = .ok (.iconst 2, 1) := by decide +kernel
theorem dX7_frees_24 : decode cX7_frees 24 = .ok (.invokevirtual 67, 3) := by decide +kernel
theorem dX7_frees_27 : decode cX7_frees 27 = .ok (.aload_n 0, 1) := by decide +kernel
theorem dX7_frees_28 : decode cX7_frees 28 = .ok (.iload_n 3, 1) := by decide +kernel
theorem dX7_frees_29 : decode cX7_frees 29 = .ok (.iconst 3, 1) := by decide +kernel
theorem dX7_frees_30 : decode cX7_frees 30 = .ok (.iload_n 1, 1) := by decide +kernel
theorem dX7_frees_31 : decode cX7_frees 31 = .ok (.invokevirtual 67, 3) := by decide +kernel
theorem dX7_frees_34 : decode cX7_frees 34 = .ok (.iinc 2 1, 3) := by decide +kernel
theorem dX7_frees_37 : decode cX7_frees 37 = .ok (.aload_n 0, 1) := by decide +kernel
theorem dX7_frees_38 : decode cX7_frees 38 = .ok (.iload_n 3, 1) := by decide +kernel
theorem dX7_frees_39 : decode cX7_frees 39 = .ok (.iconst 5, 1) := by decide +kernel
theorem dX7_frees_40 : decode cX7_frees 40 = .ok (.iconst 0, 1) := by decide +kernel
theorem dX7_frees_41 : decode cX7_frees 41 = .ok (.invokevirtual 67, 3) := by decide +kernel
theorem dX7_frees_44 : decode cX7_frees 44 = .ok (.aload_n 0, 1) := by decide +kernel
theorem dX7_frees_45 : decode cX7_frees 45 = .ok (.iload_n 3, 1) := by decide +kernel
theorem dX7_frees_46 : decode cX7_frees 46 = .ok (.iconst 4, 1) := by decide +kernel
theorem dX7_frees_47 : decode cX7_frees 47 = .ok (.iconst 0, 1) := by decide +kernel
theorem dX7_frees_48 : decode cX7_frees 48 = .ok (.invokevirtual 67, 3) := by decide +kernel
theorem dX7_frees_51 : decode cX7_frees 51 = .ok (.iinc 3 1, 3) := by decide +kernel
theorem dX7_frees_54 : decode cX7_frees 54 = .ok (.goto (-50), 3) := by decide +kernel
theorem dX7_frees_57 : decode cX7_frees 57 = .ok (.aload_n 0, 1) := by decide +kernel
theorem dX7_frees_58 : decode cX7_frees 58 = .ok (.getfield 7, 3) := by decide +kernel
theorem dX7_frees_61 : decode cX7_frees 61 = .ok (.sipush 466, 3) := by decide +kernel
theorem dX7_frees_64 : decode cX7_frees 64 = .ok (.iconst 0, 1) := by decide +kernel
theorem dX7_frees_65 : decode cX7_frees 65 = .ok (.iastore, 1) := by decide +kernel
theorem dX7_frees_66 : decode cX7_frees 66 = .ok (.aload_n 0, 1) := by decide +kernel
theorem dX7_frees_67 : decode cX7_frees 67 = .ok (.getfield 7, 3) := by decide +kernel
theorem dX7_frees_70 : decode cX7_frees 70 = .ok (.sipush 467, 3) := by decide +kernel
theorem dX7_frees_73 : decode cX7_frees 73 = .ok (.iconst (-1), 1) := by decide +kernel
theorem dX7_frees_74 : decode cX7_frees 74 = .ok (.iastore, 1) := by decide +kernel
theorem dX7_frees_75 : decode cX7_frees 75 = .ok (.iload_n 2, 1) := by decide +kernel
theorem dX7_frees_76 : decode cX7_frees 76 = .ok (.ireturn, 1) := by decide +kernel
set_option maxRecDepth 20000 in
theorem ggX7_doCommit_X7_in : GoodIn wsX7_doCommit wsX7_in := goodIn_r _ [5] (by decide +kernel) (by decide +kernel)
set_option maxRecDepth 20000 in
theorem gX7_doCommit_X7_in : GoodIn wsX7_doCommit (va_wsS RX7 113 yX7_in wsX7_in) := goodIn_app (goodIn_of _ (by decide +kernel)) ggX7_doCommit_X7_in
set_option maxRecDepth 20000 in
theorem ggX7_doCommit_X7_refuse : GoodIn wsX7_doCommit wsX7_refuse := goodIn_r _ [9, 10, 39, 40, 41, 42, 43, 44, 45, 46, 47, 48, 49, 50, 51] (by decide +kernel) (by decide +kernel)
set_option maxRecDepth 20000 in
theorem gX7_doCommit_X7_refuse : GoodIn wsX7_doCommit (wsV RX7 117 RX7 yX7_refuse wsX7_refuse) := goodIn_app (goodIn_of _ (by decide +kernel)) ggX7_doCommit_X7_refuse
set_option maxRecDepth 20000 in
theorem ggX7_doCommit_X7_drops : GoodIn wsX7_doCommit wsX7_drops := goodIn_r _ [14, 1, 15, 16, 17, 4, 18, 19, 20, 21, 22, 23, 24, 25, 26, 39, 40, 41, 42, 43, 44, 45, 46, 47, 48, 49, 50, 51] (by decide +kernel) (by decide +kernel)
set_option maxRecDepth 20000 in
theorem gX7_doCommit_X7_drops : GoodIn wsX7_doCommit (wsV RX7 157 RX7 yX7_drops wsX7_drops) := goodIn_app (goodIn_of _ (by decide +kernel)) ggX7_doCommit_X7_drops
set_option maxRecDepth 20000 in
theorem ggX7_doCommit_X7_current : GoodIn wsX7_doCommit wsX7_current := goodIn_r _ [30, 1, 39, 40, 41, 42, 43, 44, 45, 46, 47, 48, 49, 50, 51] (by decide +kernel) (by decide +kernel)
set_option maxRecDepth 20000 in
theorem gX7_doCommit_X7_current : GoodIn wsX7_doCommit (wsV RX7 42 RX7 yX7_current wsX7_current) := goodIn_app (goodIn_of _ (by decide +kernel)) ggX7_doCommit_X7_current
set_option maxRecDepth 20000 in
theorem ggX7_doCommit_X7_ofRoot : GoodIn wsX7_doCommit wsX7_ofRoot := goodIn_r _ [34, 1, 39, 40, 41, 42, 43, 44, 45, 46, 47, 48, 49, 50, 51] (by decide +kernel) (by decide +kernel)
set_option maxRecDepth 20000 in
theorem gX7_doCommit_X7_ofRoot : GoodIn wsX7_doCommit (wsV RX7 46 RX7 yX7_ofRoot wsX7_ofRoot) := goodIn_app (goodIn_of _ (by decide +kernel)) ggX7_doCommit_X7_ofRoot
set_option maxRecDepth 20000 in
theorem ggX7_doCommit_X7_frees : GoodIn wsX7_doCommit wsX7_frees := goodIn_r _ [38, 1, 19, 20, 21, 4, 22, 15, 16, 17, 18, 39, 40, 41, 42, 43, 44, 45, 46, 47, 48, 49, 50, 51] (by decide +kernel) (by decide +kernel)
set_option maxRecDepth 20000 in
theorem gX7_doCommit_X7_frees : GoodIn wsX7_doCommit (wsV RX7 160 RX7 yX7_frees wsX7_frees) := goodIn_app (goodIn_of _ (by decide +kernel)) ggX7_doCommit_X7_frees
theorem dX7_doCommit_0 : decode cX7_doCommit 0 = .ok (.iload_n 1, 1) := by decide +kernel
theorem dX7_doCommit_1 : decode cX7_doCommit 1 = .ok (.iconst 0, 1) := by decide +kernel
theorem dX7_doCommit_2 : decode cX7_doCommit 2 = .ok (.iconst 3, 1) := by decide +kernel
theorem dX7_doCommit_3 : decode cX7_doCommit 3 = .ok (.invokestatic 113, 3) := by decide +kernel
theorem dX7_doCommit_6 : decode cX7_doCommit 6 = .ok (.ifCond .ne 9, 3) := by decide +kernel
theorem dX7_doCommit_9 : decode cX7_doCommit 9 = .ok (.aload_n 0, 1) := by decide +kernel
theorem dX7_doCommit_10 : decode cX7_doCommit 10 = .ok (.iconst 1, 1) := by decide +kernel
theorem dX7_doCommit_11 : decode cX7_doCommit 11 = .ok (.invokevirtual 117, 3) := by decide +kernel
theorem dX7_doCommit_14 : decode cX7_doCommit 14 = .ok (.ireturn, 1) := by decide +kernel
theorem dX7_doCommit_15 : decode cX7_doCommit 15 = .ok (.aload_n 0, 1) := by decide +kernel
theorem dX7_doCommit_16 : decode cX7_doCommit 16 = .ok (.getfield 7, 3) := by decide +kernel
theorem dX7_doCommit_19 : decode cX7_doCommit 19 = .ok (.sipush 466, 3) := by decide +kernel
theorem dX7_doCommit_22 : decode cX7_doCommit 22 = .ok (.iaload, 1) := by decide +kernel
theorem dX7_doCommit_23 : decode cX7_doCommit 23 = .ok (.ifCond .ne 9, 3) := by decide +kernel
theorem dX7_doCommit_26 : decode cX7_doCommit 26 = .ok (.aload_n 0, 1) := by decide +kernel
theorem dX7_doCommit_27 : decode cX7_doCommit 27 = .ok (.iconst 2, 1) := by decide +kernel
theorem dX7_doCommit_28 : decode cX7_doCommit 28 = .ok (.invokevirtual 117, 3) := by decide +kernel
theorem dX7_doCommit_31 : decode cX7_doCommit 31 = .ok (.ireturn, 1) := by decide +kernel
theorem dX7_doCommit_32 : decode cX7_doCommit 32 = .ok (.aload_n 0, 1) := by decide +kernel
theorem dX7_doCommit_33 : decode cX7_doCommit 33 = .ok (.getfield 7, 3) := by decide +kernel
theorem dX7_doCommit_36 : decode cX7_doCommit 36 = .ok (.sipush 467, 3) := by decide +kernel
theorem dX7_doCommit_39 : decode cX7_doCommit 39 = .ok (.iaload, 1) := by decide +kernel
theorem dX7_doCommit_40 : decode cX7_doCommit 40 = .ok (.ifCond .ge 8, 3) := by decide +kernel
theorem dX7_doCommit_43 : decode cX7_doCommit 43 = .ok (.aload_n 0, 1) := by decide +kernel
theorem dX7_doCommit_44 : decode cX7_doCommit 44 = .ok (.invokevirtual 157, 3) := by decide +kernel
theorem dX7_doCommit_47 : decode cX7_doCommit 47 = .ok (.ireturn, 1) := by decide +kernel
theorem dX7_doCommit_48 : decode cX7_doCommit 48 = .ok (.aload_n 0, 1) := by decide +kernel
theorem dX7_doCommit_49 : decode cX7_doCommit 49 = .ok (.aload_n 0, 1) := by decide +kernel
theorem dX7_doCommit_50 : decode cX7_doCommit 50 = .ok (.invokevirtual 42, 3) := by decide +kernel
theorem dX7_doCommit_53 : decode cX7_doCommit 53 = .ok (.iconst 0, 1) := by decide +kernel
theorem dX7_doCommit_54 : decode cX7_doCommit 54 = .ok (.invokevirtual 46, 3) := by decide +kernel
theorem dX7_doCommit_57 : decode cX7_doCommit 57 = .ok (.iconst 1, 1) := by decide +kernel
theorem dX7_doCommit_58 : decode cX7_doCommit 58 = .ok (.iadd, 1) := by decide +kernel
theorem dX7_doCommit_59 : decode cX7_doCommit 59 = .ok (.istore_n 2, 1) := by decide +kernel
theorem dX7_doCommit_60 : decode cX7_doCommit 60 = .ok (.sipush 448, 3) := by decide +kernel
theorem dX7_doCommit_63 : decode cX7_doCommit 63 = .ok (.iconst 3, 1) := by decide +kernel
theorem dX7_doCommit_64 : decode cX7_doCommit 64 = .ok (.iconst 1, 1) := by decide +kernel
theorem dX7_doCommit_65 : decode cX7_doCommit 65 = .ok (.aload_n 0, 1) := by decide +kernel
theorem dX7_doCommit_66 : decode cX7_doCommit 66 = .ok (.invokevirtual 42, 3) := by decide +kernel
theorem dX7_doCommit_69 : decode cX7_doCommit 69 = .ok (.isub, 1) := by decide +kernel
theorem dX7_doCommit_70 : decode cX7_doCommit 70 = .ok (.imul, 1) := by decide +kernel
theorem dX7_doCommit_71 : decode cX7_doCommit 71 = .ok (.iadd, 1) := by decide +kernel
theorem dX7_doCommit_72 : decode cX7_doCommit 72 = .ok (.istore_n 3, 1) := by decide +kernel
theorem dX7_doCommit_73 : decode cX7_doCommit 73 = .ok (.aload_n 0, 1) := by decide +kernel
theorem dX7_doCommit_74 : decode cX7_doCommit 74 = .ok (.getfield 7, 3) := by decide +kernel
theorem dX7_doCommit_77 : decode cX7_doCommit 77 = .ok (.iload_n 3, 1) := by decide +kernel
theorem dX7_doCommit_78 : decode cX7_doCommit 78 = .ok (.iconst 2, 1) := by decide +kernel
theorem dX7_doCommit_79 : decode cX7_doCommit 79 = .ok (.iadd, 1) := by decide +kernel
theorem dX7_doCommit_80 : decode cX7_doCommit 80 = .ok (.iload_n 1, 1) := by decide +kernel
theorem dX7_doCommit_81 : decode cX7_doCommit 81 = .ok (.ifCond .ne 14, 3) := by decide +kernel
theorem dX7_doCommit_84 : decode cX7_doCommit 84 = .ok (.aload_n 0, 1) := by decide +kernel
theorem dX7_doCommit_85 : decode cX7_doCommit 85 = .ok (.getfield 7, 3) := by decide +kernel
theorem dX7_doCommit_88 : decode cX7_doCommit 88 = .ok (.iload_n 3, 1) := by decide +kernel
theorem dX7_doCommit_89 : decode cX7_doCommit 89 = .ok (.iconst 2, 1) := by decide +kernel
theorem dX7_doCommit_90 : decode cX7_doCommit 90 = .ok (.iadd, 1) := by decide +kernel
theorem dX7_doCommit_91 : decode cX7_doCommit 91 = .ok (.iaload, 1) := by decide +kernel
theorem dX7_doCommit_92 : decode cX7_doCommit 92 = .ok (.goto 4, 3) := by decide +kernel
theorem dX7_doCommit_95 : decode cX7_doCommit 95 = .ok (.iconst 0, 1) := by decide +kernel
theorem dX7_doCommit_96 : decode cX7_doCommit 96 = .ok (.iastore, 1) := by decide +kernel
theorem dX7_doCommit_97 : decode cX7_doCommit 97 = .ok (.aload_n 0, 1) := by decide +kernel
theorem dX7_doCommit_98 : decode cX7_doCommit 98 = .ok (.getfield 7, 3) := by decide +kernel
theorem dX7_doCommit_101 : decode cX7_doCommit 101 = .ok (.iload_n 3, 1) := by decide +kernel
theorem dX7_doCommit_102 : decode cX7_doCommit 102 = .ok (.iconst 0, 1) := by decide +kernel
theorem dX7_doCommit_103 : decode cX7_doCommit 103 = .ok (.iadd, 1) := by decide +kernel
theorem dX7_doCommit_104 : decode cX7_doCommit 104 = .ok (.iload_n 1, 1) := by decide +kernel
theorem dX7_doCommit_105 : decode cX7_doCommit 105 = .ok (.iconst 2, 1) := by decide +kernel
theorem dX7_doCommit_106 : decode cX7_doCommit 106 = .ok (.if_icmp .ge 14, 3) := by decide +kernel
theorem dX7_doCommit_109 : decode cX7_doCommit 109 = .ok (.aload_n 0, 1) := by decide +kernel
theorem dX7_doCommit_110 : decode cX7_doCommit 110 = .ok (.getfield 7, 3) := by decide +kernel
theorem dX7_doCommit_113 : decode cX7_doCommit 113 = .ok (.iload_n 3, 1) := by decide +kernel
theorem dX7_doCommit_114 : decode cX7_doCommit 114 = .ok (.iconst 0, 1) := by decide +kernel
theorem dX7_doCommit_115 : decode cX7_doCommit 115 = .ok (.iadd, 1) := by decide +kernel
theorem dX7_doCommit_116 : decode cX7_doCommit 116 = .ok (.iaload, 1) := by decide +kernel
theorem dX7_doCommit_117 : decode cX7_doCommit 117 = .ok (.goto 4, 3) := by decide +kernel
theorem dX7_doCommit_120 : decode cX7_doCommit 120 = .ok (.iload_n 2, 1) := by decide +kernel
theorem dX7_doCommit_121 : decode cX7_doCommit 121 = .ok (.iastore, 1) := by decide +kernel
theorem dX7_doCommit_122 : decode cX7_doCommit 122 = .ok (.aload_n 0, 1) := by decide +kernel
theorem dX7_doCommit_123 : decode cX7_doCommit 123 = .ok (.getfield 7, 3) := by decide +kernel
theorem dX7_doCommit_126 : decode cX7_doCommit 126 = .ok (.iload_n 3, 1) := by decide +kernel
theorem dX7_doCommit_127 : decode cX7_doCommit 127 = .ok (.iconst 1, 1) := by decide +kernel
theorem dX7_doCommit_128 : decode cX7_doCommit 128 = .ok (.iadd, 1) := by decide +kernel
theorem dX7_doCommit_129 : decode cX7_doCommit 129 = .ok (.iload_n 1, 1) := by decide +kernel
theorem dX7_doCommit_130 : decode cX7_doCommit 130 = .ok (.iconst 2, 1) := by decide +kernel
theorem dX7_doCommit_131 : decode cX7_doCommit 131 = .ok (.if_icmp .ge 14, 3) := by decide +kernel
theorem dX7_doCommit_134 : decode cX7_doCommit 134 = .ok (.aload_n 0, 1) := by decide +kernel
theorem dX7_doCommit_135 : decode cX7_doCommit 135 = .ok (.getfield 7, 3) := by decide +kernel
theorem dX7_doCommit_138 : decode cX7_doCommit 138 = .ok (.iload_n 3, 1) := by decide +kernel
theorem dX7_doCommit_139 : decode cX7_doCommit 139 = .ok (.iconst 1, 1) := by decide +kernel
theorem dX7_doCommit_140 : decode cX7_doCommit 140 = .ok (.iadd, 1) := by decide +kernel
theorem dX7_doCommit_141 : decode cX7_doCommit 141 = .ok (.iaload, 1) := by decide +kernel
theorem dX7_doCommit_142 : decode cX7_doCommit 142 = .ok (.goto 11, 3) := by decide +kernel
theorem dX7_doCommit_145 : decode cX7_doCommit 145 = .ok (.aload_n 0, 1) := by decide +kernel
theorem dX7_doCommit_146 : decode cX7_doCommit 146 = .ok (.getfield 7, 3) := by decide +kernel
theorem dX7_doCommit_149 : decode cX7_doCommit 149 = .ok (.sipush 467, 3) := by decide +kernel
theorem dX7_doCommit_152 : decode cX7_doCommit 152 = .ok (.iaload, 1) := by decide +kernel
theorem dX7_doCommit_153 : decode cX7_doCommit 153 = .ok (.iastore, 1) := by decide +kernel
theorem dX7_doCommit_154 : decode cX7_doCommit 154 = .ok (.iload_n 1, 1) := by decide +kernel
theorem dX7_doCommit_155 : decode cX7_doCommit 155 = .ok (.iconst 3, 1) := by decide +kernel
theorem dX7_doCommit_156 : decode cX7_doCommit 156 = .ok (.if_icmp .ge 25, 3) := by decide +kernel
theorem dX7_doCommit_159 : decode cX7_doCommit 159 = .ok (.aload_n 0, 1) := by decide +kernel
theorem dX7_doCommit_160 : decode cX7_doCommit 160 = .ok (.invokevirtual 157, 3) := by decide +kernel
theorem dX7_doCommit_163 : decode cX7_doCommit 163 = .ok (.istore 4, 2) := by decide +kernel
theorem dX7_doCommit_165 : decode cX7_doCommit 165 = .ok (.aload_n 0, 1) := by decide +kernel
theorem dX7_doCommit_166 : decode cX7_doCommit 166 = .ok (.getfield 7, 3) := by decide +kernel
theorem dX7_doCommit_169 : decode cX7_doCommit 169 = .ok (.sipush 469, 3) := by decide +kernel
theorem dX7_doCommit_172 : decode cX7_doCommit 172 = .ok (.dup2, 1) := by decide +kernel
theorem dX7_doCommit_173 : decode cX7_doCommit 173 = .ok (.iaload, 1) := by decide +kernel
theorem dX7_doCommit_174 : decode cX7_doCommit 174 = .ok (.iconst 1, 1) := by decide +kernel
theorem dX7_doCommit_175 : decode cX7_doCommit 175 = .ok (.iadd, 1) := by decide +kernel
theorem dX7_doCommit_176 : decode cX7_doCommit 176 = .ok (.iastore, 1) := by decide +kernel
theorem dX7_doCommit_177 : decode cX7_doCommit 177 = .ok (.sipush (-1000), 3) := by decide +kernel
theorem dX7_doCommit_180 : decode cX7_doCommit 180 = .ok (.ireturn, 1) := by decide +kernel
theorem dX7_doCommit_181 : decode cX7_doCommit 181 = .ok (.aload_n 0, 1) := by decide +kernel
theorem dX7_doCommit_182 : decode cX7_doCommit 182 = .ok (.getfield 7, 3) := by decide +kernel
theorem dX7_doCommit_185 : decode cX7_doCommit 185 = .ok (.iload_n 3, 1) := by decide +kernel
theorem dX7_doCommit_186 : decode cX7_doCommit 186 = .ok (.iconst 2, 1) := by decide +kernel
theorem dX7_doCommit_187 : decode cX7_doCommit 187 = .ok (.iadd, 1) := by decide +kernel
theorem dX7_doCommit_188 : decode cX7_doCommit 188 = .ok (.iconst 1, 1) := by decide +kernel
theorem dX7_doCommit_189 : decode cX7_doCommit 189 = .ok (.iastore, 1) := by decide +kernel
theorem dX7_doCommit_190 : decode cX7_doCommit 190 = .ok (.aload_n 0, 1) := by decide +kernel
theorem dX7_doCommit_191 : decode cX7_doCommit 191 = .ok (.getfield 7, 3) := by decide +kernel
theorem dX7_doCommit_194 : decode cX7_doCommit 194 = .ok (.sipush 468, 3) := by decide +kernel
theorem dX7_doCommit_197 : decode cX7_doCommit 197 = .ok (.dup2, 1) := by decide +kernel
theorem dX7_doCommit_198 : decode cX7_doCommit 198 = .ok (.iaload, 1) := by decide +kernel
theorem dX7_doCommit_199 : decode cX7_doCommit 199 = .ok (.iconst 1, 1) := by decide +kernel
theorem dX7_doCommit_200 : decode cX7_doCommit 200 = .ok (.iadd, 1) := by decide +kernel
theorem dX7_doCommit_201 : decode cX7_doCommit 201 = .ok (.iastore, 1) := by decide +kernel
theorem dX7_doCommit_202 : decode cX7_doCommit 202 = .ok (.aload_n 0, 1) := by decide +kernel
theorem dX7_doCommit_203 : decode cX7_doCommit 203 = .ok (.iload_n 2, 1) := by decide +kernel
theorem dX7_doCommit_204 : decode cX7_doCommit 204 = .ok (.invokevirtual 160, 3) := by decide +kernel
theorem dX7_doCommit_207 : decode cX7_doCommit 207 = .ok (.ireturn, 1) := by decide +kernel
set_option maxRecDepth 20000 in
theorem ggX7_commit_X7_hold : GoodIn wsX7_commit wsX7_hold := goodIn_r _ [5, 6, 7, 8, 9, 10, 4, 11, 58, 59, 60, 61, 62, 63, 64, 65, 66, 67, 68, 69, 70] (by decide +kernel) (by decide +kernel)
set_option maxRecDepth 20000 in
theorem gX7_commit_X7_hold : GoodIn wsX7_commit (wsV RX7 142 RX7 yX7_hold wsX7_hold) := goodIn_app (goodIn_of _ (by decide +kernel)) ggX7_commit_X7_hold
set_option maxRecDepth 20000 in
theorem ggX7_commit_X7_doCommit : GoodIn wsX7_commit wsX7_doCommit := goodIn_r _ [15, 7, 16, 17, 4, 18, 19, 20, 21, 22, 6, 23, 24, 25, 26, 27, 28, 29, 30, 31, 32, 33, 34, 35, 36, 37, 38, 39, 40, 41, 42, 43, 44, 45, 46, 47, 48, 49, 50, 58, 59, 60, 61, 62, 63, 64, 65, 66, 67, 68, 69, 70] (by decide +kernel) (by decide +kernel)
set_option maxRecDepth 20000 in
theorem gX7_commit_X7_doCommit : GoodIn wsX7_commit (wsV RX7 163 RX7 yX7_doCommit wsX7_doCommit) := goodIn_app (goodIn_of _ (by decide +kernel)) ggX7_commit_X7_doCommit
set_option maxRecDepth 20000 in
theorem ggX7_commit_X7_ends : GoodIn wsX7_commit wsX7_ends := goodIn_r _ [54, 6, 55, 56, 57, 8, 9, 10, 4, 11, 58, 59, 60, 61, 62, 63, 64, 65, 66, 67, 68, 69, 70] (by decide +kernel) (by decide +kernel)
set_option maxRecDepth 20000 in
theorem gX7_commit_X7_ends : GoodIn wsX7_commit (wsV RX7 148 RX7 yX7_ends wsX7_ends) := goodIn_app (goodIn_of _ (by decide +kernel)) ggX7_commit_X7_ends
theorem dX7_commit_0 : decode cX7_commit 0 = .ok (.aload_n 0, 1) := by decide +kernel
theorem dX7_commit_1 : decode cX7_commit 1 = .ok (.invokevirtual 142, 3) := by decide +kernel
theorem dX7_commit_4 : decode cX7_commit 4 = .ok (.aload_n 0, 1) := by decide +kernel
theorem dX7_commit_5 : decode cX7_commit 5 = .ok (.aload_n 0, 1) := by decide +kernel
theorem dX7_commit_6 : decode cX7_commit 6 = .ok (.iload_n 1, 1) := by decide +kernel
theorem dX7_commit_7 : decode cX7_commit 7 = .ok (.invokevirtual 163, 3) := by decide +kernel
theorem dX7_commit_10 : decode cX7_commit 10 = .ok (.invokevirtual 148, 3) := by decide +kernel
theorem dX7_commit_13 : decode cX7_commit 13 = .ok (.ireturn, 1) := by decide +kernel
set_option maxRecDepth 20000 in
theorem ggX7_doAbort_X7_refuse : GoodIn wsX7_doAbort wsX7_refuse := goodIn_r _ [6, 7, 24, 25, 26, 27, 28, 29, 30, 31, 32, 33, 34, 35, 36] (by decide +kernel) (by decide +kernel)
set_option maxRecDepth 20000 in
theorem gX7_doAbort_X7_refuse : GoodIn wsX7_doAbort (wsV RX7 117 RX7 yX7_refuse wsX7_refuse) := goodIn_app (goodIn_of _ (by decide +kernel)) ggX7_doAbort_X7_refuse
set_option maxRecDepth 20000 in
theorem ggX7_doAbort_X7_drops : GoodIn wsX7_doAbort wsX7_drops := goodIn_r _ [11, 1, 12, 13, 14, 5, 15, 16, 17, 18, 19, 20, 21, 22, 23, 24, 25, 26, 27, 28, 29, 30, 31, 32, 33, 34, 35, 36] (by decide +kernel) (by decide +kernel)
set_option maxRecDepth 20000 in
theorem gX7_doAbort_X7_drops : GoodIn wsX7_doAbort (wsV RX7 157 RX7 yX7_drops wsX7_drops) := goodIn_app (goodIn_of _ (by decide +kernel)) ggX7_doAbort_X7_drops
theorem dX7_doAbort_0 : decode cX7_doAbort 0 = .ok (.aload_n 0, 1) := by decide +kernel
theorem dX7_doAbort_1 : decode cX7_doAbort 1 = .ok (.getfield 7, 3) := by decide +kernel
theorem dX7_doAbort_4 : decode cX7_doAbort 4 = .ok (.sipush 466, 3) := by decide +kernel
theorem dX7_doAbort_7 : decode cX7_doAbort 7 = .ok (.iaload, 1) := by decide +kernel
theorem dX7_doAbort_8 : decode cX7_doAbort 8 = .ok (.ifCond .ne 11, 3) := by decide +kernel
theorem dX7_doAbort_11 : decode cX7_doAbort 11 = .ok (.aload_n 0, 1) := by decide +kernel
theorem dX7_doAbort_12 : decode cX7_doAbort 12 = .ok (.iconst 1, 1) := by decide +kernel
theorem dX7_doAbort_13 : decode cX7_doAbort 13 = .ok (.invokevirtual 117, 3) := by decide +kernel
theorem dX7_doAbort_16 : decode cX7_doAbort 16 = .ok (.goto 7, 3) := by decide +kernel
theorem dX7_doAbort_19 : decode cX7_doAbort 19 = .ok (.aload_n 0, 1) := by decide +kernel
theorem dX7_doAbort_20 : decode cX7_doAbort 20 = .ok (.invokevirtual 157, 3) := by decide +kernel
theorem dX7_doAbort_23 : decode cX7_doAbort 23 = .ok (.ireturn, 1) := by decide +kernel
set_option maxRecDepth 20000 in
theorem ggX7_abort_X7_hold : GoodIn wsX7_abort wsX7_hold := goodIn_r _ [5, 6, 7, 8, 9, 10, 4, 11, 43, 44, 45, 46, 47, 48, 49, 50, 51, 52, 53, 54, 55] (by decide +kernel) (by decide +kernel)
set_option maxRecDepth 20000 in
theorem gX7_abort_X7_hold : GoodIn wsX7_abort (wsV RX7 142 RX7 yX7_hold wsX7_hold) := goodIn_app (goodIn_of _ (by decide +kernel)) ggX7_abort_X7_hold
set_option maxRecDepth 20000 in
theorem ggX7_abort_X7_doAbort : GoodIn wsX7_abort wsX7_doAbort := goodIn_r _ [15, 7, 16, 17, 18, 4, 19, 6, 20, 21, 22, 23, 24, 25, 26, 27, 28, 29, 30, 31, 32, 33, 34, 35, 43, 44, 45, 46, 47, 48, 49, 50, 51, 52, 53, 54, 55] (by decide +kernel) (by decide +kernel)
set_option maxRecDepth 20000 in
theorem gX7_abort_X7_doAbort : GoodIn wsX7_abort (wsV RX7 166 RX7 yX7_doAbort wsX7_doAbort) := goodIn_app (goodIn_of _ (by decide +kernel)) ggX7_abort_X7_doAbort
set_option maxRecDepth 20000 in
theorem ggX7_abort_X7_ends : GoodIn wsX7_abort wsX7_ends := goodIn_r _ [39, 6, 40, 41, 42, 8, 9, 10, 4, 11, 43, 44, 45, 46, 47, 48, 49, 50, 51, 52, 53, 54, 55] (by decide +kernel) (by decide +kernel)
set_option maxRecDepth 20000 in
theorem gX7_abort_X7_ends : GoodIn wsX7_abort (wsV RX7 148 RX7 yX7_ends wsX7_ends) := goodIn_app (goodIn_of _ (by decide +kernel)) ggX7_abort_X7_ends
theorem dX7_abort_0 : decode cX7_abort 0 = .ok (.aload_n 0, 1) := by decide +kernel
theorem dX7_abort_1 : decode cX7_abort 1 = .ok (.invokevirtual 142, 3) := by decide +kernel
theorem dX7_abort_4 : decode cX7_abort 4 = .ok (.aload_n 0, 1) := by decide +kernel
theorem dX7_abort_5 : decode cX7_abort 5 = .ok (.aload_n 0, 1) := by decide +kernel
theorem dX7_abort_6 : decode cX7_abort 6 = .ok (.invokevirtual 166, 3) := by decide +kernel
theorem dX7_abort_9 : decode cX7_abort 9 = .ok (.invokevirtual 148, 3) := by decide +kernel
theorem dX7_abort_12 : decode cX7_abort 12 = .ok (.ireturn, 1) := by decide +kernel
set_option maxRecDepth 20000 in
theorem ggX7_doOpen_X7_ofReader : GoodIn wsX7_doOpen wsX7_ofReader := goodIn_r _ [6, 1, 24, 25, 26, 27, 28, 29, 30, 31, 32, 33, 34, 35, 36] (by decide +kernel) (by decide +kernel)
set_option maxRecDepth 20000 in
theorem gX7_doOpen_X7_ofReader : GoodIn wsX7_doOpen (wsV RX7 50 RX7 yX7_ofReader wsX7_ofReader) := goodIn_app (goodIn_of _ (by decide +kernel)) ggX7_doOpen_X7_ofReader
set_option maxRecDepth 20000 in
theorem ggX7_doOpen_X7_refuse : GoodIn wsX7_doOpen wsX7_refuse := goodIn_r _ [10, 11, 24, 25, 26, 27, 28, 29, 30, 31, 32, 33, 34, 35, 36] (by decide +kernel) (by decide +kernel)
set_option maxRecDepth 20000 in
theorem gX7_doOpen_X7_refuse : GoodIn wsX7_doOpen (wsV RX7 117 RX7 yX7_refuse wsX7_refuse) := goodIn_app (goodIn_of _ (by decide +kernel)) ggX7_doOpen_X7_refuse
set_option maxRecDepth 20000 in
theorem ggX7_doOpen_X7_current : GoodIn wsX7_doOpen wsX7_current := goodIn_r _ [15, 1, 24, 25, 26, 27, 28, 29, 30, 31, 32, 33, 34, 35, 36] (by decide +kernel) (by decide +kernel)
set_option maxRecDepth 20000 in
theorem gX7_doOpen_X7_current : GoodIn wsX7_doOpen (wsV RX7 42 RX7 yX7_current wsX7_current) := goodIn_app (goodIn_of _ (by decide +kernel)) ggX7_doOpen_X7_current
set_option maxRecDepth 20000 in
theorem ggX7_doOpen_X7_ofRoot : GoodIn wsX7_doOpen wsX7_ofRoot := goodIn_r _ [19, 1, 24, 25, 26, 27, 28, 29, 30, 31, 32, 33, 34, 35, 36] (by decide +kernel) (by decide +kernel)
set_option maxRecDepth 20000 in
theorem gX7_doOpen_X7_ofRoot : GoodIn wsX7_doOpen (wsV RX7 46 RX7 yX7_ofRoot wsX7_ofRoot) := goodIn_app (goodIn_of _ (by decide +kernel)) ggX7_doOpen_X7_ofRoot
set_option maxRecDepth 20000 in
theorem ggX7_doOpen_X7_now : GoodIn wsX7_doOpen wsX7_now := goodIn_r _ [23, 12, 13, 14, 5, 15, 1, 16, 17, 18, 19, 24, 25, 26, 27, 28, 29, 30, 31, 32, 33, 34, 35, 36] (by decide +kernel) (by decide +kernel)
set_option maxRecDepth 20000 in
theorem gX7_doOpen_X7_now : GoodIn wsX7_doOpen (wsV RX7 90 RX7 yX7_now wsX7_now) := goodIn_app (goodIn_of _ (by decide +kernel)) ggX7_doOpen_X7_now
theorem dX7_doOpen_0 : decode cX7_doOpen 0 = .ok (.iconst 0, 1) := by decide +kernel
theorem dX7_doOpen_1 : decode cX7_doOpen 1 = .ok (.istore_n 1, 1) := by decide +kernel
theorem dX7_doOpen_2 : decode cX7_doOpen 2 = .ok (.iload_n 1, 1) := by decide +kernel
theorem dX7_doOpen_3 : decode cX7_doOpen 3 = .ok (.iconst 4, 1) := by decide +kernel
theorem dX7_doOpen_4 : decode cX7_doOpen 4 = .ok (.if_icmp .ge 19, 3) := by decide +kernel
theorem dX7_doOpen_7 : decode cX7_doOpen 7 = .ok (.aload_n 0, 1) := by decide +kernel
theorem dX7_doOpen_8 : decode cX7_doOpen 8 = .ok (.iload_n 1, 1) := by decide +kernel
theorem dX7_doOpen_9 : decode cX7_doOpen 9 = .ok (.iconst 0, 1) := by decide +kernel
theorem dX7_doOpen_10 : decode cX7_doOpen 10 = .ok (.invokevirtual 50, 3) := by decide +kernel
theorem dX7_doOpen_13 : decode cX7_doOpen 13 = .ok (.iconst 1, 1) := by decide +kernel
theorem dX7_doOpen_14 : decode cX7_doOpen 14 = .ok (.if_icmp .ne 9, 3) := by decide +kernel
theorem dX7_doOpen_17 : decode cX7_doOpen 17 = .ok (.iinc 1 1, 3) := by decide +kernel
theorem dX7_doOpen_20 : decode cX7_doOpen 20 = .ok (.goto (-18), 3) := by decide +kernel
theorem dX7_doOpen_23 : decode cX7_doOpen 23 = .ok (.iload_n 1, 1) := by decide +kernel
theorem dX7_doOpen_24 : decode cX7_doOpen 24 = .ok (.iconst 4, 1) := by decide +kernel
theorem dX7_doOpen_25 : decode cX7_doOpen 25 = .ok (.if_icmp .ne 9, 3) := by decide +kernel
theorem dX7_doOpen_28 : decode cX7_doOpen 28 = .ok (.aload_n 0, 1) := by decide +kernel
theorem dX7_doOpen_29 : decode cX7_doOpen 29 = .ok (.iconst 1, 1) := by decide +kernel
theorem dX7_doOpen_30 : decode cX7_doOpen 30 = .ok (.invokevirtual 117, 3) := by decide +kernel
theorem dX7_doOpen_33 : decode cX7_doOpen 33 = .ok (.ireturn, 1) := by decide +kernel
theorem dX7_doOpen_34 : decode cX7_doOpen 34 = .ok (.aload_n 0, 1) := by decide +kernel
theorem dX7_doOpen_35 : decode cX7_doOpen 35 = .ok (.getfield 7, 3) := by decide +kernel
theorem dX7_doOpen_38 : decode cX7_doOpen 38 = .ok (.sipush 454, 3) := by decide +kernel
theorem dX7_doOpen_41 : decode cX7_doOpen 41 = .ok (.iconst 3, 1) := by decide +kernel
theorem dX7_doOpen_42 : decode cX7_doOpen 42 = .ok (.iload_n 1, 1) := by decide +kernel
theorem dX7_doOpen_43 : decode cX7_doOpen 43 = .ok (.imul, 1) := by decide +kernel
theorem dX7_doOpen_44 : decode cX7_doOpen 44 = .ok (.iadd, 1) := by decide +kernel
theorem dX7_doOpen_45 : decode cX7_doOpen 45 = .ok (.iconst 0, 1) := by decide +kernel
theorem dX7_doOpen_46 : decode cX7_doOpen 46 = .ok (.iadd, 1) := by decide +kernel
theorem dX7_doOpen_47 : decode cX7_doOpen 47 = .ok (.iconst 1, 1) := by decide +kernel
theorem dX7_doOpen_48 : decode cX7_doOpen 48 = .ok (.iastore, 1) := by decide +kernel
theorem dX7_doOpen_49 : decode cX7_doOpen 49 = .ok (.aload_n 0, 1) := by decide +kernel
theorem dX7_doOpen_50 : decode cX7_doOpen 50 = .ok (.getfield 7, 3) := by decide +kernel
theorem dX7_doOpen_53 : decode cX7_doOpen 53 = .ok (.sipush 454, 3) := by decide +kernel
theorem dX7_doOpen_56 : decode cX7_doOpen 56 = .ok (.iconst 3, 1) := by decide +kernel
theorem dX7_doOpen_57 : decode cX7_doOpen 57 = .ok (.iload_n 1, 1) := by decide +kernel
theorem dX7_doOpen_58 : decode cX7_doOpen 58 = .ok (.imul, 1) := by decide +kernel
theorem dX7_doOpen_59 : decode cX7_doOpen 59 = .ok (.iadd, 1) := by decide +kernel
theorem dX7_doOpen_60 : decode cX7_doOpen 60 = .ok (.iconst 1, 1) := by decide +kernel
theorem dX7_doOpen_61 : decode cX7_doOpen 61 = .ok (.iadd, 1) := by decide +kernel
theorem dX7_doOpen_62 : decode cX7_doOpen 62 = .ok (.aload_n 0, 1) := by decide +kernel
theorem dX7_doOpen_63 : decode cX7_doOpen 63 = .ok (.aload_n 0, 1) := by decide +kernel
theorem dX7_doOpen_64 : decode cX7_doOpen 64 = .ok (.invokevirtual 42, 3) := by decide +kernel
theorem dX7_doOpen_67 : decode cX7_doOpen 67 = .ok (.iconst 0, 1) := by decide +kernel
theorem dX7_doOpen_68 : decode cX7_doOpen 68 = .ok (.invokevirtual 46, 3) := by decide +kernel
theorem dX7_doOpen_71 : decode cX7_doOpen 71 = .ok (.iastore, 1) := by decide +kernel
theorem dX7_doOpen_72 : decode cX7_doOpen 72 = .ok (.aload_n 0, 1) := by decide +kernel
theorem dX7_doOpen_73 : decode cX7_doOpen 73 = .ok (.getfield 7, 3) := by decide +kernel
theorem dX7_doOpen_76 : decode cX7_doOpen 76 = .ok (.sipush 454, 3) := by decide +kernel
theorem dX7_doOpen_79 : decode cX7_doOpen 79 = .ok (.iconst 3, 1) := by decide +kernel
theorem dX7_doOpen_80 : decode cX7_doOpen 80 = .ok (.iload_n 1, 1) := by decide +kernel
theorem dX7_doOpen_81 : decode cX7_doOpen 81 = .ok (.imul, 1) := by decide +kernel
theorem dX7_doOpen_82 : decode cX7_doOpen 82 = .ok (.iadd, 1) := by decide +kernel
theorem dX7_doOpen_83 : decode cX7_doOpen 83 = .ok (.iconst 2, 1) := by decide +kernel
theorem dX7_doOpen_84 : decode cX7_doOpen 84 = .ok (.iadd, 1) := by decide +kernel
theorem dX7_doOpen_85 : decode cX7_doOpen 85 = .ok (.aload_n 0, 1) := by decide +kernel
theorem dX7_doOpen_86 : decode cX7_doOpen 86 = .ok (.invokevirtual 90, 3) := by decide +kernel
theorem dX7_doOpen_89 : decode cX7_doOpen 89 = .ok (.iastore, 1) := by decide +kernel
theorem dX7_doOpen_90 : decode cX7_doOpen 90 = .ok (.iload_n 1, 1) := by decide +kernel
theorem dX7_doOpen_91 : decode cX7_doOpen 91 = .ok (.ireturn, 1) := by decide +kernel
set_option maxRecDepth 20000 in
theorem ggX7_open_X7_hold : GoodIn wsX7_open wsX7_hold := goodIn_r _ [5, 6, 7, 8, 9, 10, 4, 11, 43, 44, 45, 46, 47, 48, 49, 50, 51, 52, 53, 54, 55] (by decide +kernel) (by decide +kernel)
set_option maxRecDepth 20000 in
theorem gX7_open_X7_hold : GoodIn wsX7_open (wsV RX7 142 RX7 yX7_hold wsX7_hold) := goodIn_app (goodIn_of _ (by decide +kernel)) ggX7_open_X7_hold
set_option maxRecDepth 20000 in
theorem ggX7_open_X7_doOpen : GoodIn wsX7_open wsX7_doOpen := goodIn_r _ [15, 7, 16, 17, 18, 4, 19, 20, 21, 22, 23, 6, 24, 25, 26, 27, 28, 29, 30, 31, 32, 33, 34, 35, 43, 44, 45, 46, 47, 48, 49, 50, 51, 52, 53, 54, 55] (by decide +kernel) (by decide +kernel)
set_option maxRecDepth 20000 in
theorem gX7_open_X7_doOpen : GoodIn wsX7_open (wsV RX7 169 RX7 yX7_doOpen wsX7_doOpen) := goodIn_app (goodIn_of _ (by decide +kernel)) ggX7_open_X7_doOpen
set_option maxRecDepth 20000 in
theorem ggX7_open_X7_ends : GoodIn wsX7_open wsX7_ends := goodIn_r _ [39, 6, 40, 41, 42, 8, 9, 10, 4, 11, 43, 44, 45, 46, 47, 48, 49, 50, 51, 52, 53, 54, 55] (by decide +kernel) (by decide +kernel)
set_option maxRecDepth 20000 in
theorem gX7_open_X7_ends : GoodIn wsX7_open (wsV RX7 148 RX7 yX7_ends wsX7_ends) := goodIn_app (goodIn_of _ (by decide +kernel)) ggX7_open_X7_ends
theorem dX7_open_0 : decode cX7_open 0 = .ok (.aload_n 0, 1) := by decide +kernel
theorem dX7_open_1 : decode cX7_open 1 = .ok (.invokevirtual 142, 3) := by decide +kernel
theorem dX7_open_4 : decode cX7_open 4 = .ok (.aload_n 0, 1) := by decide +kernel
theorem dX7_open_5 : decode cX7_open 5 = .ok (.aload_n 0, 1) := by decide +kernel
theorem dX7_open_6 : decode cX7_open 6 = .ok (.invokevirtual 169, 3) := by decide +kernel
theorem dX7_open_9 : decode cX7_open 9 = .ok (.invokevirtual 148, 3) := by decide +kernel
theorem dX7_open_12 : decode cX7_open 12 = .ok (.ireturn, 1) := by decide +kernel
set_option maxRecDepth 20000 in
theorem ggX7_freedToDig_X7_canBeDug : GoodIn wsX7_freedToDig wsX7_canBeDug := goodIn_r _ [5, 6, 7, 8, 4, 9, 10, 11, 12, 13, 14, 15, 16, 17, 18, 19, 20, 21, 22, 23, 24, 25, 26, 27, 28, 29, 30, 31, 32, 33, 34, 35, 36, 37, 38, 39] (by decide +kernel) (by decide +kernel)
set_option maxRecDepth 20000 in
theorem gX7_freedToDig_X7_canBeDug : GoodIn wsX7_freedToDig (wsV RX7 60 RX7 yX7_canBeDug wsX7_canBeDug) := goodIn_app (goodIn_of _ (by decide +kernel)) ggX7_freedToDig_X7_canBeDug
theorem dX7_freedToDig_0 : decode cX7_freedToDig 0 = .ok (.iconst 0, 1) := by decide +kernel
theorem dX7_freedToDig_1 : decode cX7_freedToDig 1 = .ok (.istore_n 1, 1) := by decide +kernel
theorem dX7_freedToDig_2 : decode cX7_freedToDig 2 = .ok (.iconst 0, 1) := by decide +kernel
theorem dX7_freedToDig_3 : decode cX7_freedToDig 3 = .ok (.istore_n 2, 1) := by decide +kernel
theorem dX7_freedToDig_4 : decode cX7_freedToDig 4 = .ok (.iload_n 2, 1) := by decide +kernel
theorem dX7_freedToDig_5 : decode cX7_freedToDig 5 = .ok (.bipush 32, 2) := by decide +kernel
theorem dX7_freedToDig_7 : decode cX7_freedToDig 7 = .ok (.if_icmp .ge 25, 3) := by decide +kernel
theorem dX7_freedToDig_10 : decode cX7_freedToDig 10 = .ok (.iload_n 1, 1) := by decide +kernel
theorem dX7_freedToDig_11 : decode cX7_freedToDig 11 = .ok (.aload_n 0, 1) := by decide +kernel
theorem dX7_freedToDig_12 : decode cX7_freedToDig 12 = .ok (.iload_n 2, 1) := by decide +kernel
theorem dX7_freedToDig_13 : decode cX7_freedToDig 13 = .ok (.invokevirtual 60, 3) := by decide +kernel
theorem dX7_freedToDig_16 : decode cX7_freedToDig 16 = .ok (.ifCond .eq 7, 3) := by decide +kernel
theorem dX7_freedToDig_19 : decode cX7_freedToDig 19 = .ok (.iconst 1, 1) := by decide +kernel
theorem dX7_freedToDig_20 : decode cX7_freedToDig 20 = .ok (.goto 4, 3) := by decide +kernel
theorem dX7_freedToDig_23 : decode cX7_freedToDig 23 = .ok (.iconst 0, 1) := by decide +kernel
theorem dX7_freedToDig_24 : decode cX7_freedToDig 24 = .ok (.iadd, 1) := by decide +kernel
theorem dX7_freedToDig_25 : decode cX7_freedToDig 25 = .ok (.istore_n 1, 1) := by decide +kernel
theorem dX7_freedToDig_26 : decode cX7_freedToDig 26 = .ok (.iinc 2 1, 3) := by decide +kernel
theorem dX7_freedToDig_29 : decode cX7_freedToDig 29 = .ok (.goto (-25), 3) := by decide +kernel
theorem dX7_freedToDig_32 : decode cX7_freedToDig 32 = .ok (.iload_n 1, 1) := by decide +kernel
theorem dX7_freedToDig_33 : decode cX7_freedToDig 33 = .ok (.ireturn, 1) := by decide +kernel
set_option maxRecDepth 20000 in
theorem ggX7_doClose_X7_in : GoodIn wsX7_doClose wsX7_in := goodIn_r _ [5] (by decide +kernel) (by decide +kernel)
set_option maxRecDepth 20000 in
theorem gX7_doClose_X7_in : GoodIn wsX7_doClose (va_wsS RX7 113 yX7_in wsX7_in) := goodIn_app (goodIn_of _ (by decide +kernel)) ggX7_doClose_X7_in
set_option maxRecDepth 20000 in
theorem ggX7_doClose_X7_refuse : GoodIn wsX7_doClose wsX7_refuse := goodIn_r _ [9, 10, 39, 40, 41, 42, 43, 44, 45, 46, 47, 48, 49, 50, 51] (by decide +kernel) (by decide +kernel)
set_option maxRecDepth 20000 in
theorem gX7_doClose_X7_refuse : GoodIn wsX7_doClose (wsV RX7 117 RX7 yX7_refuse wsX7_refuse) := goodIn_app (goodIn_of _ (by decide +kernel)) ggX7_doClose_X7_refuse
set_option maxRecDepth 20000 in
theorem ggX7_doClose_X7_ofReader : GoodIn wsX7_doClose wsX7_ofReader := goodIn_r _ [14, 1, 39, 40, 41, 42, 43, 44, 45, 46, 47, 48, 49, 50, 51] (by decide +kernel) (by decide +kernel)
set_option maxRecDepth 20000 in
theorem gX7_doClose_X7_ofReader : GoodIn wsX7_doClose (wsV RX7 50 RX7 yX7_ofReader wsX7_ofReader) := goodIn_app (goodIn_of _ (by decide +kernel)) ggX7_doClose_X7_ofReader
set_option maxRecDepth 20000 in
theorem ggX7_doClose_X7_freedToDig : GoodIn wsX7_doClose wsX7_freedToDig := goodIn_r _ [18, 19, 20, 21, 4, 22, 23, 24, 25, 26, 1, 27, 28, 29, 30, 31, 32, 33, 34, 35, 36, 37, 38, 11, 12, 13, 14, 39, 40, 41, 42, 43, 44, 45, 46, 47, 48, 49, 50, 51] (by decide +kernel) (by decide +kernel)
set_option maxRecDepth 20000 in
theorem gX7_doClose_X7_freedToDig : GoodIn wsX7_doClose (wsV RX7 172 RX7 yX7_freedToDig wsX7_freedToDig) := goodIn_app (goodIn_of _ (by decide +kernel)) ggX7_doClose_X7_freedToDig
theorem dX7_doClose_0 : decode cX7_doClose 0 = .ok (.iload_n 1, 1) := by decide +kernel
theorem dX7_doClose_1 : decode cX7_doClose 1 = .ok (.iconst 0, 1) := by decide +kernel
theorem dX7_doClose_2 : decode cX7_doClose 2 = .ok (.iconst 3, 1) := by decide +kernel
theorem dX7_doClose_3 : decode cX7_doClose 3 = .ok (.invokestatic 113, 3) := by decide +kernel
theorem dX7_doClose_6 : decode cX7_doClose 6 = .ok (.ifCond .ne 9, 3) := by decide +kernel
theorem dX7_doClose_9 : decode cX7_doClose 9 = .ok (.aload_n 0, 1) := by decide +kernel
theorem dX7_doClose_10 : decode cX7_doClose 10 = .ok (.iconst 1, 1) := by decide +kernel
theorem dX7_doClose_11 : decode cX7_doClose 11 = .ok (.invokevirtual 117, 3) := by decide +kernel
theorem dX7_doClose_14 : decode cX7_doClose 14 = .ok (.ireturn, 1) := by decide +kernel
theorem dX7_doClose_15 : decode cX7_doClose 15 = .ok (.aload_n 0, 1) := by decide +kernel
theorem dX7_doClose_16 : decode cX7_doClose 16 = .ok (.iload_n 1, 1) := by decide +kernel
theorem dX7_doClose_17 : decode cX7_doClose 17 = .ok (.iconst 0, 1) := by decide +kernel
theorem dX7_doClose_18 : decode cX7_doClose 18 = .ok (.invokevirtual 50, 3) := by decide +kernel
theorem dX7_doClose_21 : decode cX7_doClose 21 = .ok (.ifCond .ne 9, 3) := by decide +kernel
theorem dX7_doClose_24 : decode cX7_doClose 24 = .ok (.aload_n 0, 1) := by decide +kernel
theorem dX7_doClose_25 : decode cX7_doClose 25 = .ok (.iconst 2, 1) := by decide +kernel
theorem dX7_doClose_26 : decode cX7_doClose 26 = .ok (.invokevirtual 117, 3) := by decide +kernel
theorem dX7_doClose_29 : decode cX7_doClose 29 = .ok (.ireturn, 1) := by decide +kernel
theorem dX7_doClose_30 : decode cX7_doClose 30 = .ok (.aload_n 0, 1) := by decide +kernel
theorem dX7_doClose_31 : decode cX7_doClose 31 = .ok (.invokevirtual 172, 3) := by decide +kernel
theorem dX7_doClose_34 : decode cX7_doClose 34 = .ok (.istore_n 2, 1) := by decide +kernel
theorem dX7_doClose_35 : decode cX7_doClose 35 = .ok (.iconst 0, 1) := by decide +kernel
theorem dX7_doClose_36 : decode cX7_doClose 36 = .ok (.istore_n 3, 1) := by decide +kernel
theorem dX7_doClose_37 : decode cX7_doClose 37 = .ok (.iload_n 3, 1) := by decide +kernel
theorem dX7_doClose_38 : decode cX7_doClose 38 = .ok (.iconst 3, 1) := by decide +kernel
theorem dX7_doClose_39 : decode cX7_doClose 39 = .ok (.if_icmp .ge 24, 3) := by decide +kernel
theorem dX7_doClose_42 : decode cX7_doClose 42 = .ok (.aload_n 0, 1) := by decide +kernel
theorem dX7_doClose_43 : decode cX7_doClose 43 = .ok (.getfield 7, 3) := by decide +kernel
theorem dX7_doClose_46 : decode cX7_doClose 46 = .ok (.sipush 454, 3) := by decide +kernel
theorem dX7_doClose_49 : decode cX7_doClose 49 = .ok (.iconst 3, 1) := by decide +kernel
theorem dX7_doClose_50 : decode cX7_doClose 50 = .ok (.iload_n 1, 1) := by decide +kernel
theorem dX7_doClose_51 : decode cX7_doClose 51 = .ok (.imul, 1) := by decide +kernel
theorem dX7_doClose_52 : decode cX7_doClose 52 = .ok (.iadd, 1) := by decide +kernel
theorem dX7_doClose_53 : decode cX7_doClose 53 = .ok (.iload_n 3, 1) := by decide +kernel
theorem dX7_doClose_54 : decode cX7_doClose 54 = .ok (.iadd, 1) := by decide +kernel
theorem dX7_doClose_55 : decode cX7_doClose 55 = .ok (.iconst 0, 1) := by decide +kernel
theorem dX7_doClose_56 : decode cX7_doClose 56 = .ok (.iastore, 1) := by decide +kernel
theorem dX7_doClose_57 : decode cX7_doClose 57 = .ok (.iinc 3 1, 3) := by decide +kernel
theorem dX7_doClose_60 : decode cX7_doClose 60 = .ok (.goto (-23), 3) := by decide +kernel
theorem dX7_doClose_63 : decode cX7_doClose 63 = .ok (.aload_n 0, 1) := by decide +kernel
theorem dX7_doClose_64 : decode cX7_doClose 64 = .ok (.invokevirtual 172, 3) := by decide +kernel
theorem dX7_doClose_67 : decode cX7_doClose 67 = .ok (.iload_n 2, 1) := by decide +kernel
theorem dX7_doClose_68 : decode cX7_doClose 68 = .ok (.isub, 1) := by decide +kernel
theorem dX7_doClose_69 : decode cX7_doClose 69 = .ok (.ireturn, 1) := by decide +kernel
set_option maxRecDepth 20000 in
theorem ggX7_close_X7_hold : GoodIn wsX7_close wsX7_hold := goodIn_r _ [5, 6, 7, 8, 9, 10, 4, 11, 58, 59, 60, 61, 62, 63, 64, 65, 66, 67, 68, 69, 70] (by decide +kernel) (by decide +kernel)
set_option maxRecDepth 20000 in
theorem gX7_close_X7_hold : GoodIn wsX7_close (wsV RX7 142 RX7 yX7_hold wsX7_hold) := goodIn_app (goodIn_of _ (by decide +kernel)) ggX7_close_X7_hold
set_option maxRecDepth 20000 in
theorem ggX7_close_X7_doClose : GoodIn wsX7_close wsX7_doClose := goodIn_r _ [15, 7, 16, 17, 4, 18, 19, 20, 21, 22, 6, 23, 24, 25, 26, 27, 28, 29, 30, 31, 32, 33, 34, 35, 36, 37, 38, 39, 40, 41, 42, 43, 44, 45, 46, 47, 48, 49, 50, 58, 59, 60, 61, 62, 63, 64, 65, 66, 67, 68, 69, 70] (by decide +kernel) (by decide +kernel)
set_option maxRecDepth 20000 in
theorem gX7_close_X7_doClose : GoodIn wsX7_close (wsV RX7 175 RX7 yX7_doClose wsX7_doClose) := goodIn_app (goodIn_of _ (by decide +kernel)) ggX7_close_X7_doClose
set_option maxRecDepth 20000 in
theorem ggX7_close_X7_ends : GoodIn wsX7_close wsX7_ends := goodIn_r _ [54, 6, 55, 56, 57, 8, 9, 10, 4, 11, 58, 59, 60, 61, 62, 63, 64, 65, 66, 67, 68, 69, 70] (by decide +kernel) (by decide +kernel)
set_option maxRecDepth 20000 in
theorem gX7_close_X7_ends : GoodIn wsX7_close (wsV RX7 148 RX7 yX7_ends wsX7_ends) := goodIn_app (goodIn_of _ (by decide +kernel)) ggX7_close_X7_ends
theorem dX7_close_0 : decode cX7_close 0 = .ok (.aload_n 0, 1) := by decide +kernel
theorem dX7_close_1 : decode cX7_close 1 = .ok (.invokevirtual 142, 3) := by decide +kernel
theorem dX7_close_4 : decode cX7_close 4 = .ok (.aload_n 0, 1) := by decide +kernel
theorem dX7_close_5 : decode cX7_close 5 = .ok (.aload_n 0, 1) := by decide +kernel
theorem dX7_close_6 : decode cX7_close 6 = .ok (.iload_n 1, 1) := by decide +kernel
theorem dX7_close_7 : decode cX7_close 7 = .ok (.invokevirtual 175, 3) := by decide +kernel
theorem dX7_close_10 : decode cX7_close 10 = .ok (.invokevirtual 148, 3) := by decide +kernel
theorem dX7_close_13 : decode cX7_close 13 = .ok (.ireturn, 1) := by decide +kernel
set_option maxRecDepth 20000 in
theorem ggX7_isKey_X7_in : GoodIn wsX7_isKey wsX7_in := goodIn_r _ [4] (by decide +kernel) (by decide +kernel)
set_option maxRecDepth 20000 in
theorem gX7_isKey_X7_in : GoodIn wsX7_isKey (va_wsS RX7 113 yX7_in wsX7_in) := goodIn_app (goodIn_of _ (by decide +kernel)) ggX7_isKey_X7_in
theorem dX7_isKey_0 : decode cX7_isKey 0 = .ok (.iload_n 0, 1) := by decide +kernel
theorem dX7_isKey_1 : decode cX7_isKey 1 = .ok (.iconst 0, 1) := by decide +kernel
theorem dX7_isKey_2 : decode cX7_isKey 2 = .ok (.bipush 99, 2) := by decide +kernel
theorem dX7_isKey_4 : decode cX7_isKey 4 = .ok (.invokestatic 113, 3) := by decide +kernel
theorem dX7_isKey_7 : decode cX7_isKey 7 = .ok (.ireturn, 1) := by decide +kernel
set_option maxRecDepth 20000 in
theorem ggX7_isReader_X7_in : GoodIn wsX7_isReader wsX7_in := goodIn_r _ [4] (by decide +kernel) (by decide +kernel)
set_option maxRecDepth 20000 in
theorem gX7_isReader_X7_in : GoodIn wsX7_isReader (va_wsS RX7 113 yX7_in wsX7_in) := goodIn_app (goodIn_of _ (by decide +kernel)) ggX7_isReader_X7_in
theorem dX7_isReader_0 : decode cX7_isReader 0 = .ok (.iload_n 0, 1) := by decide +kernel
theorem dX7_isReader_1 : decode cX7_isReader 1 = .ok (.iconst 0, 1) := by decide +kernel
theorem dX7_isReader_2 : decode cX7_isReader 2 = .ok (.iconst 3, 1) := by decide +kernel
theorem dX7_isReader_3 : decode cX7_isReader 3 = .ok (.invokestatic 113, 3) := by decide +kernel
theorem dX7_isReader_6 : decode cX7_isReader 6 = .ok (.ireturn, 1) := by decide +kernel
set_option maxRecDepth 20000 in
theorem ggX7_get_X7_isKey : GoodIn wsX7_get wsX7_isKey := goodIn_r _ [5, 6, 7, 4, 8] (by decide +kernel) (by decide +kernel)
set_option maxRecDepth 20000 in
theorem gX7_get_X7_isKey : GoodIn wsX7_get (va_wsS RX7 178 yX7_isKey wsX7_isKey) := goodIn_app (goodIn_of _ (by decide +kernel)) ggX7_get_X7_isKey
set_option maxRecDepth 20000 in
theorem ggX7_get_X7_now : GoodIn wsX7_get wsX7_now := goodIn_r _ [12, 13, 14, 15, 4, 16, 17, 18, 19, 20, 21, 54, 55, 56, 57, 58, 59, 60, 61, 62, 63, 64, 65, 66] (by decide +kernel) (by decide +kernel)
set_option maxRecDepth 20000 in
theorem gX7_get_X7_now : GoodIn wsX7_get (wsV RX7 90 RX7 yX7_now wsX7_now) := goodIn_app (goodIn_of _ (by decide +kernel)) ggX7_get_X7_now
set_option maxRecDepth 20000 in
theorem ggX7_get_X7_valueBy : GoodIn wsX7_get wsX7_valueBy := goodIn_r _ [25, 26, 27, 28, 4, 29, 30, 31, 32, 33, 17, 34, 35, 36, 37, 38, 39, 40, 41, 42, 43, 44, 45, 46, 47, 48, 49, 54, 55, 56, 57, 58, 59, 60, 61, 62, 63, 64, 65, 66] (by decide +kernel) (by decide +kernel)
set_option maxRecDepth 20000 in
theorem gX7_get_X7_valueBy : GoodIn wsX7_get (wsV RX7 139 RX7 yX7_valueBy wsX7_valueBy) := goodIn_app (goodIn_of _ (by decide +kernel)) ggX7_get_X7_valueBy
set_option maxRecDepth 20000 in
theorem ggX7_get_X7_fails : GoodIn wsX7_get wsX7_fails := goodIn_r _ [53, 1, 54, 55, 56, 57, 58, 59, 60, 61, 62, 63, 64, 65, 66] (by decide +kernel) (by decide +kernel)
set_option maxRecDepth 20000 in
theorem gX7_get_X7_fails : GoodIn wsX7_get (wsV RX7 181 RX7 yX7_fails wsX7_fails) := goodIn_app (goodIn_of _ (by decide +kernel)) ggX7_get_X7_fails
theorem dX7_get_0 : decode cX7_get 0 = .ok (.aload_n 0, 1) := by decide +kernel
theorem dX7_get_1 : decode cX7_get 1 = .ok (.iconst 0, 1) := by decide +kernel
theorem dX7_get_2 : decode cX7_get 2 = .ok (.putfield 28, 3) := by decide +kernel
theorem dX7_get_5 : decode cX7_get 5 = .ok (.iload_n 1, 1) := by decide +kernel
theorem dX7_get_6 : decode cX7_get 6 = .ok (.invokestatic 178, 3) := by decide +kernel
theorem dX7_get_9 : decode cX7_get 9 = .ok (.ifCond .eq 15, 3) := by decide +kernel
theorem dX7_get_12 : decode cX7_get 12 = .ok (.aload_n 0, 1) := by decide +kernel
theorem dX7_get_13 : decode cX7_get 13 = .ok (.aload_n 0, 1) := by decide +kernel
theorem dX7_get_14 : decode cX7_get 14 = .ok (.invokevirtual 90, 3) := by decide +kernel
theorem dX7_get_17 : decode cX7_get 17 = .ok (.iload_n 1, 1) := by decide +kernel
theorem dX7_get_18 : decode cX7_get 18 = .ok (.invokevirtual 139, 3) := by decide +kernel
theorem dX7_get_21 : decode cX7_get 21 = .ok (.goto 8, 3) := by decide +kernel
theorem dX7_get_24 : decode cX7_get 24 = .ok (.aload_n 0, 1) := by decide +kernel
theorem dX7_get_25 : decode cX7_get 25 = .ok (.iconst 1, 1) := by decide +kernel
theorem dX7_get_26 : decode cX7_get 26 = .ok (.invokevirtual 181, 3) := by decide +kernel
theorem dX7_get_29 : decode cX7_get 29 = .ok (.ireturn, 1) := by decide +kernel
set_option maxRecDepth 20000 in
theorem ggX7_drafted_X7_isKey : GoodIn wsX7_drafted wsX7_isKey := goodIn_r _ [6, 7, 8, 5, 9] (by decide +kernel) (by decide +kernel)
set_option maxRecDepth 20000 in
theorem gX7_drafted_X7_isKey : GoodIn wsX7_drafted (va_wsS RX7 178 yX7_isKey wsX7_isKey) := goodIn_app (goodIn_of _ (by decide +kernel)) ggX7_drafted_X7_isKey
set_option maxRecDepth 20000 in
theorem ggX7_drafted_X7_drafts : GoodIn wsX7_drafted wsX7_drafts := goodIn_r _ [13, 1, 14, 15, 16, 5, 17, 18, 19, 20, 21, 22, 23, 24, 25, 54, 55, 56, 57, 58, 59, 60, 61, 62, 63, 64, 65, 66] (by decide +kernel) (by decide +kernel)
set_option maxRecDepth 20000 in
theorem gX7_drafted_X7_drafts : GoodIn wsX7_drafted (wsV RX7 93 RX7 yX7_drafts wsX7_drafts) := goodIn_app (goodIn_of _ (by decide +kernel)) ggX7_drafted_X7_drafts
set_option maxRecDepth 20000 in
theorem ggX7_drafted_X7_valueBy : GoodIn wsX7_drafted wsX7_valueBy := goodIn_r _ [29, 30, 31, 32, 5, 33, 34, 35, 36, 37, 1, 38, 39, 40, 41, 42, 43, 44, 45, 46, 47, 48, 49, 50, 51, 52, 53, 54, 55, 56, 57, 58, 59, 60, 61, 62, 63, 64, 65, 66] (by decide +kernel) (by decide +kernel)
set_option maxRecDepth 20000 in
theorem gX7_drafted_X7_valueBy : GoodIn wsX7_drafted (wsV RX7 139 RX7 yX7_valueBy wsX7_valueBy) := goodIn_app (goodIn_of _ (by decide +kernel)) ggX7_drafted_X7_valueBy
theorem dX7_drafted_0 : decode cX7_drafted 0 = .ok (.aload_n 0, 1) := by decide +kernel
theorem dX7_drafted_1 : decode cX7_drafted 1 = .ok (.iload_n 1, 1) := by decide +kernel
theorem dX7_drafted_2 : decode cX7_drafted 2 = .ok (.invokestatic 178, 3) := by decide +kernel
theorem dX7_drafted_5 : decode cX7_drafted 5 = .ok (.ifCond .ne 7, 3) := by decide +kernel
theorem dX7_drafted_8 : decode cX7_drafted 8 = .ok (.iconst 1, 1) := by decide +kernel
theorem dX7_drafted_9 : decode cX7_drafted 9 = .ok (.goto 19, 3) := by decide +kernel
theorem dX7_drafted_12 : decode cX7_drafted 12 = .ok (.aload_n 0, 1) := by decide +kernel
theorem dX7_drafted_13 : decode cX7_drafted 13 = .ok (.getfield 7, 3) := by decide +kernel
theorem dX7_drafted_16 : decode cX7_drafted 16 = .ok (.sipush 466, 3) := by decide +kernel
theorem dX7_drafted_19 : decode cX7_drafted 19 = .ok (.iaload, 1) := by decide +kernel
theorem dX7_drafted_20 : decode cX7_drafted 20 = .ok (.ifCond .ne 7, 3) := by decide +kernel
theorem dX7_drafted_23 : decode cX7_drafted 23 = .ok (.iconst 2, 1) := by decide +kernel
theorem dX7_drafted_24 : decode cX7_drafted 24 = .ok (.goto 4, 3) := by decide +kernel
theorem dX7_drafted_27 : decode cX7_drafted 27 = .ok (.iconst 0, 1) := by decide +kernel
theorem dX7_drafted_28 : decode cX7_drafted 28 = .ok (.putfield 28, 3) := by decide +kernel
theorem dX7_drafted_31 : decode cX7_drafted 31 = .ok (.aload_n 0, 1) := by decide +kernel
theorem dX7_drafted_32 : decode cX7_drafted 32 = .ok (.getfield 28, 3) := by decide +kernel
theorem dX7_drafted_35 : decode cX7_drafted 35 = .ok (.ifCond .ne 15, 3) := by decide +kernel
theorem dX7_drafted_38 : decode cX7_drafted 38 = .ok (.aload_n 0, 1) := by decide +kernel
theorem dX7_drafted_39 : decode cX7_drafted 39 = .ok (.aload_n 0, 1) := by decide +kernel
theorem dX7_drafted_40 : decode cX7_drafted 40 = .ok (.invokevirtual 93, 3) := by decide +kernel
theorem dX7_drafted_43 : decode cX7_drafted 43 = .ok (.iload_n 1, 1) := by decide +kernel
theorem dX7_drafted_44 : decode cX7_drafted 44 = .ok (.invokevirtual 139, 3) := by decide +kernel
theorem dX7_drafted_47 : decode cX7_drafted 47 = .ok (.goto 4, 3) := by decide +kernel
theorem dX7_drafted_50 : decode cX7_drafted 50 = .ok (.iconst 0, 1) := by decide +kernel
theorem dX7_drafted_51 : decode cX7_drafted 51 = .ok (.ireturn, 1) := by decide +kernel
set_option maxRecDepth 20000 in
theorem ggX7_read_X7_isReader : GoodIn wsX7_read wsX7_isReader := goodIn_r _ [5, 6, 7, 4, 8] (by decide +kernel) (by decide +kernel)
set_option maxRecDepth 20000 in
theorem gX7_read_X7_isReader : GoodIn wsX7_read (va_wsS RX7 184 yX7_isReader wsX7_isReader) := goodIn_app (goodIn_of _ (by decide +kernel)) ggX7_read_X7_isReader
set_option maxRecDepth 20000 in
theorem ggX7_read_X7_isKey : GoodIn wsX7_read wsX7_isKey := goodIn_r _ [11, 6, 7, 4, 8] (by decide +kernel) (by decide +kernel)
set_option maxRecDepth 20000 in
theorem gX7_read_X7_isKey : GoodIn wsX7_read (va_wsS RX7 178 yX7_isKey wsX7_isKey) := goodIn_app (goodIn_of _ (by decide +kernel)) ggX7_read_X7_isKey
set_option maxRecDepth 20000 in
theorem ggX7_read_X7_ofReader : GoodIn wsX7_read wsX7_ofReader := goodIn_r _ [15, 16, 45, 46, 47, 48, 49, 50, 51, 52, 53, 54, 55, 56, 57] (by decide +kernel) (by decide +kernel)
set_option maxRecDepth 20000 in
theorem gX7_read_X7_ofReader : GoodIn wsX7_read (wsV RX7 50 RX7 yX7_ofReader wsX7_ofReader) := goodIn_app (goodIn_of _ (by decide +kernel)) ggX7_read_X7_ofReader
set_option maxRecDepth 20000 in
theorem ggX7_read_X7_valueBy : GoodIn wsX7_read wsX7_valueBy := goodIn_r _ [20, 21, 22, 23, 4, 24, 25, 26, 27, 28, 16, 29, 30, 31, 32, 33, 34, 35, 36, 37, 38, 39, 40, 41, 42, 43, 44, 45, 46, 47, 48, 49, 50, 51, 52, 53, 54, 55, 56, 57] (by decide +kernel) (by decide +kernel)
set_option maxRecDepth 20000 in
theorem gX7_read_X7_valueBy : GoodIn wsX7_read (wsV RX7 139 RX7 yX7_valueBy wsX7_valueBy) := goodIn_app (goodIn_of _ (by decide +kernel)) ggX7_read_X7_valueBy
theorem dX7_read_0 : decode cX7_read 0 = .ok (.aload_n 0, 1) := by decide +kernel
theorem dX7_read_1 : decode cX7_read 1 = .ok (.iload_n 1, 1) := by decide +kernel
theorem dX7_read_2 : decode cX7_read 2 = .ok (.invokestatic 184, 3) := by decide +kernel
theorem dX7_read_5 : decode cX7_read 5 = .ok (.ifCond .ne 7, 3) := by decide +kernel
theorem dX7_read_8 : decode cX7_read 8 = .ok (.iconst 1, 1) := by decide +kernel
theorem dX7_read_9 : decode cX7_read 9 = .ok (.goto 28, 3) := by decide +kernel
theorem dX7_read_12 : decode cX7_read 12 = .ok (.iload_n 2, 1) := by decide +kernel
theorem dX7_read_13 : decode cX7_read 13 = .ok (.invokestatic 178, 3) := by decide +kernel
theorem dX7_read_16 : decode cX7_read 16 = .ok (.ifCond .ne 7, 3) := by decide +kernel
theorem dX7_read_19 : decode cX7_read 19 = .ok (.iconst 2, 1) := by decide +kernel
theorem dX7_read_20 : decode cX7_read 20 = .ok (.goto 17, 3) := by decide +kernel
theorem dX7_read_23 : decode cX7_read 23 = .ok (.aload_n 0, 1) := by decide +kernel
theorem dX7_read_24 : decode cX7_read 24 = .ok (.iload_n 1, 1) := by decide +kernel
theorem dX7_read_25 : decode cX7_read 25 = .ok (.iconst 0, 1) := by decide +kernel
theorem dX7_read_26 : decode cX7_read 26 = .ok (.invokevirtual 50, 3) := by decide +kernel
theorem dX7_read_29 : decode cX7_read 29 = .ok (.ifCond .ne 7, 3) := by decide +kernel
theorem dX7_read_32 : decode cX7_read 32 = .ok (.iconst 3, 1) := by decide +kernel
theorem dX7_read_33 : decode cX7_read 33 = .ok (.goto 4, 3) := by decide +kernel
theorem dX7_read_36 : decode cX7_read 36 = .ok (.iconst 0, 1) := by decide +kernel
theorem dX7_read_37 : decode cX7_read 37 = .ok (.putfield 28, 3) := by decide +kernel
theorem dX7_read_40 : decode cX7_read 40 = .ok (.aload_n 0, 1) := by decide +kernel
theorem dX7_read_41 : decode cX7_read 41 = .ok (.getfield 28, 3) := by decide +kernel
theorem dX7_read_44 : decode cX7_read 44 = .ok (.ifCond .ne 17, 3) := by decide +kernel
theorem dX7_read_47 : decode cX7_read 47 = .ok (.aload_n 0, 1) := by decide +kernel
theorem dX7_read_48 : decode cX7_read 48 = .ok (.aload_n 0, 1) := by decide +kernel
theorem dX7_read_49 : decode cX7_read 49 = .ok (.iload_n 1, 1) := by decide +kernel
theorem dX7_read_50 : decode cX7_read 50 = .ok (.iconst 2, 1) := by decide +kernel
theorem dX7_read_51 : decode cX7_read 51 = .ok (.invokevirtual 50, 3) := by decide +kernel
theorem dX7_read_54 : decode cX7_read 54 = .ok (.iload_n 2, 1) := by decide +kernel
theorem dX7_read_55 : decode cX7_read 55 = .ok (.invokevirtual 139, 3) := by decide +kernel
theorem dX7_read_58 : decode cX7_read 58 = .ok (.goto 4, 3) := by decide +kernel
theorem dX7_read_61 : decode cX7_read 61 = .ok (.iconst 0, 1) := by decide +kernel
theorem dX7_read_62 : decode cX7_read 62 = .ok (.ireturn, 1) := by decide +kernel
set_option maxRecDepth 20000 in
theorem ggX7_tellEntry_X7_now : GoodIn wsX7_tellEntry wsX7_now := goodIn_r _ [5, 6, 7, 8, 4, 9, 10, 11, 12, 13, 14, 31, 32, 33, 34, 35, 36, 37, 38, 39, 40, 41, 42, 43] (by decide +kernel) (by decide +kernel)
set_option maxRecDepth 20000 in
theorem gX7_tellEntry_X7_now : GoodIn wsX7_tellEntry (wsV RX7 90 RX7 yX7_now wsX7_now) := goodIn_app (goodIn_of _ (by decide +kernel)) ggX7_tellEntry_X7_now
set_option maxRecDepth 20000 in
theorem ggX7_tellEntry_X7_leafAt : GoodIn wsX7_tellEntry wsX7_leafAt := goodIn_r _ [18, 19, 20, 21, 4, 22, 10, 31, 32, 33, 34, 35, 36, 37, 38, 39, 40, 41, 42, 43] (by decide +kernel) (by decide +kernel)
set_option maxRecDepth 20000 in
theorem gX7_tellEntry_X7_leafAt : GoodIn wsX7_tellEntry (wsV RX7 75 RX7 yX7_leafAt wsX7_leafAt) := goodIn_app (goodIn_of _ (by decide +kernel)) ggX7_tellEntry_X7_leafAt
set_option maxRecDepth 20000 in
theorem ggX7_tellEntry_X7_of : GoodIn wsX7_tellEntry wsX7_of := goodIn_r _ [22, 10, 31, 32, 33, 34, 35, 36, 37, 38, 39, 40, 41, 42, 43] (by decide +kernel) (by decide +kernel)
set_option maxRecDepth 20000 in
theorem gX7_tellEntry_X7_of : GoodIn wsX7_tellEntry (wsV RX7 53 RX7 yX7_of wsX7_of) := goodIn_app (goodIn_of _ (by decide +kernel)) ggX7_tellEntry_X7_of
set_option maxRecDepth 20000 in
theorem ggX7_tellEntry_X7_keyAt : GoodIn wsX7_tellEntry wsX7_keyAt := goodIn_r _ [26, 19, 20, 21, 4, 22, 10, 31, 32, 33, 34, 35, 36, 37, 38, 39, 40, 41, 42, 43] (by decide +kernel) (by decide +kernel)
set_option maxRecDepth 20000 in
theorem gX7_tellEntry_X7_keyAt : GoodIn wsX7_tellEntry (wsV RX7 78 RX7 yX7_keyAt wsX7_keyAt) := goodIn_app (goodIn_of _ (by decide +kernel)) ggX7_tellEntry_X7_keyAt
set_option maxRecDepth 20000 in
theorem ggX7_tellEntry_X7_valueAt : GoodIn wsX7_tellEntry wsX7_valueAt := goodIn_r _ [30, 19, 20, 21, 4, 22, 10, 31, 32, 33, 34, 35, 36, 37, 38, 39, 40, 41, 42, 43] (by decide +kernel) (by decide +kernel)
set_option maxRecDepth 20000 in
theorem gX7_tellEntry_X7_valueAt : GoodIn wsX7_tellEntry (wsV RX7 87 RX7 yX7_valueAt wsX7_valueAt) := goodIn_app (goodIn_of _ (by decide +kernel)) ggX7_tellEntry_X7_valueAt
theorem dX7_tellEntry_0 : decode cX7_tellEntry 0 = .ok (.iload_n 1, 1) := by decide +kernel
theorem dX7_tellEntry_1 : decode cX7_tellEntry 1 = .ok (.istore_n 3, 1) := by decide +kernel
theorem dX7_tellEntry_2 : decode cX7_tellEntry 2 = .ok (.iconst 0, 1) := by decide +kernel
theorem dX7_tellEntry_3 : decode cX7_tellEntry 3 = .ok (.istore 4, 2) := by decide +kernel
theorem dX7_tellEntry_5 : decode cX7_tellEntry 5 = .ok (.iload_n 3, 1) := by decide +kernel
theorem dX7_tellEntry_6 : decode cX7_tellEntry 6 = .ok (.aload_n 0, 1) := by decide +kernel
theorem dX7_tellEntry_7 : decode cX7_tellEntry 7 = .ok (.aload_n 0, 1) := by decide +kernel
theorem dX7_tellEntry_8 : decode cX7_tellEntry 8 = .ok (.aload_n 0, 1) := by decide +kernel
theorem dX7_tellEntry_9 : decode cX7_tellEntry 9 = .ok (.invokevirtual 90, 3) := by decide +kernel
theorem dX7_tellEntry_12 : decode cX7_tellEntry 12 = .ok (.iload 4, 2) := by decide +kernel
theorem dX7_tellEntry_14 : decode cX7_tellEntry 14 = .ok (.invokevirtual 75, 3) := by decide +kernel
theorem dX7_tellEntry_17 : decode cX7_tellEntry 17 = .ok (.iconst 2, 1) := by decide +kernel
theorem dX7_tellEntry_18 : decode cX7_tellEntry 18 = .ok (.invokevirtual 53, 3) := by decide +kernel
theorem dX7_tellEntry_21 : decode cX7_tellEntry 21 = .ok (.if_icmp .lt 27, 3) := by decide +kernel
theorem dX7_tellEntry_24 : decode cX7_tellEntry 24 = .ok (.iload_n 3, 1) := by decide +kernel
theorem dX7_tellEntry_25 : decode cX7_tellEntry 25 = .ok (.aload_n 0, 1) := by decide +kernel
theorem dX7_tellEntry_26 : decode cX7_tellEntry 26 = .ok (.aload_n 0, 1) := by decide +kernel
theorem dX7_tellEntry_27 : decode cX7_tellEntry 27 = .ok (.aload_n 0, 1) := by decide +kernel
theorem dX7_tellEntry_28 : decode cX7_tellEntry 28 = .ok (.invokevirtual 90, 3) := by decide +kernel
theorem dX7_tellEntry_31 : decode cX7_tellEntry 31 = .ok (.iload 4, 2) := by decide +kernel
theorem dX7_tellEntry_33 : decode cX7_tellEntry 33 = .ok (.invokevirtual 75, 3) := by decide +kernel
theorem dX7_tellEntry_36 : decode cX7_tellEntry 36 = .ok (.iconst 2, 1) := by decide +kernel
theorem dX7_tellEntry_37 : decode cX7_tellEntry 37 = .ok (.invokevirtual 53, 3) := by decide +kernel
theorem dX7_tellEntry_40 : decode cX7_tellEntry 40 = .ok (.isub, 1) := by decide +kernel
theorem dX7_tellEntry_41 : decode cX7_tellEntry 41 = .ok (.istore_n 3, 1) := by decide +kernel
theorem dX7_tellEntry_42 : decode cX7_tellEntry 42 = .ok (.iinc 4 1, 3) := by decide +kernel
theorem dX7_tellEntry_45 : decode cX7_tellEntry 45 = .ok (.goto (-40), 3) := by decide +kernel
theorem dX7_tellEntry_48 : decode cX7_tellEntry 48 = .ok (.aload_n 0, 1) := by decide +kernel
theorem dX7_tellEntry_49 : decode cX7_tellEntry 49 = .ok (.aload_n 0, 1) := by decide +kernel
theorem dX7_tellEntry_50 : decode cX7_tellEntry 50 = .ok (.invokevirtual 90, 3) := by decide +kernel
theorem dX7_tellEntry_53 : decode cX7_tellEntry 53 = .ok (.iload 4, 2) := by decide +kernel
theorem dX7_tellEntry_55 : decode cX7_tellEntry 55 = .ok (.invokevirtual 75, 3) := by decide +kernel
theorem dX7_tellEntry_58 : decode cX7_tellEntry 58 = .ok (.istore 5, 2) := by decide +kernel
theorem dX7_tellEntry_60 : decode cX7_tellEntry 60 = .ok (.iload_n 2, 1) := by decide +kernel
theorem dX7_tellEntry_61 : decode cX7_tellEntry 61 = .ok (.ifCond .ne 13, 3) := by decide +kernel
theorem dX7_tellEntry_64 : decode cX7_tellEntry 64 = .ok (.aload_n 0, 1) := by decide +kernel
theorem dX7_tellEntry_65 : decode cX7_tellEntry 65 = .ok (.iload 5, 2) := by decide +kernel
theorem dX7_tellEntry_67 : decode cX7_tellEntry 67 = .ok (.iload_n 3, 1) := by decide +kernel
theorem dX7_tellEntry_68 : decode cX7_tellEntry 68 = .ok (.invokevirtual 78, 3) := by decide +kernel
theorem dX7_tellEntry_71 : decode cX7_tellEntry 71 = .ok (.goto 29, 3) := by decide +kernel
theorem dX7_tellEntry_74 : decode cX7_tellEntry 74 = .ok (.iload_n 2, 1) := by decide +kernel
theorem dX7_tellEntry_75 : decode cX7_tellEntry 75 = .ok (.iconst 1, 1) := by decide +kernel
theorem dX7_tellEntry_76 : decode cX7_tellEntry 76 = .ok (.if_icmp .ne 13, 3) := by decide +kernel
theorem dX7_tellEntry_79 : decode cX7_tellEntry 79 = .ok (.aload_n 0, 1) := by decide +kernel
theorem dX7_tellEntry_80 : decode cX7_tellEntry 80 = .ok (.iload 5, 2) := by decide +kernel
theorem dX7_tellEntry_82 : decode cX7_tellEntry 82 = .ok (.iload_n 3, 1) := by decide +kernel
theorem dX7_tellEntry_83 : decode cX7_tellEntry 83 = .ok (.invokevirtual 87, 3) := by decide +kernel
theorem dX7_tellEntry_86 : decode cX7_tellEntry 86 = .ok (.goto 14, 3) := by decide +kernel
theorem dX7_tellEntry_89 : decode cX7_tellEntry 89 = .ok (.iload_n 2, 1) := by decide +kernel
theorem dX7_tellEntry_90 : decode cX7_tellEntry 90 = .ok (.iconst 2, 1) := by decide +kernel
theorem dX7_tellEntry_91 : decode cX7_tellEntry 91 = .ok (.if_icmp .ne 8, 3) := by decide +kernel
theorem dX7_tellEntry_94 : decode cX7_tellEntry 94 = .ok (.iload 5, 2) := by decide +kernel
theorem dX7_tellEntry_96 : decode cX7_tellEntry 96 = .ok (.goto 4, 3) := by decide +kernel
theorem dX7_tellEntry_99 : decode cX7_tellEntry 99 = .ok (.iload_n 3, 1) := by decide +kernel
theorem dX7_tellEntry_100 : decode cX7_tellEntry 100 = .ok (.ireturn, 1) := by decide +kernel
set_option maxRecDepth 20000 in
theorem ggX7_entry_X7_now : GoodIn wsX7_entry wsX7_now := goodIn_r _ [6, 7, 8, 9, 5, 10, 11, 12, 13, 14, 15, 43, 44, 45, 46, 47, 48, 49, 50, 51, 52, 53, 54, 55] (by decide +kernel) (by decide +kernel)
set_option maxRecDepth 20000 in
theorem gX7_entry_X7_now : GoodIn wsX7_entry (wsV RX7 90 RX7 yX7_now wsX7_now) := goodIn_app (goodIn_of _ (by decide +kernel)) ggX7_entry_X7_now
set_option maxRecDepth 20000 in
theorem ggX7_entry_X7_entriesBy : GoodIn wsX7_entry wsX7_entriesBy := goodIn_r _ [19, 20, 21, 22, 5, 23, 11, 24, 25, 26, 27, 43, 44, 45, 46, 47, 48, 49, 50, 51, 52, 53, 54, 55] (by decide +kernel) (by decide +kernel)
set_option maxRecDepth 20000 in
theorem gX7_entry_X7_entriesBy : GoodIn wsX7_entry (wsV RX7 187 RX7 yX7_entriesBy wsX7_entriesBy) := goodIn_app (goodIn_of _ (by decide +kernel)) ggX7_entry_X7_entriesBy
set_option maxRecDepth 20000 in
theorem ggX7_entry_X7_in : GoodIn wsX7_entry wsX7_in := goodIn_r _ [30] (by decide +kernel) (by decide +kernel)
set_option maxRecDepth 20000 in
theorem gX7_entry_X7_in : GoodIn wsX7_entry (va_wsS RX7 113 yX7_in wsX7_in) := goodIn_app (goodIn_of _ (by decide +kernel)) ggX7_entry_X7_in
set_option maxRecDepth 20000 in
theorem ggX7_entry_X7_tellEntry : GoodIn wsX7_entry wsX7_tellEntry := goodIn_r _ [34, 2, 3, 4, 5, 6, 7, 8, 9, 10, 11, 12, 13, 14, 15, 24, 25, 26, 27, 20, 21, 22, 23, 35, 36, 37, 38, 39, 40, 41, 42, 43, 44, 45, 46, 47, 48, 49, 50, 51, 52, 53, 54, 55] (by decide +kernel) (by decide +kernel)
set_option maxRecDepth 20000 in
theorem gX7_entry_X7_tellEntry : GoodIn wsX7_entry (wsV RX7 190 RX7 yX7_tellEntry wsX7_tellEntry) := goodIn_app (goodIn_of _ (by decide +kernel)) ggX7_entry_X7_tellEntry
theorem dX7_entry_0 : decode cX7_entry 0 = .ok (.aload_n 0, 1) := by decide +kernel
theorem dX7_entry_1 : decode cX7_entry 1 = .ok (.iload_n 1, 1) := by decide +kernel
theorem dX7_entry_2 : decode cX7_entry 2 = .ok (.iconst 0, 1) := by decide +kernel
theorem dX7_entry_3 : decode cX7_entry 3 = .ok (.aload_n 0, 1) := by decide +kernel
theorem dX7_entry_4 : decode cX7_entry 4 = .ok (.aload_n 0, 1) := by decide +kernel
theorem dX7_entry_5 : decode cX7_entry 5 = .ok (.invokevirtual 90, 3) := by decide +kernel
theorem dX7_entry_8 : decode cX7_entry 8 = .ok (.invokevirtual 187, 3) := by decide +kernel
theorem dX7_entry_11 : decode cX7_entry 11 = .ok (.iconst 1, 1) := by decide +kernel
theorem dX7_entry_12 : decode cX7_entry 12 = .ok (.isub, 1) := by decide +kernel
theorem dX7_entry_13 : decode cX7_entry 13 = .ok (.invokestatic 113, 3) := by decide +kernel
theorem dX7_entry_16 : decode cX7_entry 16 = .ok (.ifCond .ne 7, 3) := by decide +kernel
theorem dX7_entry_19 : decode cX7_entry 19 = .ok (.iconst 1, 1) := by decide +kernel
theorem dX7_entry_20 : decode cX7_entry 20 = .ok (.goto 17, 3) := by decide +kernel
theorem dX7_entry_23 : decode cX7_entry 23 = .ok (.iload_n 2, 1) := by decide +kernel
theorem dX7_entry_24 : decode cX7_entry 24 = .ok (.iconst 0, 1) := by decide +kernel
theorem dX7_entry_25 : decode cX7_entry 25 = .ok (.iconst 3, 1) := by decide +kernel
theorem dX7_entry_26 : decode cX7_entry 26 = .ok (.invokestatic 113, 3) := by decide +kernel
theorem dX7_entry_29 : decode cX7_entry 29 = .ok (.ifCond .ne 7, 3) := by decide +kernel
theorem dX7_entry_32 : decode cX7_entry 32 = .ok (.iconst 2, 1) := by decide +kernel
theorem dX7_entry_33 : decode cX7_entry 33 = .ok (.goto 4, 3) := by decide +kernel
theorem dX7_entry_36 : decode cX7_entry 36 = .ok (.iconst 0, 1) := by decide +kernel
theorem dX7_entry_37 : decode cX7_entry 37 = .ok (.putfield 28, 3) := by decide +kernel
theorem dX7_entry_40 : decode cX7_entry 40 = .ok (.aload_n 0, 1) := by decide +kernel
theorem dX7_entry_41 : decode cX7_entry 41 = .ok (.getfield 28, 3) := by decide +kernel
theorem dX7_entry_44 : decode cX7_entry 44 = .ok (.ifCond .ne 12, 3) := by decide +kernel
theorem dX7_entry_47 : decode cX7_entry 47 = .ok (.aload_n 0, 1) := by decide +kernel
theorem dX7_entry_48 : decode cX7_entry 48 = .ok (.iload_n 1, 1) := by decide +kernel
theorem dX7_entry_49 : decode cX7_entry 49 = .ok (.iload_n 2, 1) := by decide +kernel
theorem dX7_entry_50 : decode cX7_entry 50 = .ok (.invokevirtual 190, 3) := by decide +kernel
theorem dX7_entry_53 : decode cX7_entry 53 = .ok (.goto 4, 3) := by decide +kernel
theorem dX7_entry_56 : decode cX7_entry 56 = .ok (.iconst 0, 1) := by decide +kernel
theorem dX7_entry_57 : decode cX7_entry 57 = .ok (.ireturn, 1) := by decide +kernel
set_option maxRecDepth 20000 in
theorem ggX7_tellRoot_X7_current : GoodIn wsX7_tellRoot wsX7_current := goodIn_r _ [5, 6, 11, 12, 13, 14, 15, 16, 17, 18, 19, 20, 21, 22, 23] (by decide +kernel) (by decide +kernel)
set_option maxRecDepth 20000 in
theorem gX7_tellRoot_X7_current : GoodIn wsX7_tellRoot (wsV RX7 42 RX7 yX7_current wsX7_current) := goodIn_app (goodIn_of _ (by decide +kernel)) ggX7_tellRoot_X7_current
set_option maxRecDepth 20000 in
theorem ggX7_tellRoot_X7_ofRoot : GoodIn wsX7_tellRoot wsX7_ofRoot := goodIn_r _ [10, 6, 11, 12, 13, 14, 15, 16, 17, 18, 19, 20, 21, 22, 23] (by decide +kernel) (by decide +kernel)
set_option maxRecDepth 20000 in
theorem gX7_tellRoot_X7_ofRoot : GoodIn wsX7_tellRoot (wsV RX7 46 RX7 yX7_ofRoot wsX7_ofRoot) := goodIn_app (goodIn_of _ (by decide +kernel)) ggX7_tellRoot_X7_ofRoot
theorem dX7_tellRoot_0 : decode cX7_tellRoot 0 = .ok (.iload_n 2, 1) := by decide +kernel
theorem dX7_tellRoot_1 : decode cX7_tellRoot 1 = .ok (.iconst 3, 1) := by decide +kernel
theorem dX7_tellRoot_2 : decode cX7_tellRoot 2 = .ok (.if_icmp .ne 19, 3) := by decide +kernel
theorem dX7_tellRoot_5 : decode cX7_tellRoot 5 = .ok (.aload_n 0, 1) := by decide +kernel
theorem dX7_tellRoot_6 : decode cX7_tellRoot 6 = .ok (.invokevirtual 42, 3) := by decide +kernel
theorem dX7_tellRoot_9 : decode cX7_tellRoot 9 = .ok (.iload_n 1, 1) := by decide +kernel
theorem dX7_tellRoot_10 : decode cX7_tellRoot 10 = .ok (.if_icmp .ne 7, 3) := by decide +kernel
theorem dX7_tellRoot_13 : decode cX7_tellRoot 13 = .ok (.iconst 1, 1) := by decide +kernel
theorem dX7_tellRoot_14 : decode cX7_tellRoot 14 = .ok (.goto 13, 3) := by decide +kernel
theorem dX7_tellRoot_17 : decode cX7_tellRoot 17 = .ok (.iconst 0, 1) := by decide +kernel
theorem dX7_tellRoot_18 : decode cX7_tellRoot 18 = .ok (.goto 9, 3) := by decide +kernel
theorem dX7_tellRoot_21 : decode cX7_tellRoot 21 = .ok (.aload_n 0, 1) := by decide +kernel
theorem dX7_tellRoot_22 : decode cX7_tellRoot 22 = .ok (.iload_n 1, 1) := by decide +kernel
theorem dX7_tellRoot_23 : decode cX7_tellRoot 23 = .ok (.iload_n 2, 1) := by decide +kernel
theorem dX7_tellRoot_24 : decode cX7_tellRoot 24 = .ok (.invokevirtual 46, 3) := by decide +kernel
theorem dX7_tellRoot_27 : decode cX7_tellRoot 27 = .ok (.istore_n 3, 1) := by decide +kernel
theorem dX7_tellRoot_28 : decode cX7_tellRoot 28 = .ok (.iload_n 2, 1) := by decide +kernel
theorem dX7_tellRoot_29 : decode cX7_tellRoot 29 = .ok (.iconst 1, 1) := by decide +kernel
theorem dX7_tellRoot_30 : decode cX7_tellRoot 30 = .ok (.if_icmp .ne 13, 3) := by decide +kernel
theorem dX7_tellRoot_33 : decode cX7_tellRoot 33 = .ok (.iload_n 3, 1) := by decide +kernel
theorem dX7_tellRoot_34 : decode cX7_tellRoot 34 = .ok (.ifCond .ge 9, 3) := by decide +kernel
theorem dX7_tellRoot_37 : decode cX7_tellRoot 37 = .ok (.sipush (-1000), 3) := by decide +kernel
theorem dX7_tellRoot_40 : decode cX7_tellRoot 40 = .ok (.goto 4, 3) := by decide +kernel
theorem dX7_tellRoot_43 : decode cX7_tellRoot 43 = .ok (.iload_n 3, 1) := by decide +kernel
theorem dX7_tellRoot_44 : decode cX7_tellRoot 44 = .ok (.ireturn, 1) := by decide +kernel
set_option maxRecDepth 20000 in
theorem ggX7_root_X7_in : GoodIn wsX7_root wsX7_in := goodIn_r _ [5] (by decide +kernel) (by decide +kernel)
set_option maxRecDepth 20000 in
theorem gX7_root_X7_in : GoodIn wsX7_root (va_wsS RX7 113 yX7_in wsX7_in) := goodIn_app (goodIn_of _ (by decide +kernel)) ggX7_root_X7_in
set_option maxRecDepth 20000 in
theorem ggX7_root_X7_tellRoot : GoodIn wsX7_root wsX7_tellRoot := goodIn_r _ [9, 10, 11, 12, 4, 13, 14, 15, 16, 17, 18, 19, 20, 21, 22, 23, 24, 25, 26, 27, 28, 29, 30, 31] (by decide +kernel) (by decide +kernel)
set_option maxRecDepth 20000 in
theorem gX7_root_X7_tellRoot : GoodIn wsX7_root (wsV RX7 193 RX7 yX7_tellRoot wsX7_tellRoot) := goodIn_app (goodIn_of _ (by decide +kernel)) ggX7_root_X7_tellRoot
theorem dX7_root_0 : decode cX7_root 0 = .ok (.aload_n 0, 1) := by decide +kernel
theorem dX7_root_1 : decode cX7_root 1 = .ok (.iload_n 1, 1) := by decide +kernel
theorem dX7_root_2 : decode cX7_root 2 = .ok (.iconst 0, 1) := by decide +kernel
theorem dX7_root_3 : decode cX7_root 3 = .ok (.iconst 1, 1) := by decide +kernel
theorem dX7_root_4 : decode cX7_root 4 = .ok (.invokestatic 113, 3) := by decide +kernel
theorem dX7_root_7 : decode cX7_root 7 = .ok (.ifCond .ne 7, 3) := by decide +kernel
theorem dX7_root_10 : decode cX7_root 10 = .ok (.iconst 1, 1) := by decide +kernel
theorem dX7_root_11 : decode cX7_root 11 = .ok (.goto 17, 3) := by decide +kernel
theorem dX7_root_14 : decode cX7_root 14 = .ok (.iload_n 2, 1) := by decide +kernel
theorem dX7_root_15 : decode cX7_root 15 = .ok (.iconst 0, 1) := by decide +kernel
theorem dX7_root_16 : decode cX7_root 16 = .ok (.iconst 3, 1) := by decide +kernel
theorem dX7_root_17 : decode cX7_root 17 = .ok (.invokestatic 113, 3) := by decide +kernel
theorem dX7_root_20 : decode cX7_root 20 = .ok (.ifCond .ne 7, 3) := by decide +kernel
theorem dX7_root_23 : decode cX7_root 23 = .ok (.iconst 2, 1) := by decide +kernel
theorem dX7_root_24 : decode cX7_root 24 = .ok (.goto 4, 3) := by decide +kernel
theorem dX7_root_27 : decode cX7_root 27 = .ok (.iconst 0, 1) := by decide +kernel
theorem dX7_root_28 : decode cX7_root 28 = .ok (.putfield 28, 3) := by decide +kernel
theorem dX7_root_31 : decode cX7_root 31 = .ok (.aload_n 0, 1) := by decide +kernel
theorem dX7_root_32 : decode cX7_root 32 = .ok (.getfield 28, 3) := by decide +kernel
theorem dX7_root_35 : decode cX7_root 35 = .ok (.ifCond .ne 12, 3) := by decide +kernel
theorem dX7_root_38 : decode cX7_root 38 = .ok (.aload_n 0, 1) := by decide +kernel
theorem dX7_root_39 : decode cX7_root 39 = .ok (.iload_n 1, 1) := by decide +kernel
theorem dX7_root_40 : decode cX7_root 40 = .ok (.iload_n 2, 1) := by decide +kernel
theorem dX7_root_41 : decode cX7_root 41 = .ok (.invokevirtual 193, 3) := by decide +kernel
theorem dX7_root_44 : decode cX7_root 44 = .ok (.goto 4, 3) := by decide +kernel
theorem dX7_root_47 : decode cX7_root 47 = .ok (.iconst 0, 1) := by decide +kernel
theorem dX7_root_48 : decode cX7_root 48 = .ok (.ireturn, 1) := by decide +kernel
set_option maxRecDepth 20000 in
theorem ggX7_tellReader_X7_ofReader : GoodIn wsX7_tellReader wsX7_ofReader := goodIn_r _ [5, 6, 19, 20, 21, 22, 23, 24, 25, 26, 27, 28, 29, 30, 31] (by decide +kernel) (by decide +kernel)
set_option maxRecDepth 20000 in
theorem gX7_tellReader_X7_ofReader : GoodIn wsX7_tellReader (wsV RX7 50 RX7 yX7_ofReader wsX7_ofReader) := goodIn_app (goodIn_of _ (by decide +kernel)) ggX7_tellReader_X7_ofReader
set_option maxRecDepth 20000 in
theorem ggX7_tellReader_X7_entriesBy : GoodIn wsX7_tellReader wsX7_entriesBy := goodIn_r _ [10, 11, 12, 13, 4, 14, 6, 15, 16, 17, 18, 19, 20, 21, 22, 23, 24, 25, 26, 27, 28, 29, 30, 31] (by decide +kernel) (by decide +kernel)
set_option maxRecDepth 20000 in
theorem gX7_tellReader_X7_entriesBy : GoodIn wsX7_tellReader (wsV RX7 187 RX7 yX7_entriesBy wsX7_entriesBy) := goodIn_app (goodIn_of _ (by decide +kernel)) ggX7_tellReader_X7_entriesBy
theorem dX7_tellReader_0 : decode cX7_tellReader 0 = .ok (.aload_n 0, 1) := by decide +kernel
theorem dX7_tellReader_1 : decode cX7_tellReader 1 = .ok (.iload_n 1, 1) := by decide +kernel
theorem dX7_tellReader_2 : decode cX7_tellReader 2 = .ok (.iconst 0, 1) := by decide +kernel
theorem dX7_tellReader_3 : decode cX7_tellReader 3 = .ok (.invokevirtual 50, 3) := by decide +kernel
theorem dX7_tellReader_6 : decode cX7_tellReader 6 = .ok (.ifCond .ne 7, 3) := by decide +kernel
theorem dX7_tellReader_9 : decode cX7_tellReader 9 = .ok (.sipush (-1000), 3) := by decide +kernel
theorem dX7_tellReader_12 : decode cX7_tellReader 12 = .ok (.ireturn, 1) := by decide +kernel
theorem dX7_tellReader_13 : decode cX7_tellReader 13 = .ok (.iload_n 2, 1) := by decide +kernel
theorem dX7_tellReader_14 : decode cX7_tellReader 14 = .ok (.iconst 2, 1) := by decide +kernel
theorem dX7_tellReader_15 : decode cX7_tellReader 15 = .ok (.if_icmp .ne 16, 3) := by decide +kernel
theorem dX7_tellReader_18 : decode cX7_tellReader 18 = .ok (.aload_n 0, 1) := by decide +kernel
theorem dX7_tellReader_19 : decode cX7_tellReader 19 = .ok (.aload_n 0, 1) := by decide +kernel
theorem dX7_tellReader_20 : decode cX7_tellReader 20 = .ok (.iload_n 1, 1) := by decide +kernel
theorem dX7_tellReader_21 : decode cX7_tellReader 21 = .ok (.iconst 2, 1) := by decide +kernel
theorem dX7_tellReader_22 : decode cX7_tellReader 22 = .ok (.invokevirtual 50, 3) := by decide +kernel
theorem dX7_tellReader_25 : decode cX7_tellReader 25 = .ok (.invokevirtual 187, 3) := by decide +kernel
theorem dX7_tellReader_28 : decode cX7_tellReader 28 = .ok (.goto 11, 3) := by decide +kernel
theorem dX7_tellReader_31 : decode cX7_tellReader 31 = .ok (.aload_n 0, 1) := by decide +kernel
theorem dX7_tellReader_32 : decode cX7_tellReader 32 = .ok (.iload_n 1, 1) := by decide +kernel
theorem dX7_tellReader_33 : decode cX7_tellReader 33 = .ok (.iload_n 2, 1) := by decide +kernel
theorem dX7_tellReader_34 : decode cX7_tellReader 34 = .ok (.iconst 1, 1) := by decide +kernel
theorem dX7_tellReader_35 : decode cX7_tellReader 35 = .ok (.iadd, 1) := by decide +kernel
theorem dX7_tellReader_36 : decode cX7_tellReader 36 = .ok (.invokevirtual 50, 3) := by decide +kernel
theorem dX7_tellReader_39 : decode cX7_tellReader 39 = .ok (.ireturn, 1) := by decide +kernel
set_option maxRecDepth 20000 in
theorem ggX7_reader_X7_isReader : GoodIn wsX7_reader wsX7_isReader := goodIn_r _ [5, 6, 7, 4, 8] (by decide +kernel) (by decide +kernel)
set_option maxRecDepth 20000 in
theorem gX7_reader_X7_isReader : GoodIn wsX7_reader (va_wsS RX7 184 yX7_isReader wsX7_isReader) := goodIn_app (goodIn_of _ (by decide +kernel)) ggX7_reader_X7_isReader
set_option maxRecDepth 20000 in
theorem ggX7_reader_X7_in : GoodIn wsX7_reader wsX7_in := goodIn_r _ [8] (by decide +kernel) (by decide +kernel)
set_option maxRecDepth 20000 in
theorem gX7_reader_X7_in : GoodIn wsX7_reader (va_wsS RX7 113 yX7_in wsX7_in) := goodIn_app (goodIn_of _ (by decide +kernel)) ggX7_reader_X7_in
set_option maxRecDepth 20000 in
theorem ggX7_reader_X7_tellReader : GoodIn wsX7_reader wsX7_tellReader := goodIn_r _ [12, 13, 14, 15, 4, 16, 17, 18, 19, 20, 21, 22, 23, 24, 25, 26, 27, 28, 29, 30, 31, 32, 33, 34, 35, 36, 37, 38, 39, 40, 41, 42] (by decide +kernel) (by decide +kernel)
set_option maxRecDepth 20000 in
theorem gX7_reader_X7_tellReader : GoodIn wsX7_reader (wsV RX7 196 RX7 yX7_tellReader wsX7_tellReader) := goodIn_app (goodIn_of _ (by decide +kernel)) ggX7_reader_X7_tellReader
theorem dX7_reader_0 : decode cX7_reader 0 = .ok (.aload_n 0, 1) := by decide +kernel
theorem dX7_reader_1 : decode cX7_reader 1 = .ok (.iload_n 1, 1) := by decide +kernel
theorem dX7_reader_2 : decode cX7_reader 2 = .ok (.invokestatic 184, 3) := by decide +kernel
theorem dX7_reader_5 : decode cX7_reader 5 = .ok (.ifCond .ne 7, 3) := by decide +kernel
theorem dX7_reader_8 : decode cX7_reader 8 = .ok (.iconst 1, 1) := by decide +kernel
theorem dX7_reader_9 : decode cX7_reader 9 = .ok (.goto 17, 3) := by decide +kernel
theorem dX7_reader_12 : decode cX7_reader 12 = .ok (.iload_n 2, 1) := by decide +kernel
theorem dX7_reader_13 : decode cX7_reader 13 = .ok (.iconst 0, 1) := by decide +kernel
theorem dX7_reader_14 : decode cX7_reader 14 = .ok (.iconst 2, 1) := by decide +kernel
theorem dX7_reader_15 : decode cX7_reader 15 = .ok (.invokestatic 113, 3) := by decide +kernel
theorem dX7_reader_18 : decode cX7_reader 18 = .ok (.ifCond .ne 7, 3) := by decide +kernel
theorem dX7_reader_21 : decode cX7_reader 21 = .ok (.iconst 2, 1) := by decide +kernel
theorem dX7_reader_22 : decode cX7_reader 22 = .ok (.goto 4, 3) := by decide +kernel
theorem dX7_reader_25 : decode cX7_reader 25 = .ok (.iconst 0, 1) := by decide +kernel
theorem dX7_reader_26 : decode cX7_reader 26 = .ok (.putfield 28, 3) := by decide +kernel
theorem dX7_reader_29 : decode cX7_reader 29 = .ok (.aload_n 0, 1) := by decide +kernel
theorem dX7_reader_30 : decode cX7_reader 30 = .ok (.getfield 28, 3) := by decide +kernel
theorem dX7_reader_33 : decode cX7_reader 33 = .ok (.ifCond .ne 12, 3) := by decide +kernel
theorem dX7_reader_36 : decode cX7_reader 36 = .ok (.aload_n 0, 1) := by decide +kernel
theorem dX7_reader_37 : decode cX7_reader 37 = .ok (.iload_n 1, 1) := by decide +kernel
theorem dX7_reader_38 : decode cX7_reader 38 = .ok (.iload_n 2, 1) := by decide +kernel
theorem dX7_reader_39 : decode cX7_reader 39 = .ok (.invokevirtual 196, 3) := by decide +kernel
theorem dX7_reader_42 : decode cX7_reader 42 = .ok (.goto 4, 3) := by decide +kernel
theorem dX7_reader_45 : decode cX7_reader 45 = .ok (.iconst 0, 1) := by decide +kernel
theorem dX7_reader_46 : decode cX7_reader 46 = .ok (.ireturn, 1) := by decide +kernel
set_option maxRecDepth 20000 in
theorem ggX7_tellBed_X7_of : GoodIn wsX7_tellBed wsX7_of := goodIn_r _ [5, 6, 27, 28, 29, 30, 31, 32, 33, 34, 35, 36, 37, 38, 39] (by decide +kernel) (by decide +kernel)
set_option maxRecDepth 20000 in
theorem gX7_tellBed_X7_of : GoodIn wsX7_tellBed (wsV RX7 53 RX7 yX7_of wsX7_of) := goodIn_app (goodIn_of _ (by decide +kernel)) ggX7_tellBed_X7_of
set_option maxRecDepth 20000 in
theorem ggX7_tellBed_X7_canBeDug : GoodIn wsX7_tellBed wsX7_canBeDug := goodIn_r _ [10, 1, 2, 3, 4, 5, 6, 11, 12, 13, 14, 15, 16, 17, 18, 19, 20, 21, 22, 23, 24, 25, 26, 27, 28, 29, 30, 31, 32, 33, 34, 35, 36, 37, 38, 39] (by decide +kernel) (by decide +kernel)
set_option maxRecDepth 20000 in
theorem gX7_tellBed_X7_canBeDug : GoodIn wsX7_tellBed (wsV RX7 60 RX7 yX7_canBeDug wsX7_canBeDug) := goodIn_app (goodIn_of _ (by decide +kernel)) ggX7_tellBed_X7_canBeDug
theorem dX7_tellBed_0 : decode cX7_tellBed 0 = .ok (.aload_n 0, 1) := by decide +kernel
theorem dX7_tellBed_1 : decode cX7_tellBed 1 = .ok (.iload_n 1, 1) := by decide +kernel
theorem dX7_tellBed_2 : decode cX7_tellBed 2 = .ok (.iconst 0, 1) := by decide +kernel
theorem dX7_tellBed_3 : decode cX7_tellBed 3 = .ok (.invokevirtual 53, 3) := by decide +kernel
theorem dX7_tellBed_6 : decode cX7_tellBed 6 = .ok (.ifCond .ne 7, 3) := by decide +kernel
theorem dX7_tellBed_9 : decode cX7_tellBed 9 = .ok (.iconst 1, 1) := by decide +kernel
theorem dX7_tellBed_10 : decode cX7_tellBed 10 = .ok (.goto 4, 3) := by decide +kernel
theorem dX7_tellBed_13 : decode cX7_tellBed 13 = .ok (.iconst 0, 1) := by decide +kernel
theorem dX7_tellBed_14 : decode cX7_tellBed 14 = .ok (.istore_n 3, 1) := by decide +kernel
theorem dX7_tellBed_15 : decode cX7_tellBed 15 = .ok (.iload_n 2, 1) := by decide +kernel
theorem dX7_tellBed_16 : decode cX7_tellBed 16 = .ok (.tableswitch 114 0 4 #[36, 43, 60, 77, 100], 36) := by decide +kernel
theorem dX7_tellBed_52 : decode cX7_tellBed 52 = .ok (.aload_n 0, 1) := by decide +kernel
theorem dX7_tellBed_53 : decode cX7_tellBed 53 = .ok (.iload_n 1, 1) := by decide +kernel
theorem dX7_tellBed_54 : decode cX7_tellBed 54 = .ok (.iconst 0, 1) := by decide +kernel
theorem dX7_tellBed_55 : decode cX7_tellBed 55 = .ok (.invokevirtual 53, 3) := by decide +kernel
theorem dX7_tellBed_58 : decode cX7_tellBed 58 = .ok (.ireturn, 1) := by decide +kernel
theorem dX7_tellBed_59 : decode cX7_tellBed 59 = .ok (.iload_n 3, 1) := by decide +kernel
theorem dX7_tellBed_60 : decode cX7_tellBed 60 = .ok (.ifCond .eq 9, 3) := by decide +kernel
theorem dX7_tellBed_63 : decode cX7_tellBed 63 = .ok (.sipush (-1000), 3) := by decide +kernel
theorem dX7_tellBed_66 : decode cX7_tellBed 66 = .ok (.goto 9, 3) := by decide +kernel
theorem dX7_tellBed_69 : decode cX7_tellBed 69 = .ok (.aload_n 0, 1) := by decide +kernel
theorem dX7_tellBed_70 : decode cX7_tellBed 70 = .ok (.iload_n 1, 1) := by decide +kernel
theorem dX7_tellBed_71 : decode cX7_tellBed 71 = .ok (.iconst 1, 1) := by decide +kernel
theorem dX7_tellBed_72 : decode cX7_tellBed 72 = .ok (.invokevirtual 53, 3) := by decide +kernel
theorem dX7_tellBed_75 : decode cX7_tellBed 75 = .ok (.ireturn, 1) := by decide +kernel
theorem dX7_tellBed_76 : decode cX7_tellBed 76 = .ok (.iload_n 3, 1) := by decide +kernel
theorem dX7_tellBed_77 : decode cX7_tellBed 77 = .ok (.ifCond .eq 9, 3) := by decide +kernel
theorem dX7_tellBed_80 : decode cX7_tellBed 80 = .ok (.sipush (-1000), 3) := by decide +kernel
theorem dX7_tellBed_83 : decode cX7_tellBed 83 = .ok (.goto 9, 3) := by decide +kernel
theorem dX7_tellBed_86 : decode cX7_tellBed 86 = .ok (.aload_n 0, 1) := by decide +kernel
theorem dX7_tellBed_87 : decode cX7_tellBed 87 = .ok (.iload_n 1, 1) := by decide +kernel
theorem dX7_tellBed_88 : decode cX7_tellBed 88 = .ok (.iconst 2, 1) := by decide +kernel
theorem dX7_tellBed_89 : decode cX7_tellBed 89 = .ok (.invokevirtual 53, 3) := by decide +kernel
theorem dX7_tellBed_92 : decode cX7_tellBed 92 = .ok (.ireturn, 1) := by decide +kernel
theorem dX7_tellBed_93 : decode cX7_tellBed 93 = .ok (.aload_n 0, 1) := by decide +kernel
theorem dX7_tellBed_94 : decode cX7_tellBed 94 = .ok (.iload_n 1, 1) := by decide +kernel
theorem dX7_tellBed_95 : decode cX7_tellBed 95 = .ok (.iconst 0, 1) := by decide +kernel
theorem dX7_tellBed_96 : decode cX7_tellBed 96 = .ok (.invokevirtual 53, 3) := by decide +kernel
theorem dX7_tellBed_99 : decode cX7_tellBed 99 = .ok (.iconst 2, 1) := by decide +kernel
theorem dX7_tellBed_100 : decode cX7_tellBed 100 = .ok (.if_icmp .ne 12, 3) := by decide +kernel
theorem dX7_tellBed_103 : decode cX7_tellBed 103 = .ok (.aload_n 0, 1) := by decide +kernel
theorem dX7_tellBed_104 : decode cX7_tellBed 104 = .ok (.iload_n 1, 1) := by decide +kernel
theorem dX7_tellBed_105 : decode cX7_tellBed 105 = .ok (.iconst 3, 1) := by decide +kernel
theorem dX7_tellBed_106 : decode cX7_tellBed 106 = .ok (.invokevirtual 53, 3) := by decide +kernel
theorem dX7_tellBed_109 : decode cX7_tellBed 109 = .ok (.goto 6, 3) := by decide +kernel
theorem dX7_tellBed_112 : decode cX7_tellBed 112 = .ok (.sipush (-1000), 3) := by decide +kernel
theorem dX7_tellBed_115 : decode cX7_tellBed 115 = .ok (.ireturn, 1) := by decide +kernel
theorem dX7_tellBed_116 : decode cX7_tellBed 116 = .ok (.aload_n 0, 1) := by decide +kernel
theorem dX7_tellBed_117 : decode cX7_tellBed 117 = .ok (.iload_n 1, 1) := by decide +kernel
theorem dX7_tellBed_118 : decode cX7_tellBed 118 = .ok (.invokevirtual 60, 3) := by decide +kernel
theorem dX7_tellBed_121 : decode cX7_tellBed 121 = .ok (.ifCond .eq 7, 3) := by decide +kernel
theorem dX7_tellBed_124 : decode cX7_tellBed 124 = .ok (.iconst 1, 1) := by decide +kernel
theorem dX7_tellBed_125 : decode cX7_tellBed 125 = .ok (.goto 4, 3) := by decide +kernel
theorem dX7_tellBed_128 : decode cX7_tellBed 128 = .ok (.iconst 0, 1) := by decide +kernel
theorem dX7_tellBed_129 : decode cX7_tellBed 129 = .ok (.ireturn, 1) := by decide +kernel
theorem dX7_tellBed_130 : decode cX7_tellBed 130 = .ok (.aload_n 0, 1) := by decide +kernel
theorem dX7_tellBed_131 : decode cX7_tellBed 131 = .ok (.iload_n 1, 1) := by decide +kernel
theorem dX7_tellBed_132 : decode cX7_tellBed 132 = .ok (.iconst 4, 1) := by decide +kernel
theorem dX7_tellBed_133 : decode cX7_tellBed 133 = .ok (.invokevirtual 53, 3) := by decide +kernel
theorem dX7_tellBed_136 : decode cX7_tellBed 136 = .ok (.ireturn, 1) := by decide +kernel
set_option maxRecDepth 20000 in
theorem ggX7_bed_X7_in : GoodIn wsX7_bed wsX7_in := goodIn_r _ [5] (by decide +kernel) (by decide +kernel)
set_option maxRecDepth 20000 in
theorem gX7_bed_X7_in : GoodIn wsX7_bed (va_wsS RX7 113 yX7_in wsX7_in) := goodIn_app (goodIn_of _ (by decide +kernel)) ggX7_bed_X7_in
set_option maxRecDepth 20000 in
theorem ggX7_bed_X7_tellBed : GoodIn wsX7_bed wsX7_tellBed := goodIn_r _ [9, 10, 11, 12, 4, 13, 14, 15, 16, 17, 18, 19, 20, 21, 22, 23, 24, 25, 26, 27, 28, 29, 30, 31, 32, 33, 34, 35, 36, 37, 38, 39, 40, 41, 42, 43, 44, 45, 46, 47] (by decide +kernel) (by decide +kernel)
set_option maxRecDepth 20000 in
theorem gX7_bed_X7_tellBed : GoodIn wsX7_bed (wsV RX7 199 RX7 yX7_tellBed wsX7_tellBed) := goodIn_app (goodIn_of _ (by decide +kernel)) ggX7_bed_X7_tellBed
theorem dX7_bed_0 : decode cX7_bed 0 = .ok (.aload_n 0, 1) := by decide +kernel
theorem dX7_bed_1 : decode cX7_bed 1 = .ok (.iload_n 1, 1) := by decide +kernel
theorem dX7_bed_2 : decode cX7_bed 2 = .ok (.iconst 0, 1) := by decide +kernel
theorem dX7_bed_3 : decode cX7_bed 3 = .ok (.bipush 31, 2) := by decide +kernel
theorem dX7_bed_5 : decode cX7_bed 5 = .ok (.invokestatic 113, 3) := by decide +kernel
theorem dX7_bed_8 : decode cX7_bed 8 = .ok (.ifCond .ne 7, 3) := by decide +kernel
theorem dX7_bed_11 : decode cX7_bed 11 = .ok (.iconst 1, 1) := by decide +kernel
theorem dX7_bed_12 : decode cX7_bed 12 = .ok (.goto 17, 3) := by decide +kernel
theorem dX7_bed_15 : decode cX7_bed 15 = .ok (.iload_n 2, 1) := by decide +kernel
theorem dX7_bed_16 : decode cX7_bed 16 = .ok (.iconst 0, 1) := by decide +kernel
theorem dX7_bed_17 : decode cX7_bed 17 = .ok (.iconst 5, 1) := by decide +kernel
theorem dX7_bed_18 : decode cX7_bed 18 = .ok (.invokestatic 113, 3) := by decide +kernel
theorem dX7_bed_21 : decode cX7_bed 21 = .ok (.ifCond .ne 7, 3) := by decide +kernel
theorem dX7_bed_24 : decode cX7_bed 24 = .ok (.iconst 2, 1) := by decide +kernel
theorem dX7_bed_25 : decode cX7_bed 25 = .ok (.goto 4, 3) := by decide +kernel
theorem dX7_bed_28 : decode cX7_bed 28 = .ok (.iconst 0, 1) := by decide +kernel
theorem dX7_bed_29 : decode cX7_bed 29 = .ok (.putfield 28, 3) := by decide +kernel
theorem dX7_bed_32 : decode cX7_bed 32 = .ok (.aload_n 0, 1) := by decide +kernel
theorem dX7_bed_33 : decode cX7_bed 33 = .ok (.getfield 28, 3) := by decide +kernel
theorem dX7_bed_36 : decode cX7_bed 36 = .ok (.ifCond .ne 12, 3) := by decide +kernel
theorem dX7_bed_39 : decode cX7_bed 39 = .ok (.aload_n 0, 1) := by decide +kernel
theorem dX7_bed_40 : decode cX7_bed 40 = .ok (.iload_n 1, 1) := by decide +kernel
theorem dX7_bed_41 : decode cX7_bed 41 = .ok (.iload_n 2, 1) := by decide +kernel
theorem dX7_bed_42 : decode cX7_bed 42 = .ok (.invokevirtual 199, 3) := by decide +kernel
theorem dX7_bed_45 : decode cX7_bed 45 = .ok (.goto 4, 3) := by decide +kernel
theorem dX7_bed_48 : decode cX7_bed 48 = .ok (.iconst 0, 1) := by decide +kernel
theorem dX7_bed_49 : decode cX7_bed 49 = .ok (.ireturn, 1) := by decide +kernel
set_option maxRecDepth 20000 in
theorem ggX7_bedsWith_X7_of : GoodIn wsX7_bedsWith wsX7_of := goodIn_r _ [5, 6, 7, 8, 9, 10, 11, 12, 13, 14, 15, 16, 17, 18, 19] (by decide +kernel) (by decide +kernel)
set_option maxRecDepth 20000 in
theorem gX7_bedsWith_X7_of : GoodIn wsX7_bedsWith (wsV RX7 53 RX7 yX7_of wsX7_of) := goodIn_app (goodIn_of _ (by decide +kernel)) ggX7_bedsWith_X7_of
theorem dX7_bedsWith_0 : decode cX7_bedsWith 0 = .ok (.iconst 0, 1) := by decide +kernel
theorem dX7_bedsWith_1 : decode cX7_bedsWith 1 = .ok (.istore_n 3, 1) := by decide +kernel
theorem dX7_bedsWith_2 : decode cX7_bedsWith 2 = .ok (.iconst 0, 1) := by decide +kernel
theorem dX7_bedsWith_3 : decode cX7_bedsWith 3 = .ok (.istore 4, 2) := by decide +kernel
theorem dX7_bedsWith_5 : decode cX7_bedsWith 5 = .ok (.iload 4, 2) := by decide +kernel
theorem dX7_bedsWith_7 : decode cX7_bedsWith 7 = .ok (.bipush 32, 2) := by decide +kernel
theorem dX7_bedsWith_9 : decode cX7_bedsWith 9 = .ok (.if_icmp .ge 28, 3) := by decide +kernel
theorem dX7_bedsWith_12 : decode cX7_bedsWith 12 = .ok (.iload_n 3, 1) := by decide +kernel
theorem dX7_bedsWith_13 : decode cX7_bedsWith 13 = .ok (.aload_n 0, 1) := by decide +kernel
theorem dX7_bedsWith_14 : decode cX7_bedsWith 14 = .ok (.iload 4, 2) := by decide +kernel
theorem dX7_bedsWith_16 : decode cX7_bedsWith 16 = .ok (.iload_n 1, 1) := by decide +kernel
theorem dX7_bedsWith_17 : decode cX7_bedsWith 17 = .ok (.invokevirtual 53, 3) := by decide +kernel
theorem dX7_bedsWith_20 : decode cX7_bedsWith 20 = .ok (.iload_n 2, 1) := by decide +kernel
theorem dX7_bedsWith_21 : decode cX7_bedsWith 21 = .ok (.if_icmp .ne 7, 3) := by decide +kernel
theorem dX7_bedsWith_24 : decode cX7_bedsWith 24 = .ok (.iconst 1, 1) := by decide +kernel
theorem dX7_bedsWith_25 : decode cX7_bedsWith 25 = .ok (.goto 4, 3) := by decide +kernel
theorem dX7_bedsWith_28 : decode cX7_bedsWith 28 = .ok (.iconst 0, 1) := by decide +kernel
theorem dX7_bedsWith_29 : decode cX7_bedsWith 29 = .ok (.iadd, 1) := by decide +kernel
theorem dX7_bedsWith_30 : decode cX7_bedsWith 30 = .ok (.istore_n 3, 1) := by decide +kernel
theorem dX7_bedsWith_31 : decode cX7_bedsWith 31 = .ok (.iinc 4 1, 3) := by decide +kernel
theorem dX7_bedsWith_34 : decode cX7_bedsWith 34 = .ok (.goto (-29), 3) := by decide +kernel
theorem dX7_bedsWith_37 : decode cX7_bedsWith 37 = .ok (.iload_n 3, 1) := by decide +kernel
theorem dX7_bedsWith_38 : decode cX7_bedsWith 38 = .ok (.ireturn, 1) := by decide +kernel
set_option maxRecDepth 20000 in
theorem ggX7_openReaders_X7_ofReader : GoodIn wsX7_openReaders wsX7_ofReader := goodIn_r _ [5, 6, 7, 8, 9, 10, 11, 12, 13, 14, 15, 16, 17, 18, 19] (by decide +kernel) (by decide +kernel)
set_option maxRecDepth 20000 in
theorem gX7_openReaders_X7_ofReader : GoodIn wsX7_openReaders (wsV RX7 50 RX7 yX7_ofReader wsX7_ofReader) := goodIn_app (goodIn_of _ (by decide +kernel)) ggX7_openReaders_X7_ofReader
theorem dX7_openReaders_0 : decode cX7_openReaders 0 = .ok (.iconst 0, 1) := by decide +kernel
theorem dX7_openReaders_1 : decode cX7_openReaders 1 = .ok (.istore_n 1, 1) := by decide +kernel
theorem dX7_openReaders_2 : decode cX7_openReaders 2 = .ok (.iconst 0, 1) := by decide +kernel
theorem dX7_openReaders_3 : decode cX7_openReaders 3 = .ok (.istore_n 2, 1) := by decide +kernel
theorem dX7_openReaders_4 : decode cX7_openReaders 4 = .ok (.iload_n 2, 1) := by decide +kernel
theorem dX7_openReaders_5 : decode cX7_openReaders 5 = .ok (.iconst 4, 1) := by decide +kernel
theorem dX7_openReaders_6 : decode cX7_openReaders 6 = .ok (.if_icmp .ge 18, 3) := by decide +kernel
theorem dX7_openReaders_9 : decode cX7_openReaders 9 = .ok (.iload_n 1, 1) := by decide +kernel
theorem dX7_openReaders_10 : decode cX7_openReaders 10 = .ok (.aload_n 0, 1) := by decide +kernel
theorem dX7_openReaders_11 : decode cX7_openReaders 11 = .ok (.iload_n 2, 1) := by decide +kernel
theorem dX7_openReaders_12 : decode cX7_openReaders 12 = .ok (.iconst 0, 1) := by decide +kernel
theorem dX7_openReaders_13 : decode cX7_openReaders 13 = .ok (.invokevirtual 50, 3) := by decide +kernel
theorem dX7_openReaders_16 : decode cX7_openReaders 16 = .ok (.iadd, 1) := by decide +kernel
theorem dX7_openReaders_17 : decode cX7_openReaders 17 = .ok (.istore_n 1, 1) := by decide +kernel
theorem dX7_openReaders_18 : decode cX7_openReaders 18 = .ok (.iinc 2 1, 3) := by decide +kernel
theorem dX7_openReaders_21 : decode cX7_openReaders 21 = .ok (.goto (-17), 3) := by decide +kernel
theorem dX7_openReaders_24 : decode cX7_openReaders 24 = .ok (.iload_n 1, 1) := by decide +kernel
theorem dX7_openReaders_25 : decode cX7_openReaders 25 = .ok (.ireturn, 1) := by decide +kernel
set_option maxRecDepth 20000 in
theorem ggX7_sumOfValues_X7_now : GoodIn wsX7_sumOfValues wsX7_now := goodIn_r _ [5, 6, 7, 8, 4, 9, 10, 11, 12, 13, 14, 39, 40, 41, 42, 43, 44, 45, 46, 47, 48, 49, 50, 51] (by decide +kernel) (by decide +kernel)
set_option maxRecDepth 20000 in
theorem gX7_sumOfValues_X7_now : GoodIn wsX7_sumOfValues (wsV RX7 90 RX7 yX7_now wsX7_now) := goodIn_app (goodIn_of _ (by decide +kernel)) ggX7_sumOfValues_X7_now
set_option maxRecDepth 20000 in
theorem ggX7_sumOfValues_X7_entriesBy : GoodIn wsX7_sumOfValues wsX7_entriesBy := goodIn_r _ [18, 19, 20, 21, 4, 22, 10, 23, 24, 25, 26, 39, 40, 41, 42, 43, 44, 45, 46, 47, 48, 49, 50, 51] (by decide +kernel) (by decide +kernel)
set_option maxRecDepth 20000 in
theorem gX7_sumOfValues_X7_entriesBy : GoodIn wsX7_sumOfValues (wsV RX7 187 RX7 yX7_entriesBy wsX7_entriesBy) := goodIn_app (goodIn_of _ (by decide +kernel)) ggX7_sumOfValues_X7_entriesBy
set_option maxRecDepth 20000 in
theorem ggX7_sumOfValues_X7_tellEntry : GoodIn wsX7_sumOfValues wsX7_tellEntry := goodIn_r _ [30, 1, 2, 3, 4, 5, 6, 7, 8, 9, 10, 11, 12, 13, 14, 23, 24, 25, 26, 19, 20, 21, 22, 31, 32, 33, 34, 35, 36, 37, 38, 39, 40, 41, 42, 43, 44, 45, 46, 47, 48, 49, 50, 51] (by decide +kernel) (by decide +kernel)
set_option maxRecDepth 20000 in
theorem gX7_sumOfValues_X7_tellEntry : GoodIn wsX7_sumOfValues (wsV RX7 190 RX7 yX7_tellEntry wsX7_tellEntry) := goodIn_app (goodIn_of _ (by decide +kernel)) ggX7_sumOfValues_X7_tellEntry
theorem dX7_sumOfValues_0 : decode cX7_sumOfValues 0 = .ok (.iconst 0, 1) := by decide +kernel
theorem dX7_sumOfValues_1 : decode cX7_sumOfValues 1 = .ok (.istore_n 1, 1) := by decide +kernel
theorem dX7_sumOfValues_2 : decode cX7_sumOfValues 2 = .ok (.iconst 0, 1) := by decide +kernel
theorem dX7_sumOfValues_3 : decode cX7_sumOfValues 3 = .ok (.istore_n 2, 1) := by decide +kernel
theorem dX7_sumOfValues_4 : decode cX7_sumOfValues 4 = .ok (.iload_n 2, 1) := by decide +kernel
theorem dX7_sumOfValues_5 : decode cX7_sumOfValues 5 = .ok (.aload_n 0, 1) := by decide +kernel
theorem dX7_sumOfValues_6 : decode cX7_sumOfValues 6 = .ok (.aload_n 0, 1) := by decide +kernel
theorem dX7_sumOfValues_7 : decode cX7_sumOfValues 7 = .ok (.invokevirtual 90, 3) := by decide +kernel
theorem dX7_sumOfValues_10 : decode cX7_sumOfValues 10 = .ok (.invokevirtual 187, 3) := by decide +kernel
theorem dX7_sumOfValues_13 : decode cX7_sumOfValues 13 = .ok (.if_icmp .ge 18, 3) := by decide +kernel
theorem dX7_sumOfValues_16 : decode cX7_sumOfValues 16 = .ok (.iload_n 1, 1) := by decide +kernel
theorem dX7_sumOfValues_17 : decode cX7_sumOfValues 17 = .ok (.aload_n 0, 1) := by decide +kernel
theorem dX7_sumOfValues_18 : decode cX7_sumOfValues 18 = .ok (.iload_n 2, 1) := by decide +kernel
theorem dX7_sumOfValues_19 : decode cX7_sumOfValues 19 = .ok (.iconst 1, 1) := by decide +kernel
theorem dX7_sumOfValues_20 : decode cX7_sumOfValues 20 = .ok (.invokevirtual 190, 3) := by decide +kernel
theorem dX7_sumOfValues_23 : decode cX7_sumOfValues 23 = .ok (.iadd, 1) := by decide +kernel
theorem dX7_sumOfValues_24 : decode cX7_sumOfValues 24 = .ok (.istore_n 1, 1) := by decide +kernel
theorem dX7_sumOfValues_25 : decode cX7_sumOfValues 25 = .ok (.iinc 2 1, 3) := by decide +kernel
theorem dX7_sumOfValues_28 : decode cX7_sumOfValues 28 = .ok (.goto (-24), 3) := by decide +kernel
theorem dX7_sumOfValues_31 : decode cX7_sumOfValues 31 = .ok (.iload_n 1, 1) := by decide +kernel
theorem dX7_sumOfValues_32 : decode cX7_sumOfValues 32 = .ok (.ireturn, 1) := by decide +kernel
set_option maxRecDepth 20000 in
theorem ggX7_tell_X7_bedsWith : GoodIn wsX7_tell wsX7_bedsWith := goodIn_r _ [7, 8, 9, 10, 6, 11, 1, 68, 69, 70, 71, 72, 73, 74, 75, 76, 77, 78, 79, 80] (by decide +kernel) (by decide +kernel)
set_option maxRecDepth 20000 in
theorem gX7_tell_X7_bedsWith : GoodIn wsX7_tell (wsV RX7 202 RX7 yX7_bedsWith wsX7_bedsWith) := goodIn_app (goodIn_of _ (by decide +kernel)) ggX7_tell_X7_bedsWith
set_option maxRecDepth 20000 in
theorem ggX7_tell_X7_freedToDig : GoodIn wsX7_tell wsX7_freedToDig := goodIn_r _ [15, 16, 17, 18, 6, 19, 8, 9, 10, 11, 1, 20, 21, 22, 23, 24, 25, 26, 27, 28, 29, 30, 31, 32, 33, 34, 35, 68, 69, 70, 71, 72, 73, 74, 75, 76, 77, 78, 79, 80] (by decide +kernel) (by decide +kernel)
set_option maxRecDepth 20000 in
theorem gX7_tell_X7_freedToDig : GoodIn wsX7_tell (wsV RX7 172 RX7 yX7_freedToDig wsX7_freedToDig) := goodIn_app (goodIn_of _ (by decide +kernel)) ggX7_tell_X7_freedToDig
set_option maxRecDepth 20000 in
theorem ggX7_tell_X7_needed : GoodIn wsX7_tell wsX7_needed := goodIn_r _ [23, 24, 25, 26, 6, 27, 1, 28, 29, 30, 31, 32, 33, 34, 35, 68, 69, 70, 71, 72, 73, 74, 75, 76, 77, 78, 79, 80] (by decide +kernel) (by decide +kernel)
set_option maxRecDepth 20000 in
theorem gX7_tell_X7_needed : GoodIn wsX7_tell (wsV RX7 56 RX7 yX7_needed wsX7_needed) := goodIn_app (goodIn_of _ (by decide +kernel)) ggX7_tell_X7_needed
set_option maxRecDepth 20000 in
theorem ggX7_tell_X7_now : GoodIn wsX7_tell wsX7_now := goodIn_r _ [39, 24, 25, 26, 6, 27, 1, 28, 29, 30, 31, 68, 69, 70, 71, 72, 73, 74, 75, 76, 77, 78, 79, 80] (by decide +kernel) (by decide +kernel)
set_option maxRecDepth 20000 in
theorem gX7_tell_X7_now : GoodIn wsX7_tell (wsV RX7 90 RX7 yX7_now wsX7_now) := goodIn_app (goodIn_of _ (by decide +kernel)) ggX7_tell_X7_now
set_option maxRecDepth 20000 in
theorem ggX7_tell_X7_entriesBy : GoodIn wsX7_tell wsX7_entriesBy := goodIn_r _ [43, 8, 9, 10, 6, 11, 1, 44, 45, 46, 47, 68, 69, 70, 71, 72, 73, 74, 75, 76, 77, 78, 79, 80] (by decide +kernel) (by decide +kernel)
set_option maxRecDepth 20000 in
theorem gX7_tell_X7_entriesBy : GoodIn wsX7_tell (wsV RX7 187 RX7 yX7_entriesBy wsX7_entriesBy) := goodIn_app (goodIn_of _ (by decide +kernel)) ggX7_tell_X7_entriesBy
set_option maxRecDepth 20000 in
theorem ggX7_tell_X7_of : GoodIn wsX7_tell wsX7_of := goodIn_r _ [11, 1, 68, 69, 70, 71, 72, 73, 74, 75, 76, 77, 78, 79, 80] (by decide +kernel) (by decide +kernel)
set_option maxRecDepth 20000 in
theorem gX7_tell_X7_of : GoodIn wsX7_tell (wsV RX7 53 RX7 yX7_of wsX7_of) := goodIn_app (goodIn_of _ (by decide +kernel)) ggX7_tell_X7_of
set_option maxRecDepth 20000 in
theorem ggX7_tell_X7_openReaders : GoodIn wsX7_tell wsX7_openReaders := goodIn_r _ [51, 32, 33, 34, 6, 35, 1, 68, 69, 70, 71, 72, 73, 74, 75, 76, 77, 78, 79, 80] (by decide +kernel) (by decide +kernel)
set_option maxRecDepth 20000 in
theorem gX7_tell_X7_openReaders : GoodIn wsX7_tell (wsV RX7 205 RX7 yX7_openReaders wsX7_openReaders) := goodIn_app (goodIn_of _ (by decide +kernel)) ggX7_tell_X7_openReaders
set_option maxRecDepth 20000 in
theorem ggX7_tell_X7_sumOfValues : GoodIn wsX7_tell wsX7_sumOfValues := goodIn_r _ [55, 36, 37, 38, 6, 39, 24, 25, 26, 27, 1, 28, 29, 30, 31, 40, 41, 42, 43, 8, 9, 10, 11, 44, 45, 46, 47, 56, 57, 58, 59, 60, 61, 62, 63, 64, 65, 66, 67, 68, 69, 70, 71, 72, 73, 74, 75, 76, 77, 78, 79, 80] (by decide +kernel) (by decide +kernel)
set_option maxRecDepth 20000 in
theorem gX7_tell_X7_sumOfValues : GoodIn wsX7_tell (wsV RX7 208 RX7 yX7_sumOfValues wsX7_sumOfValues) := goodIn_app (goodIn_of _ (by decide +kernel)) ggX7_tell_X7_sumOfValues
theorem dX7_tell_0 : decode cX7_tell 0 = .ok (.iload_n 1, 1) := by decide +kernel
theorem dX7_tell_1 : decode cX7_tell 1 = .ok (.tableswitch 159 0 13 #[71, 71, 71, 78, 83, 89, 98, 108, 113, 122, 129, 136, 145, 154], 71) := by decide +kernel
theorem dX7_tell_72 : decode cX7_tell 72 = .ok (.aload_n 0, 1) := by decide +kernel
theorem dX7_tell_73 : decode cX7_tell 73 = .ok (.iconst 0, 1) := by decide +kernel
theorem dX7_tell_74 : decode cX7_tell 74 = .ok (.iload_n 1, 1) := by decide +kernel
theorem dX7_tell_75 : decode cX7_tell 75 = .ok (.invokevirtual 202, 3) := by decide +kernel
theorem dX7_tell_78 : decode cX7_tell 78 = .ok (.ireturn, 1) := by decide +kernel
theorem dX7_tell_79 : decode cX7_tell 79 = .ok (.aload_n 0, 1) := by decide +kernel
theorem dX7_tell_80 : decode cX7_tell 80 = .ok (.invokevirtual 172, 3) := by decide +kernel
theorem dX7_tell_83 : decode cX7_tell 83 = .ok (.ireturn, 1) := by decide +kernel
theorem dX7_tell_84 : decode cX7_tell 84 = .ok (.aload_n 0, 1) := by decide +kernel
theorem dX7_tell_85 : decode cX7_tell 85 = .ok (.iconst (-1), 1) := by decide +kernel
theorem dX7_tell_86 : decode cX7_tell 86 = .ok (.invokevirtual 56, 3) := by decide +kernel
theorem dX7_tell_89 : decode cX7_tell 89 = .ok (.ireturn, 1) := by decide +kernel
theorem dX7_tell_90 : decode cX7_tell 90 = .ok (.aload_n 0, 1) := by decide +kernel
theorem dX7_tell_91 : decode cX7_tell 91 = .ok (.aload_n 0, 1) := by decide +kernel
theorem dX7_tell_92 : decode cX7_tell 92 = .ok (.invokevirtual 90, 3) := by decide +kernel
theorem dX7_tell_95 : decode cX7_tell 95 = .ok (.invokevirtual 187, 3) := by decide +kernel
theorem dX7_tell_98 : decode cX7_tell 98 = .ok (.ireturn, 1) := by decide +kernel
theorem dX7_tell_99 : decode cX7_tell 99 = .ok (.aload_n 0, 1) := by decide +kernel
theorem dX7_tell_100 : decode cX7_tell 100 = .ok (.aload_n 0, 1) := by decide +kernel
theorem dX7_tell_101 : decode cX7_tell 101 = .ok (.invokevirtual 90, 3) := by decide +kernel
theorem dX7_tell_104 : decode cX7_tell 104 = .ok (.iconst 2, 1) := by decide +kernel
theorem dX7_tell_105 : decode cX7_tell 105 = .ok (.invokevirtual 53, 3) := by decide +kernel
theorem dX7_tell_108 : decode cX7_tell 108 = .ok (.ireturn, 1) := by decide +kernel
theorem dX7_tell_109 : decode cX7_tell 109 = .ok (.aload_n 0, 1) := by decide +kernel
theorem dX7_tell_110 : decode cX7_tell 110 = .ok (.invokevirtual 205, 3) := by decide +kernel
theorem dX7_tell_113 : decode cX7_tell 113 = .ok (.ireturn, 1) := by decide +kernel
theorem dX7_tell_114 : decode cX7_tell 114 = .ok (.aload_n 0, 1) := by decide +kernel
theorem dX7_tell_115 : decode cX7_tell 115 = .ok (.getfield 7, 3) := by decide +kernel
theorem dX7_tell_118 : decode cX7_tell 118 = .ok (.sipush 466, 3) := by decide +kernel
theorem dX7_tell_121 : decode cX7_tell 121 = .ok (.iaload, 1) := by decide +kernel
theorem dX7_tell_122 : decode cX7_tell 122 = .ok (.ireturn, 1) := by decide +kernel
theorem dX7_tell_123 : decode cX7_tell 123 = .ok (.aload_n 0, 1) := by decide +kernel
theorem dX7_tell_124 : decode cX7_tell 124 = .ok (.iconst 4, 1) := by decide +kernel
theorem dX7_tell_125 : decode cX7_tell 125 = .ok (.iconst 1, 1) := by decide +kernel
theorem dX7_tell_126 : decode cX7_tell 126 = .ok (.invokevirtual 202, 3) := by decide +kernel
theorem dX7_tell_129 : decode cX7_tell 129 = .ok (.ireturn, 1) := by decide +kernel
theorem dX7_tell_130 : decode cX7_tell 130 = .ok (.aload_n 0, 1) := by decide +kernel
theorem dX7_tell_131 : decode cX7_tell 131 = .ok (.iconst 5, 1) := by decide +kernel
theorem dX7_tell_132 : decode cX7_tell 132 = .ok (.iconst 1, 1) := by decide +kernel
theorem dX7_tell_133 : decode cX7_tell 133 = .ok (.invokevirtual 202, 3) := by decide +kernel
theorem dX7_tell_136 : decode cX7_tell 136 = .ok (.ireturn, 1) := by decide +kernel
theorem dX7_tell_137 : decode cX7_tell 137 = .ok (.aload_n 0, 1) := by decide +kernel
theorem dX7_tell_138 : decode cX7_tell 138 = .ok (.getfield 7, 3) := by decide +kernel
theorem dX7_tell_141 : decode cX7_tell 141 = .ok (.sipush 468, 3) := by decide +kernel
theorem dX7_tell_144 : decode cX7_tell 144 = .ok (.iaload, 1) := by decide +kernel
theorem dX7_tell_145 : decode cX7_tell 145 = .ok (.ireturn, 1) := by decide +kernel
theorem dX7_tell_146 : decode cX7_tell 146 = .ok (.aload_n 0, 1) := by decide +kernel
theorem dX7_tell_147 : decode cX7_tell 147 = .ok (.getfield 7, 3) := by decide +kernel
theorem dX7_tell_150 : decode cX7_tell 150 = .ok (.sipush 469, 3) := by decide +kernel
theorem dX7_tell_153 : decode cX7_tell 153 = .ok (.iaload, 1) := by decide +kernel
theorem dX7_tell_154 : decode cX7_tell 154 = .ok (.ireturn, 1) := by decide +kernel
theorem dX7_tell_155 : decode cX7_tell 155 = .ok (.aload_n 0, 1) := by decide +kernel
theorem dX7_tell_156 : decode cX7_tell 156 = .ok (.invokevirtual 208, 3) := by decide +kernel
theorem dX7_tell_159 : decode cX7_tell 159 = .ok (.ireturn, 1) := by decide +kernel
theorem dX7_tell_160 : decode cX7_tell 160 = .ok (.aload_n 0, 1) := by decide +kernel
theorem dX7_tell_161 : decode cX7_tell 161 = .ok (.getfield 211, 3) := by decide +kernel
theorem dX7_tell_164 : decode cX7_tell 164 = .ok (.ireturn, 1) := by decide +kernel
set_option maxRecDepth 20000 in
theorem ggX7_whole_X7_in : GoodIn wsX7_whole wsX7_in := goodIn_r _ [5] (by decide +kernel) (by decide +kernel)
set_option maxRecDepth 20000 in
theorem gX7_whole_X7_in : GoodIn wsX7_whole (va_wsS RX7 113 yX7_in wsX7_in) := goodIn_app (goodIn_of _ (by decide +kernel)) ggX7_whole_X7_in
set_option maxRecDepth 20000 in
theorem ggX7_whole_X7_tell : GoodIn wsX7_whole wsX7_tell := goodIn_r _ [9, 10, 11, 12, 13, 14, 4, 15, 16, 17, 18, 19, 20, 21, 22, 23, 24, 25, 26, 27, 28, 29, 30, 31, 32, 33, 34, 35, 36, 37, 38, 39, 40, 41, 42, 43, 44, 45, 46, 47, 48, 49, 50, 51, 52, 53, 54, 55, 56, 57, 58, 59, 60, 61, 62, 63, 64, 65, 66, 67, 68, 69, 70, 71, 72, 73, 74, 75, 80, 81, 82, 83, 84, 85, 86, 87, 88, 89, 90, 91, 92] (by decide +kernel) (by decide +kernel)
set_option maxRecDepth 20000 in
theorem gX7_whole_X7_tell : GoodIn wsX7_whole (wsV RX7 214 RX7 yX7_tell wsX7_tell) := goodIn_app (goodIn_of _ (by decide +kernel)) ggX7_whole_X7_tell
set_option maxRecDepth 20000 in
theorem ggX7_whole_X7_fails : GoodIn wsX7_whole wsX7_fails := goodIn_r _ [79, 1, 80, 81, 82, 83, 84, 85, 86, 87, 88, 89, 90, 91, 92] (by decide +kernel) (by decide +kernel)
set_option maxRecDepth 20000 in
theorem gX7_whole_X7_fails : GoodIn wsX7_whole (wsV RX7 181 RX7 yX7_fails wsX7_fails) := goodIn_app (goodIn_of _ (by decide +kernel)) ggX7_whole_X7_fails
theorem dX7_whole_0 : decode cX7_whole 0 = .ok (.aload_n 0, 1) := by decide +kernel
theorem dX7_whole_1 : decode cX7_whole 1 = .ok (.iconst 0, 1) := by decide +kernel
theorem dX7_whole_2 : decode cX7_whole 2 = .ok (.putfield 28, 3) := by decide +kernel
theorem dX7_whole_5 : decode cX7_whole 5 = .ok (.iload_n 1, 1) := by decide +kernel
theorem dX7_whole_6 : decode cX7_whole 6 = .ok (.iconst 0, 1) := by decide +kernel
theorem dX7_whole_7 : decode cX7_whole 7 = .ok (.bipush 14, 2) := by decide +kernel
theorem dX7_whole_9 : decode cX7_whole 9 = .ok (.invokestatic 113, 3) := by decide +kernel
theorem dX7_whole_12 : decode cX7_whole 12 = .ok (.ifCond .eq 11, 3) := by decide +kernel
theorem dX7_whole_15 : decode cX7_whole 15 = .ok (.aload_n 0, 1) := by decide +kernel
theorem dX7_whole_16 : decode cX7_whole 16 = .ok (.iload_n 1, 1) := by decide +kernel
theorem dX7_whole_17 : decode cX7_whole 17 = .ok (.invokevirtual 214, 3) := by decide +kernel
theorem dX7_whole_20 : decode cX7_whole 20 = .ok (.goto 8, 3) := by decide +kernel
theorem dX7_whole_23 : decode cX7_whole 23 = .ok (.aload_n 0, 1) := by decide +kernel
theorem dX7_whole_24 : decode cX7_whole 24 = .ok (.iconst 1, 1) := by decide +kernel
theorem dX7_whole_25 : decode cX7_whole 25 = .ok (.invokevirtual 181, 3) := by decide +kernel
theorem dX7_whole_28 : decode cX7_whole 28 = .ok (.ireturn, 1) := by decide +kernel
set_option maxRecDepth 20000 in
theorem ggX7_tellNext_X7_nextNow : GoodIn wsX7_tellNext wsX7_nextNow := goodIn_r _ [5, 6, 7, 8, 4, 9, 10, 11, 12, 13, 14, 15, 16, 17, 18, 19, 20, 21, 22, 23, 24, 25, 26, 27, 28, 29, 30, 31, 32, 33, 34, 35, 36, 37, 38, 39, 40, 41, 42, 43] (by decide +kernel) (by decide +kernel)
set_option maxRecDepth 20000 in
theorem gX7_tellNext_X7_nextNow : GoodIn wsX7_tellNext (wsV RX7 64 RX7 yX7_nextNow wsX7_nextNow) := goodIn_app (goodIn_of _ (by decide +kernel)) ggX7_tellNext_X7_nextNow
theorem dX7_tellNext_0 : decode cX7_tellNext 0 = .ok (.aload_n 0, 1) := by decide +kernel
theorem dX7_tellNext_1 : decode cX7_tellNext 1 = .ok (.invokevirtual 64, 3) := by decide +kernel
theorem dX7_tellNext_4 : decode cX7_tellNext 4 = .ok (.istore_n 1, 1) := by decide +kernel
theorem dX7_tellNext_5 : decode cX7_tellNext 5 = .ok (.iload_n 1, 1) := by decide +kernel
theorem dX7_tellNext_6 : decode cX7_tellNext 6 = .ok (.ifCond .ge 9, 3) := by decide +kernel
theorem dX7_tellNext_9 : decode cX7_tellNext 9 = .ok (.sipush (-1000), 3) := by decide +kernel
theorem dX7_tellNext_12 : decode cX7_tellNext 12 = .ok (.goto 4, 3) := by decide +kernel
theorem dX7_tellNext_15 : decode cX7_tellNext 15 = .ok (.iload_n 1, 1) := by decide +kernel
theorem dX7_tellNext_16 : decode cX7_tellNext 16 = .ok (.ireturn, 1) := by decide +kernel
set_option maxRecDepth 20000 in
theorem ggX7_nextBed_X7_tellNext : GoodIn wsX7_nextBed wsX7_tellNext := goodIn_r _ [6, 7, 8, 9, 5, 10, 11, 12, 13, 14, 15, 16, 17, 18, 19, 20, 21, 22, 23, 24, 25, 26, 27, 28, 29, 30, 31, 32, 33, 34, 35, 36, 37, 38, 39, 40, 41, 42, 43, 44, 45, 46, 47, 48] (by decide +kernel) (by decide +kernel)
set_option maxRecDepth 20000 in
theorem gX7_nextBed_X7_tellNext : GoodIn wsX7_nextBed (wsV RX7 217 RX7 yX7_tellNext wsX7_tellNext) := goodIn_app (goodIn_of _ (by decide +kernel)) ggX7_nextBed_X7_tellNext
theorem dX7_nextBed_0 : decode cX7_nextBed 0 = .ok (.aload_n 0, 1) := by decide +kernel
theorem dX7_nextBed_1 : decode cX7_nextBed 1 = .ok (.iconst 0, 1) := by decide +kernel
theorem dX7_nextBed_2 : decode cX7_nextBed 2 = .ok (.putfield 28, 3) := by decide +kernel
theorem dX7_nextBed_5 : decode cX7_nextBed 5 = .ok (.aload_n 0, 1) := by decide +kernel
theorem dX7_nextBed_6 : decode cX7_nextBed 6 = .ok (.invokevirtual 217, 3) := by decide +kernel
theorem dX7_nextBed_9 : decode cX7_nextBed 9 = .ok (.ireturn, 1) := by decide +kernel
set_option maxRecDepth 20000 in
theorem ggX7_bedsFor_X7_isKey : GoodIn wsX7_bedsFor wsX7_isKey := goodIn_r _ [6, 7, 8, 5, 9] (by decide +kernel) (by decide +kernel)
set_option maxRecDepth 20000 in
theorem gX7_bedsFor_X7_isKey : GoodIn wsX7_bedsFor (va_wsS RX7 178 yX7_isKey wsX7_isKey) := goodIn_app (goodIn_of _ (by decide +kernel)) ggX7_bedsFor_X7_isKey
set_option maxRecDepth 20000 in
theorem ggX7_bedsFor_X7_bedsOf : GoodIn wsX7_bedsFor wsX7_bedsOf := goodIn_r _ [13, 1, 14, 15, 16, 5, 17, 18, 19, 20, 21, 22, 23, 24, 25, 26, 27, 28, 29, 30, 31, 32, 33, 34, 35, 36, 37, 38, 39, 40, 41, 42, 43, 44, 45, 46, 47, 48, 49, 50, 51, 52, 53, 54, 55, 56, 57, 58, 59, 60, 61, 62] (by decide +kernel) (by decide +kernel)
set_option maxRecDepth 20000 in
theorem gX7_bedsFor_X7_bedsOf : GoodIn wsX7_bedsFor (wsV RX7 120 RX7 yX7_bedsOf wsX7_bedsOf) := goodIn_app (goodIn_of _ (by decide +kernel)) ggX7_bedsFor_X7_bedsOf
theorem dX7_bedsFor_0 : decode cX7_bedsFor 0 = .ok (.aload_n 0, 1) := by decide +kernel
theorem dX7_bedsFor_1 : decode cX7_bedsFor 1 = .ok (.iload_n 1, 1) := by decide +kernel
theorem dX7_bedsFor_2 : decode cX7_bedsFor 2 = .ok (.invokestatic 178, 3) := by decide +kernel
theorem dX7_bedsFor_5 : decode cX7_bedsFor 5 = .ok (.ifCond .ne 7, 3) := by decide +kernel
theorem dX7_bedsFor_8 : decode cX7_bedsFor 8 = .ok (.iconst 1, 1) := by decide +kernel
theorem dX7_bedsFor_9 : decode cX7_bedsFor 9 = .ok (.goto 19, 3) := by decide +kernel
theorem dX7_bedsFor_12 : decode cX7_bedsFor 12 = .ok (.aload_n 0, 1) := by decide +kernel
theorem dX7_bedsFor_13 : decode cX7_bedsFor 13 = .ok (.getfield 7, 3) := by decide +kernel
theorem dX7_bedsFor_16 : decode cX7_bedsFor 16 = .ok (.sipush 466, 3) := by decide +kernel
theorem dX7_bedsFor_19 : decode cX7_bedsFor 19 = .ok (.iaload, 1) := by decide +kernel
theorem dX7_bedsFor_20 : decode cX7_bedsFor 20 = .ok (.ifCond .ne 7, 3) := by decide +kernel
theorem dX7_bedsFor_23 : decode cX7_bedsFor 23 = .ok (.iconst 2, 1) := by decide +kernel
theorem dX7_bedsFor_24 : decode cX7_bedsFor 24 = .ok (.goto 4, 3) := by decide +kernel
theorem dX7_bedsFor_27 : decode cX7_bedsFor 27 = .ok (.iconst 0, 1) := by decide +kernel
theorem dX7_bedsFor_28 : decode cX7_bedsFor 28 = .ok (.putfield 28, 3) := by decide +kernel
theorem dX7_bedsFor_31 : decode cX7_bedsFor 31 = .ok (.aload_n 0, 1) := by decide +kernel
theorem dX7_bedsFor_32 : decode cX7_bedsFor 32 = .ok (.getfield 28, 3) := by decide +kernel
theorem dX7_bedsFor_35 : decode cX7_bedsFor 35 = .ok (.ifCond .ne 11, 3) := by decide +kernel
theorem dX7_bedsFor_38 : decode cX7_bedsFor 38 = .ok (.aload_n 0, 1) := by decide +kernel
theorem dX7_bedsFor_39 : decode cX7_bedsFor 39 = .ok (.iload_n 1, 1) := by decide +kernel
theorem dX7_bedsFor_40 : decode cX7_bedsFor 40 = .ok (.invokevirtual 120, 3) := by decide +kernel
theorem dX7_bedsFor_43 : decode cX7_bedsFor 43 = .ok (.goto 4, 3) := by decide +kernel
theorem dX7_bedsFor_46 : decode cX7_bedsFor 46 = .ok (.iconst 0, 1) := by decide +kernel
theorem dX7_bedsFor_47 : decode cX7_bedsFor 47 = .ok (.ireturn, 1) := by decide +kernel
set_option maxRecDepth 20000 in
theorem ggX7_reason_X7_isKey : GoodIn wsX7_reason wsX7_isKey := goodIn_r _ [6, 7, 8, 5, 9] (by decide +kernel) (by decide +kernel)
set_option maxRecDepth 20000 in
theorem gX7_reason_X7_isKey : GoodIn wsX7_reason (va_wsS RX7 178 yX7_isKey wsX7_isKey) := goodIn_app (goodIn_of _ (by decide +kernel)) ggX7_reason_X7_isKey
set_option maxRecDepth 20000 in
theorem ggX7_reason_X7_bedsOf : GoodIn wsX7_reason wsX7_bedsOf := goodIn_r _ [13, 1, 14, 15, 16, 5, 17, 18, 19, 20, 21, 22, 23, 24, 25, 26, 27, 28, 29, 30, 31, 32, 33, 34, 35, 36, 37, 38, 39, 40, 41, 42, 43, 44, 45, 46, 47, 48, 49, 66, 67, 68, 69, 70, 71, 72, 73, 74, 75, 76, 77, 78] (by decide +kernel) (by decide +kernel)
set_option maxRecDepth 20000 in
theorem gX7_reason_X7_bedsOf : GoodIn wsX7_reason (wsV RX7 120 RX7 yX7_bedsOf wsX7_bedsOf) := goodIn_app (goodIn_of _ (by decide +kernel)) ggX7_reason_X7_bedsOf
set_option maxRecDepth 20000 in
theorem ggX7_reason_X7_manyToDig : GoodIn wsX7_reason wsX7_manyToDig := goodIn_r _ [53, 54, 55, 56, 5, 57, 34, 35, 36, 37, 1, 58, 59, 60, 61, 22, 23, 24, 25, 26, 27, 28, 29, 62, 63, 64, 65, 66, 67, 68, 69, 70, 71, 72, 73, 74, 75, 76, 77, 78] (by decide +kernel) (by decide +kernel)
set_option maxRecDepth 20000 in
theorem gX7_reason_X7_manyToDig : GoodIn wsX7_reason (wsV RX7 123 RX7 yX7_manyToDig wsX7_manyToDig) := goodIn_app (goodIn_of _ (by decide +kernel)) ggX7_reason_X7_manyToDig
theorem dX7_reason_0 : decode cX7_reason 0 = .ok (.aload_n 0, 1) := by decide +kernel
theorem dX7_reason_1 : decode cX7_reason 1 = .ok (.iload_n 1, 1) := by decide +kernel
theorem dX7_reason_2 : decode cX7_reason 2 = .ok (.invokestatic 178, 3) := by decide +kernel
theorem dX7_reason_5 : decode cX7_reason 5 = .ok (.ifCond .ne 7, 3) := by decide +kernel
theorem dX7_reason_8 : decode cX7_reason 8 = .ok (.iconst 1, 1) := by decide +kernel
theorem dX7_reason_9 : decode cX7_reason 9 = .ok (.goto 19, 3) := by decide +kernel
theorem dX7_reason_12 : decode cX7_reason 12 = .ok (.aload_n 0, 1) := by decide +kernel
theorem dX7_reason_13 : decode cX7_reason 13 = .ok (.getfield 7, 3) := by decide +kernel
theorem dX7_reason_16 : decode cX7_reason 16 = .ok (.sipush 466, 3) := by decide +kernel
theorem dX7_reason_19 : decode cX7_reason 19 = .ok (.iaload, 1) := by decide +kernel
theorem dX7_reason_20 : decode cX7_reason 20 = .ok (.ifCond .ne 7, 3) := by decide +kernel
theorem dX7_reason_23 : decode cX7_reason 23 = .ok (.iconst 2, 1) := by decide +kernel
theorem dX7_reason_24 : decode cX7_reason 24 = .ok (.goto 4, 3) := by decide +kernel
theorem dX7_reason_27 : decode cX7_reason 27 = .ok (.iconst 0, 1) := by decide +kernel
theorem dX7_reason_28 : decode cX7_reason 28 = .ok (.putfield 28, 3) := by decide +kernel
theorem dX7_reason_31 : decode cX7_reason 31 = .ok (.aload_n 0, 1) := by decide +kernel
theorem dX7_reason_32 : decode cX7_reason 32 = .ok (.getfield 28, 3) := by decide +kernel
theorem dX7_reason_35 : decode cX7_reason 35 = .ok (.ifCond .le 5, 3) := by decide +kernel
theorem dX7_reason_38 : decode cX7_reason 38 = .ok (.iconst 0, 1) := by decide +kernel
theorem dX7_reason_39 : decode cX7_reason 39 = .ok (.ireturn, 1) := by decide +kernel
theorem dX7_reason_40 : decode cX7_reason 40 = .ok (.aload_n 0, 1) := by decide +kernel
theorem dX7_reason_41 : decode cX7_reason 41 = .ok (.iload_n 1, 1) := by decide +kernel
theorem dX7_reason_42 : decode cX7_reason 42 = .ok (.invokevirtual 120, 3) := by decide +kernel
theorem dX7_reason_45 : decode cX7_reason 45 = .ok (.istore_n 2, 1) := by decide +kernel
theorem dX7_reason_46 : decode cX7_reason 46 = .ok (.iload_n 2, 1) := by decide +kernel
theorem dX7_reason_47 : decode cX7_reason 47 = .ok (.sipush (-1000), 3) := by decide +kernel
theorem dX7_reason_50 : decode cX7_reason 50 = .ok (.if_icmp .ne 7, 3) := by decide +kernel
theorem dX7_reason_53 : decode cX7_reason 53 = .ok (.iconst 1, 1) := by decide +kernel
theorem dX7_reason_54 : decode cX7_reason 54 = .ok (.goto 16, 3) := by decide +kernel
theorem dX7_reason_57 : decode cX7_reason 57 = .ok (.iload_n 2, 1) := by decide +kernel
theorem dX7_reason_58 : decode cX7_reason 58 = .ok (.aload_n 0, 1) := by decide +kernel
theorem dX7_reason_59 : decode cX7_reason 59 = .ok (.invokevirtual 123, 3) := by decide +kernel
theorem dX7_reason_62 : decode cX7_reason 62 = .ok (.if_icmp .le 7, 3) := by decide +kernel
theorem dX7_reason_65 : decode cX7_reason 65 = .ok (.iconst 2, 1) := by decide +kernel
theorem dX7_reason_66 : decode cX7_reason 66 = .ok (.goto 4, 3) := by decide +kernel
theorem dX7_reason_69 : decode cX7_reason 69 = .ok (.iconst 0, 1) := by decide +kernel
theorem dX7_reason_70 : decode cX7_reason 70 = .ok (.ireturn, 1) := by decide +kernel
set_option maxRecDepth 20000 in
theorem ggX7_neededWithout_X7_isReader : GoodIn wsX7_neededWithout wsX7_isReader := goodIn_r _ [5, 6, 7, 4, 8] (by decide +kernel) (by decide +kernel)
set_option maxRecDepth 20000 in
theorem gX7_neededWithout_X7_isReader : GoodIn wsX7_neededWithout (va_wsS RX7 184 yX7_isReader wsX7_isReader) := goodIn_app (goodIn_of _ (by decide +kernel)) ggX7_neededWithout_X7_isReader
set_option maxRecDepth 20000 in
theorem ggX7_neededWithout_X7_ofReader : GoodIn wsX7_neededWithout wsX7_ofReader := goodIn_r _ [12, 13, 26, 27, 28, 29, 30, 31, 32, 33, 34, 35, 36, 37, 38] (by decide +kernel) (by decide +kernel)
set_option maxRecDepth 20000 in
theorem gX7_neededWithout_X7_ofReader : GoodIn wsX7_neededWithout (wsV RX7 50 RX7 yX7_ofReader wsX7_ofReader) := goodIn_app (goodIn_of _ (by decide +kernel)) ggX7_neededWithout_X7_ofReader
set_option maxRecDepth 20000 in
theorem ggX7_neededWithout_X7_needed : GoodIn wsX7_neededWithout wsX7_needed := goodIn_r _ [17, 18, 19, 20, 4, 21, 13, 22, 23, 24, 25, 9, 10, 11, 12, 26, 27, 28, 29, 30, 31, 32, 33, 34, 35, 36, 37, 38] (by decide +kernel) (by decide +kernel)
set_option maxRecDepth 20000 in
theorem gX7_neededWithout_X7_needed : GoodIn wsX7_neededWithout (wsV RX7 56 RX7 yX7_needed wsX7_needed) := goodIn_app (goodIn_of _ (by decide +kernel)) ggX7_neededWithout_X7_needed
theorem dX7_neededWithout_0 : decode cX7_neededWithout 0 = .ok (.aload_n 0, 1) := by decide +kernel
theorem dX7_neededWithout_1 : decode cX7_neededWithout 1 = .ok (.iload_n 1, 1) := by decide +kernel
theorem dX7_neededWithout_2 : decode cX7_neededWithout 2 = .ok (.invokestatic 184, 3) := by decide +kernel
theorem dX7_neededWithout_5 : decode cX7_neededWithout 5 = .ok (.ifCond .ne 7, 3) := by decide +kernel
theorem dX7_neededWithout_8 : decode cX7_neededWithout 8 = .ok (.iconst 1, 1) := by decide +kernel
theorem dX7_neededWithout_9 : decode cX7_neededWithout 9 = .ok (.goto 17, 3) := by decide +kernel
theorem dX7_neededWithout_12 : decode cX7_neededWithout 12 = .ok (.aload_n 0, 1) := by decide +kernel
theorem dX7_neededWithout_13 : decode cX7_neededWithout 13 = .ok (.iload_n 1, 1) := by decide +kernel
theorem dX7_neededWithout_14 : decode cX7_neededWithout 14 = .ok (.iconst 0, 1) := by decide +kernel
theorem dX7_neededWithout_15 : decode cX7_neededWithout 15 = .ok (.invokevirtual 50, 3) := by decide +kernel
theorem dX7_neededWithout_18 : decode cX7_neededWithout 18 = .ok (.ifCond .ne 7, 3) := by decide +kernel
theorem dX7_neededWithout_21 : decode cX7_neededWithout 21 = .ok (.iconst 2, 1) := by decide +kernel
theorem dX7_neededWithout_22 : decode cX7_neededWithout 22 = .ok (.goto 4, 3) := by decide +kernel
theorem dX7_neededWithout_25 : decode cX7_neededWithout 25 = .ok (.iconst 0, 1) := by decide +kernel
theorem dX7_neededWithout_26 : decode cX7_neededWithout 26 = .ok (.putfield 28, 3) := by decide +kernel
theorem dX7_neededWithout_29 : decode cX7_neededWithout 29 = .ok (.aload_n 0, 1) := by decide +kernel
theorem dX7_neededWithout_30 : decode cX7_neededWithout 30 = .ok (.getfield 28, 3) := by decide +kernel
theorem dX7_neededWithout_33 : decode cX7_neededWithout 33 = .ok (.ifCond .ne 11, 3) := by decide +kernel
theorem dX7_neededWithout_36 : decode cX7_neededWithout 36 = .ok (.aload_n 0, 1) := by decide +kernel
theorem dX7_neededWithout_37 : decode cX7_neededWithout 37 = .ok (.iload_n 1, 1) := by decide +kernel
theorem dX7_neededWithout_38 : decode cX7_neededWithout 38 = .ok (.invokevirtual 56, 3) := by decide +kernel
theorem dX7_neededWithout_41 : decode cX7_neededWithout 41 = .ok (.goto 4, 3) := by decide +kernel
theorem dX7_neededWithout_44 : decode cX7_neededWithout 44 = .ok (.iconst 0, 1) := by decide +kernel
theorem dX7_neededWithout_45 : decode cX7_neededWithout 45 = .ok (.ireturn, 1) := by decide +kernel
set_option maxRecDepth 20000 in
theorem ggX7_changedSince_X7_isReader : GoodIn wsX7_changedSince wsX7_isReader := goodIn_r _ [5, 6, 7, 4, 8] (by decide +kernel) (by decide +kernel)
set_option maxRecDepth 20000 in
theorem gX7_changedSince_X7_isReader : GoodIn wsX7_changedSince (va_wsS RX7 184 yX7_isReader wsX7_isReader) := goodIn_app (goodIn_of _ (by decide +kernel)) ggX7_changedSince_X7_isReader
set_option maxRecDepth 20000 in
theorem ggX7_changedSince_X7_ofReader : GoodIn wsX7_changedSince wsX7_ofReader := goodIn_r _ [12, 13, 54, 55, 56, 57, 58, 59, 60, 61, 62, 63, 64, 65, 66] (by decide +kernel) (by decide +kernel)
set_option maxRecDepth 20000 in
theorem gX7_changedSince_X7_ofReader : GoodIn wsX7_changedSince (wsV RX7 50 RX7 yX7_ofReader wsX7_ofReader) := goodIn_app (goodIn_of _ (by decide +kernel)) ggX7_changedSince_X7_ofReader
set_option maxRecDepth 20000 in
theorem ggX7_changedSince_X7_now : GoodIn wsX7_changedSince wsX7_now := goodIn_r _ [17, 18, 19, 20, 4, 21, 13, 22, 23, 24, 25, 54, 55, 56, 57, 58, 59, 60, 61, 62, 63, 64, 65, 66] (by decide +kernel) (by decide +kernel)
set_option maxRecDepth 20000 in
theorem gX7_changedSince_X7_now : GoodIn wsX7_changedSince (wsV RX7 90 RX7 yX7_now wsX7_now) := goodIn_app (goodIn_of _ (by decide +kernel)) ggX7_changedSince_X7_now
set_option maxRecDepth 20000 in
theorem ggX7_changedSince_X7_valueBy : GoodIn wsX7_changedSince wsX7_valueBy := goodIn_r _ [29, 30, 31, 32, 4, 33, 34, 35, 36, 37, 13, 38, 39, 40, 41, 42, 43, 44, 45, 46, 47, 48, 49, 50, 51, 52, 53, 54, 55, 56, 57, 58, 59, 60, 61, 62, 63, 64, 65, 66] (by decide +kernel) (by decide +kernel)
set_option maxRecDepth 20000 in
theorem gX7_changedSince_X7_valueBy : GoodIn wsX7_changedSince (wsV RX7 139 RX7 yX7_valueBy wsX7_valueBy) := goodIn_app (goodIn_of _ (by decide +kernel)) ggX7_changedSince_X7_valueBy
theorem dX7_changedSince_0 : decode cX7_changedSince 0 = .ok (.aload_n 0, 1) := by decide +kernel
theorem dX7_changedSince_1 : decode cX7_changedSince 1 = .ok (.iload_n 1, 1) := by decide +kernel
theorem dX7_changedSince_2 : decode cX7_changedSince 2 = .ok (.invokestatic 184, 3) := by decide +kernel
theorem dX7_changedSince_5 : decode cX7_changedSince 5 = .ok (.ifCond .ne 7, 3) := by decide +kernel
theorem dX7_changedSince_8 : decode cX7_changedSince 8 = .ok (.iconst 1, 1) := by decide +kernel
theorem dX7_changedSince_9 : decode cX7_changedSince 9 = .ok (.goto 17, 3) := by decide +kernel
theorem dX7_changedSince_12 : decode cX7_changedSince 12 = .ok (.aload_n 0, 1) := by decide +kernel
theorem dX7_changedSince_13 : decode cX7_changedSince 13 = .ok (.iload_n 1, 1) := by decide +kernel
theorem dX7_changedSince_14 : decode cX7_changedSince 14 = .ok (.iconst 0, 1) := by decide +kernel
theorem dX7_changedSince_15 : decode cX7_changedSince 15 = .ok (.invokevirtual 50, 3) := by decide +kernel
theorem dX7_changedSince_18 : decode cX7_changedSince 18 = .ok (.ifCond .ne 7, 3) := by decide +kernel
theorem dX7_changedSince_21 : decode cX7_changedSince 21 = .ok (.iconst 2, 1) := by decide +kernel
theorem dX7_changedSince_22 : decode cX7_changedSince 22 = .ok (.goto 4, 3) := by decide +kernel
theorem dX7_changedSince_25 : decode cX7_changedSince 25 = .ok (.iconst 0, 1) := by decide +kernel
theorem dX7_changedSince_26 : decode cX7_changedSince 26 = .ok (.putfield 28, 3) := by decide +kernel
theorem dX7_changedSince_29 : decode cX7_changedSince 29 = .ok (.iconst 0, 1) := by decide +kernel
theorem dX7_changedSince_30 : decode cX7_changedSince 30 = .ok (.istore_n 2, 1) := by decide +kernel
theorem dX7_changedSince_31 : decode cX7_changedSince 31 = .ok (.iconst 0, 1) := by decide +kernel
theorem dX7_changedSince_32 : decode cX7_changedSince 32 = .ok (.istore_n 3, 1) := by decide +kernel
theorem dX7_changedSince_33 : decode cX7_changedSince 33 = .ok (.iload_n 3, 1) := by decide +kernel
theorem dX7_changedSince_34 : decode cX7_changedSince 34 = .ok (.bipush 100, 2) := by decide +kernel
theorem dX7_changedSince_36 : decode cX7_changedSince 36 = .ok (.if_icmp .ge 47, 3) := by decide +kernel
theorem dX7_changedSince_39 : decode cX7_changedSince 39 = .ok (.aload_n 0, 1) := by decide +kernel
theorem dX7_changedSince_40 : decode cX7_changedSince 40 = .ok (.getfield 28, 3) := by decide +kernel
theorem dX7_changedSince_43 : decode cX7_changedSince 43 = .ok (.ifCond .ne 40, 3) := by decide +kernel
theorem dX7_changedSince_46 : decode cX7_changedSince 46 = .ok (.iload_n 2, 1) := by decide +kernel
theorem dX7_changedSince_47 : decode cX7_changedSince 47 = .ok (.aload_n 0, 1) := by decide +kernel
theorem dX7_changedSince_48 : decode cX7_changedSince 48 = .ok (.aload_n 0, 1) := by decide +kernel
theorem dX7_changedSince_49 : decode cX7_changedSince 49 = .ok (.invokevirtual 90, 3) := by decide +kernel
theorem dX7_changedSince_52 : decode cX7_changedSince 52 = .ok (.iload_n 3, 1) := by decide +kernel
theorem dX7_changedSince_53 : decode cX7_changedSince 53 = .ok (.invokevirtual 139, 3) := by decide +kernel
theorem dX7_changedSince_56 : decode cX7_changedSince 56 = .ok (.aload_n 0, 1) := by decide +kernel
theorem dX7_changedSince_57 : decode cX7_changedSince 57 = .ok (.aload_n 0, 1) := by decide +kernel
theorem dX7_changedSince_58 : decode cX7_changedSince 58 = .ok (.iload_n 1, 1) := by decide +kernel
theorem dX7_changedSince_59 : decode cX7_changedSince 59 = .ok (.iconst 2, 1) := by decide +kernel
theorem dX7_changedSince_60 : decode cX7_changedSince 60 = .ok (.invokevirtual 50, 3) := by decide +kernel
theorem dX7_changedSince_63 : decode cX7_changedSince 63 = .ok (.iload_n 3, 1) := by decide +kernel
theorem dX7_changedSince_64 : decode cX7_changedSince 64 = .ok (.invokevirtual 139, 3) := by decide +kernel
theorem dX7_changedSince_67 : decode cX7_changedSince 67 = .ok (.if_icmp .ne 7, 3) := by decide +kernel
theorem dX7_changedSince_70 : decode cX7_changedSince 70 = .ok (.iconst 0, 1) := by decide +kernel
theorem dX7_changedSince_71 : decode cX7_changedSince 71 = .ok (.goto 4, 3) := by decide +kernel
theorem dX7_changedSince_74 : decode cX7_changedSince 74 = .ok (.iconst 1, 1) := by decide +kernel
theorem dX7_changedSince_75 : decode cX7_changedSince 75 = .ok (.iadd, 1) := by decide +kernel
theorem dX7_changedSince_76 : decode cX7_changedSince 76 = .ok (.istore_n 2, 1) := by decide +kernel
theorem dX7_changedSince_77 : decode cX7_changedSince 77 = .ok (.iinc 3 1, 3) := by decide +kernel
theorem dX7_changedSince_80 : decode cX7_changedSince 80 = .ok (.goto (-47), 3) := by decide +kernel
theorem dX7_changedSince_83 : decode cX7_changedSince 83 = .ok (.iload_n 2, 1) := by decide +kernel
theorem dX7_changedSince_84 : decode cX7_changedSince 84 = .ok (.ireturn, 1) := by decide +kernel
set_option maxRecDepth 20000 in
theorem ggX7_type_X7_in : GoodIn wsX7_type wsX7_in := goodIn_r _ [7] (by decide +kernel) (by decide +kernel)
set_option maxRecDepth 20000 in
theorem gX7_type_X7_in : GoodIn wsX7_type (va_wsS RX7 113 yX7_in wsX7_in) := goodIn_app (goodIn_of _ (by decide +kernel)) ggX7_type_X7_in
set_option maxRecDepth 20000 in
theorem ggX7_type_X7_fails : GoodIn wsX7_type wsX7_fails := goodIn_r _ [11, 1, 12, 13, 14, 15, 16, 17, 18, 19, 20, 21, 22, 23, 24] (by decide +kernel) (by decide +kernel)
set_option maxRecDepth 20000 in
theorem gX7_type_X7_fails : GoodIn wsX7_type (wsV RX7 181 RX7 yX7_fails wsX7_fails) := goodIn_app (goodIn_of _ (by decide +kernel)) ggX7_type_X7_fails
theorem dX7_type_0 : decode cX7_type 0 = .ok (.aload_n 0, 1) := by decide +kernel
theorem dX7_type_1 : decode cX7_type 1 = .ok (.iconst 0, 1) := by decide +kernel
theorem dX7_type_2 : decode cX7_type 2 = .ok (.putfield 28, 3) := by decide +kernel
theorem dX7_type_5 : decode cX7_type 5 = .ok (.iload_n 1, 1) := by decide +kernel
theorem dX7_type_6 : decode cX7_type 6 = .ok (.iconst 0, 1) := by decide +kernel
theorem dX7_type_7 : decode cX7_type 7 = .ok (.bipush 127, 2) := by decide +kernel
theorem dX7_type_9 : decode cX7_type 9 = .ok (.invokestatic 113, 3) := by decide +kernel
theorem dX7_type_12 : decode cX7_type 12 = .ok (.ifCond .ne 9, 3) := by decide +kernel
theorem dX7_type_15 : decode cX7_type 15 = .ok (.aload_n 0, 1) := by decide +kernel
theorem dX7_type_16 : decode cX7_type 16 = .ok (.iconst 1, 1) := by decide +kernel
theorem dX7_type_17 : decode cX7_type 17 = .ok (.invokevirtual 181, 3) := by decide +kernel
theorem dX7_type_20 : decode cX7_type 20 = .ok (.ireturn, 1) := by decide +kernel
theorem dX7_type_21 : decode cX7_type 21 = .ok (.aload_n 0, 1) := by decide +kernel
theorem dX7_type_22 : decode cX7_type 22 = .ok (.getfield 211, 3) := by decide +kernel
theorem dX7_type_25 : decode cX7_type 25 = .ok (.sipush 150, 3) := by decide +kernel
theorem dX7_type_28 : decode cX7_type 28 = .ok (.if_icmp .ne 9, 3) := by decide +kernel
theorem dX7_type_31 : decode cX7_type 31 = .ok (.aload_n 0, 1) := by decide +kernel
theorem dX7_type_32 : decode cX7_type 32 = .ok (.iconst 2, 1) := by decide +kernel
theorem dX7_type_33 : decode cX7_type 33 = .ok (.invokevirtual 181, 3) := by decide +kernel
theorem dX7_type_36 : decode cX7_type 36 = .ok (.ireturn, 1) := by decide +kernel
theorem dX7_type_37 : decode cX7_type 37 = .ok (.aload_n 0, 1) := by decide +kernel
theorem dX7_type_38 : decode cX7_type 38 = .ok (.getfield 19, 3) := by decide +kernel
theorem dX7_type_41 : decode cX7_type 41 = .ok (.aload_n 0, 1) := by decide +kernel
theorem dX7_type_42 : decode cX7_type 42 = .ok (.getfield 211, 3) := by decide +kernel
theorem dX7_type_45 : decode cX7_type 45 = .ok (.iload_n 1, 1) := by decide +kernel
theorem dX7_type_46 : decode cX7_type 46 = .ok (.iastore, 1) := by decide +kernel
theorem dX7_type_47 : decode cX7_type 47 = .ok (.aload_n 0, 1) := by decide +kernel
theorem dX7_type_48 : decode cX7_type 48 = .ok (.dup, 1) := by decide +kernel
theorem dX7_type_49 : decode cX7_type 49 = .ok (.getfield 211, 3) := by decide +kernel
theorem dX7_type_52 : decode cX7_type 52 = .ok (.iconst 1, 1) := by decide +kernel
theorem dX7_type_53 : decode cX7_type 53 = .ok (.iadd, 1) := by decide +kernel
theorem dX7_type_54 : decode cX7_type 54 = .ok (.putfield 211, 3) := by decide +kernel
theorem dX7_type_57 : decode cX7_type 57 = .ok (.aload_n 0, 1) := by decide +kernel
theorem dX7_type_58 : decode cX7_type 58 = .ok (.getfield 211, 3) := by decide +kernel
theorem dX7_type_61 : decode cX7_type 61 = .ok (.ireturn, 1) := by decide +kernel
theorem dX7_clearCommands_0 : decode cX7_clearCommands 0 = .ok (.aload_n 0, 1) := by decide +kernel
theorem dX7_clearCommands_1 : decode cX7_clearCommands 1 = .ok (.iconst 0, 1) := by decide +kernel
theorem dX7_clearCommands_2 : decode cX7_clearCommands 2 = .ok (.putfield 28, 3) := by decide +kernel
theorem dX7_clearCommands_5 : decode cX7_clearCommands 5 = .ok (.aload_n 0, 1) := by decide +kernel
theorem dX7_clearCommands_6 : decode cX7_clearCommands 6 = .ok (.getfield 211, 3) := by decide +kernel
theorem dX7_clearCommands_9 : decode cX7_clearCommands 9 = .ok (.istore_n 1, 1) := by decide +kernel
theorem dX7_clearCommands_10 : decode cX7_clearCommands 10 = .ok (.aload_n 0, 1) := by decide +kernel
theorem dX7_clearCommands_11 : decode cX7_clearCommands 11 = .ok (.iconst 0, 1) := by decide +kernel
theorem dX7_clearCommands_12 : decode cX7_clearCommands 12 = .ok (.putfield 211, 3) := by decide +kernel
theorem dX7_clearCommands_15 : decode cX7_clearCommands 15 = .ok (.iload_n 1, 1) := by decide +kernel
theorem dX7_clearCommands_16 : decode cX7_clearCommands 16 = .ok (.ireturn, 1) := by decide +kernel
theorem dX7_here_0 : decode cX7_here 0 = .ok (.aload_n 0, 1) := by decide +kernel
theorem dX7_here_1 : decode cX7_here 1 = .ok (.getfield 220, 3) := by decide +kernel
theorem dX7_here_4 : decode cX7_here 4 = .ok (.aload_n 0, 1) := by decide +kernel
theorem dX7_here_5 : decode cX7_here 5 = .ok (.getfield 211, 3) := by decide +kernel
theorem dX7_here_8 : decode cX7_here 8 = .ok (.if_icmp .ge 15, 3) := by decide +kernel
theorem dX7_here_11 : decode cX7_here 11 = .ok (.aload_n 0, 1) := by decide +kernel
theorem dX7_here_12 : decode cX7_here 12 = .ok (.getfield 19, 3) := by decide +kernel
theorem dX7_here_15 : decode cX7_here 15 = .ok (.aload_n 0, 1) := by decide +kernel
theorem dX7_here_16 : decode cX7_here 16 = .ok (.getfield 220, 3) := by decide +kernel
theorem dX7_here_19 : decode cX7_here 19 = .ok (.iaload, 1) := by decide +kernel
theorem dX7_here_20 : decode cX7_here 20 = .ok (.goto 4, 3) := by decide +kernel
theorem dX7_here_23 : decode cX7_here 23 = .ok (.iconst (-1), 1) := by decide +kernel
theorem dX7_here_24 : decode cX7_here 24 = .ok (.ireturn, 1) := by decide +kernel
set_option maxRecDepth 20000 in
theorem ggX7_spaces_X7_here : GoodIn wsX7_spaces wsX7_here := goodIn_r _ [6, 1, 7, 8, 9, 10, 11, 12, 13, 14, 15, 16, 17, 18, 19, 20, 21] (by decide +kernel) (by decide +kernel)
set_option maxRecDepth 20000 in
theorem gX7_spaces_X7_here : GoodIn wsX7_spaces (wsV RX7 223 RX7 yX7_here wsX7_here) := goodIn_app (goodIn_of _ (by decide +kernel)) ggX7_spaces_X7_here
theorem dX7_spaces_0 : decode cX7_spaces 0 = .ok (.aload_n 0, 1) := by decide +kernel
theorem dX7_spaces_1 : decode cX7_spaces 1 = .ok (.invokevirtual 223, 3) := by decide +kernel
theorem dX7_spaces_4 : decode cX7_spaces 4 = .ok (.bipush 32, 2) := by decide +kernel
theorem dX7_spaces_6 : decode cX7_spaces 6 = .ok (.if_icmp .ne 16, 3) := by decide +kernel
theorem dX7_spaces_9 : decode cX7_spaces 9 = .ok (.aload_n 0, 1) := by decide +kernel
theorem dX7_spaces_10 : decode cX7_spaces 10 = .ok (.dup, 1) := by decide +kernel
theorem dX7_spaces_11 : decode cX7_spaces 11 = .ok (.getfield 220, 3) := by decide +kernel
theorem dX7_spaces_14 : decode cX7_spaces 14 = .ok (.iconst 1, 1) := by decide +kernel
theorem dX7_spaces_15 : decode cX7_spaces 15 = .ok (.iadd, 1) := by decide +kernel
theorem dX7_spaces_16 : decode cX7_spaces 16 = .ok (.putfield 220, 3) := by decide +kernel
theorem dX7_spaces_19 : decode cX7_spaces 19 = .ok (.goto (-19), 3) := by decide +kernel
theorem dX7_spaces_22 : decode cX7_spaces 22 = .ok (.return_, 1) := by decide +kernel
theorem dX7_meaning_0 : decode cX7_meaning 0 = .ok (.lload_n 0, 1) := by decide +kernel
theorem dX7_meaning_1 : decode cX7_meaning 1 = .ok (.ldc2_w 226, 3) := by decide +kernel
theorem dX7_meaning_4 : decode cX7_meaning 4 = .ok (.lcmp, 1) := by decide +kernel
theorem dX7_meaning_5 : decode cX7_meaning 5 = .ok (.ifCond .ne 7, 3) := by decide +kernel
theorem dX7_meaning_8 : decode cX7_meaning 8 = .ok (.iconst 1, 1) := by decide +kernel
theorem dX7_meaning_9 : decode cX7_meaning 9 = .ok (.goto 78, 3) := by decide +kernel
theorem dX7_meaning_12 : decode cX7_meaning 12 = .ok (.lload_n 0, 1) := by decide +kernel
theorem dX7_meaning_13 : decode cX7_meaning 13 = .ok (.ldc2_w 228, 3) := by decide +kernel
theorem dX7_meaning_16 : decode cX7_meaning 16 = .ok (.lcmp, 1) := by decide +kernel
theorem dX7_meaning_17 : decode cX7_meaning 17 = .ok (.ifCond .ne 7, 3) := by decide +kernel
theorem dX7_meaning_20 : decode cX7_meaning 20 = .ok (.iconst 2, 1) := by decide +kernel
theorem dX7_meaning_21 : decode cX7_meaning 21 = .ok (.goto 66, 3) := by decide +kernel
theorem dX7_meaning_24 : decode cX7_meaning 24 = .ok (.lload_n 0, 1) := by decide +kernel
theorem dX7_meaning_25 : decode cX7_meaning 25 = .ok (.ldc2_w 230, 3) := by decide +kernel
theorem dX7_meaning_28 : decode cX7_meaning 28 = .ok (.lcmp, 1) := by decide +kernel
theorem dX7_meaning_29 : decode cX7_meaning 29 = .ok (.ifCond .ne 7, 3) := by decide +kernel
theorem dX7_meaning_32 : decode cX7_meaning 32 = .ok (.iconst 3, 1) := by decide +kernel
theorem dX7_meaning_33 : decode cX7_meaning 33 = .ok (.goto 54, 3) := by decide +kernel
theorem dX7_meaning_36 : decode cX7_meaning 36 = .ok (.lload_n 0, 1) := by decide +kernel
theorem dX7_meaning_37 : decode cX7_meaning 37 = .ok (.ldc2_w 232, 3) := by decide +kernel
theorem dX7_meaning_40 : decode cX7_meaning 40 = .ok (.lcmp, 1) := by decide +kernel
theorem dX7_meaning_41 : decode cX7_meaning 41 = .ok (.ifCond .ne 7, 3) := by decide +kernel
theorem dX7_meaning_44 : decode cX7_meaning 44 = .ok (.iconst 4, 1) := by decide +kernel
theorem dX7_meaning_45 : decode cX7_meaning 45 = .ok (.goto 42, 3) := by decide +kernel
theorem dX7_meaning_48 : decode cX7_meaning 48 = .ok (.lload_n 0, 1) := by decide +kernel
theorem dX7_meaning_49 : decode cX7_meaning 49 = .ok (.ldc2_w 234, 3) := by decide +kernel
theorem dX7_meaning_52 : decode cX7_meaning 52 = .ok (.lcmp, 1) := by decide +kernel
theorem dX7_meaning_53 : decode cX7_meaning 53 = .ok (.ifCond .ne 7, 3) := by decide +kernel
theorem dX7_meaning_56 : decode cX7_meaning 56 = .ok (.iconst 5, 1) := by decide +kernel
theorem dX7_meaning_57 : decode cX7_meaning 57 = .ok (.goto 30, 3) := by decide +kernel
theorem dX7_meaning_60 : decode cX7_meaning 60 = .ok (.lload_n 0, 1) := by decide +kernel
theorem dX7_meaning_61 : decode cX7_meaning 61 = .ok (.ldc2_w 236, 3) := by decide +kernel
theorem dX7_meaning_64 : decode cX7_meaning 64 = .ok (.lcmp, 1) := by decide +kernel
theorem dX7_meaning_65 : decode cX7_meaning 65 = .ok (.ifCond .ne 8, 3) := by decide +kernel
theorem dX7_meaning_68 : decode cX7_meaning 68 = .ok (.bipush 6, 2) := by decide +kernel
theorem dX7_meaning_70 : decode cX7_meaning 70 = .ok (.goto 17, 3) := by decide +kernel
theorem dX7_meaning_73 : decode cX7_meaning 73 = .ok (.lload_n 0, 1) := by decide +kernel
theorem dX7_meaning_74 : decode cX7_meaning 74 = .ok (.ldc2_w 238, 3) := by decide +kernel
theorem dX7_meaning_77 : decode cX7_meaning 77 = .ok (.lcmp, 1) := by decide +kernel
theorem dX7_meaning_78 : decode cX7_meaning 78 = .ok (.ifCond .ne 8, 3) := by decide +kernel
theorem dX7_meaning_81 : decode cX7_meaning 81 = .ok (.bipush 7, 2) := by decide +kernel
theorem dX7_meaning_83 : decode cX7_meaning 83 = .ok (.goto 4, 3) := by decide +kernel
theorem dX7_meaning_86 : decode cX7_meaning 86 = .ok (.iconst 0, 1) := by decide +kernel
theorem dX7_meaning_87 : decode cX7_meaning 87 = .ok (.ireturn, 1) := by decide +kernel
set_option maxRecDepth 20000 in
theorem ggX7_readWord_X7_here : GoodIn wsX7_readWord wsX7_here := goodIn_r _ [9, 1, 10, 11, 25, 26, 27, 28, 29, 30, 31, 32, 33, 34, 35, 36, 37] (by decide +kernel) (by decide +kernel)
set_option maxRecDepth 20000 in
theorem gX7_readWord_X7_here : GoodIn wsX7_readWord (wsV RX7 223 RX7 yX7_here wsX7_here) := goodIn_app (goodIn_of _ (by decide +kernel)) ggX7_readWord_X7_here
set_option maxRecDepth 20000 in
theorem ggX7_readWord_X7_in : GoodIn wsX7_readWord wsX7_in := goodIn_r _ [14] (by decide +kernel) (by decide +kernel)
set_option maxRecDepth 20000 in
theorem gX7_readWord_X7_in : GoodIn wsX7_readWord (va_wsS RX7 113 yX7_in wsX7_in) := goodIn_app (goodIn_of _ (by decide +kernel)) ggX7_readWord_X7_in
set_option maxRecDepth 20000 in
theorem ggX7_readWord_X7_meaning : GoodIn wsX7_readWord wsX7_meaning := goodIn_r _ [17, 18, 19, 20, 21, 22, 23, 24] (by decide +kernel) (by decide +kernel)
set_option maxRecDepth 20000 in
theorem gX7_readWord_X7_meaning : GoodIn wsX7_readWord (va_wsS RX7 244 yX7_meaning wsX7_meaning) := goodIn_app (goodIn_of _ (by decide +kernel)) ggX7_readWord_X7_meaning
theorem dX7_readWord_0 : decode cX7_readWord 0 = .ok (.aload_n 0, 1) := by decide +kernel
theorem dX7_readWord_1 : decode cX7_readWord 1 = .ok (.getfield 220, 3) := by decide +kernel
theorem dX7_readWord_4 : decode cX7_readWord 4 = .ok (.istore_n 1, 1) := by decide +kernel
theorem dX7_readWord_5 : decode cX7_readWord 5 = .ok (.lconst 0, 1) := by decide +kernel
theorem dX7_readWord_6 : decode cX7_readWord 6 = .ok (.lstore_n 2, 1) := by decide +kernel
theorem dX7_readWord_7 : decode cX7_readWord 7 = .ok (.aload_n 0, 1) := by decide +kernel
theorem dX7_readWord_8 : decode cX7_readWord 8 = .ok (.invokevirtual 223, 3) := by decide +kernel
theorem dX7_readWord_11 : decode cX7_readWord 11 = .ok (.bipush 97, 2) := by decide +kernel
theorem dX7_readWord_13 : decode cX7_readWord 13 = .ok (.bipush 122, 2) := by decide +kernel
theorem dX7_readWord_15 : decode cX7_readWord 15 = .ok (.invokestatic 113, 3) := by decide +kernel
theorem dX7_readWord_18 : decode cX7_readWord 18 = .ok (.ifCond .eq 47, 3) := by decide +kernel
theorem dX7_readWord_21 : decode cX7_readWord 21 = .ok (.aload_n 0, 1) := by decide +kernel
theorem dX7_readWord_22 : decode cX7_readWord 22 = .ok (.getfield 220, 3) := by decide +kernel
theorem dX7_readWord_25 : decode cX7_readWord 25 = .ok (.iload_n 1, 1) := by decide +kernel
theorem dX7_readWord_26 : decode cX7_readWord 26 = .ok (.bipush 6, 2) := by decide +kernel
theorem dX7_readWord_28 : decode cX7_readWord 28 = .ok (.iadd, 1) := by decide +kernel
theorem dX7_readWord_29 : decode cX7_readWord 29 = .ok (.if_icmp .ge 21, 3) := by decide +kernel
theorem dX7_readWord_32 : decode cX7_readWord 32 = .ok (.ldc2_w 240, 3) := by decide +kernel
theorem dX7_readWord_35 : decode cX7_readWord 35 = .ok (.lload_n 2, 1) := by decide +kernel
theorem dX7_readWord_36 : decode cX7_readWord 36 = .ok (.lmul, 1) := by decide +kernel
theorem dX7_readWord_37 : decode cX7_readWord 37 = .ok (.aload_n 0, 1) := by decide +kernel
theorem dX7_readWord_38 : decode cX7_readWord 38 = .ok (.invokevirtual 223, 3) := by decide +kernel
theorem dX7_readWord_41 : decode cX7_readWord 41 = .ok (.i2l, 1) := by decide +kernel
theorem dX7_readWord_42 : decode cX7_readWord 42 = .ok (.ladd, 1) := by decide +kernel
theorem dX7_readWord_43 : decode cX7_readWord 43 = .ok (.ldc2_w 242, 3) := by decide +kernel
theorem dX7_readWord_46 : decode cX7_readWord 46 = .ok (.lsub, 1) := by decide +kernel
theorem dX7_readWord_47 : decode cX7_readWord 47 = .ok (.goto 4, 3) := by decide +kernel
theorem dX7_readWord_50 : decode cX7_readWord 50 = .ok (.lconst 0, 1) := by decide +kernel
theorem dX7_readWord_51 : decode cX7_readWord 51 = .ok (.lstore_n 2, 1) := by decide +kernel
theorem dX7_readWord_52 : decode cX7_readWord 52 = .ok (.aload_n 0, 1) := by decide +kernel
theorem dX7_readWord_53 : decode cX7_readWord 53 = .ok (.dup, 1) := by decide +kernel
theorem dX7_readWord_54 : decode cX7_readWord 54 = .ok (.getfield 220, 3) := by decide +kernel
theorem dX7_readWord_57 : decode cX7_readWord 57 = .ok (.iconst 1, 1) := by decide +kernel
theorem dX7_readWord_58 : decode cX7_readWord 58 = .ok (.iadd, 1) := by decide +kernel
theorem dX7_readWord_59 : decode cX7_readWord 59 = .ok (.putfield 220, 3) := by decide +kernel
theorem dX7_readWord_62 : decode cX7_readWord 62 = .ok (.goto (-55), 3) := by decide +kernel
theorem dX7_readWord_65 : decode cX7_readWord 65 = .ok (.aload_n 0, 1) := by decide +kernel
theorem dX7_readWord_66 : decode cX7_readWord 66 = .ok (.lload_n 2, 1) := by decide +kernel
theorem dX7_readWord_67 : decode cX7_readWord 67 = .ok (.invokestatic 244, 3) := by decide +kernel
theorem dX7_readWord_70 : decode cX7_readWord 70 = .ok (.putfield 248, 3) := by decide +kernel
theorem dX7_readWord_73 : decode cX7_readWord 73 = .ok (.aload_n 0, 1) := by decide +kernel
theorem dX7_readWord_74 : decode cX7_readWord 74 = .ok (.aload_n 0, 1) := by decide +kernel
theorem dX7_readWord_75 : decode cX7_readWord 75 = .ok (.getfield 248, 3) := by decide +kernel
theorem dX7_readWord_78 : decode cX7_readWord 78 = .ok (.ifCond .ne 7, 3) := by decide +kernel
theorem dX7_readWord_81 : decode cX7_readWord 81 = .ok (.iload_n 1, 1) := by decide +kernel
theorem dX7_readWord_82 : decode cX7_readWord 82 = .ok (.goto 7, 3) := by decide +kernel
theorem dX7_readWord_85 : decode cX7_readWord 85 = .ok (.aload_n 0, 1) := by decide +kernel
theorem dX7_readWord_86 : decode cX7_readWord 86 = .ok (.getfield 220, 3) := by decide +kernel
theorem dX7_readWord_89 : decode cX7_readWord 89 = .ok (.putfield 220, 3) := by decide +kernel
theorem dX7_readWord_92 : decode cX7_readWord 92 = .ok (.aload_n 0, 1) := by decide +kernel
theorem dX7_readWord_93 : decode cX7_readWord 93 = .ok (.getfield 248, 3) := by decide +kernel
theorem dX7_readWord_96 : decode cX7_readWord 96 = .ok (.ifCond .eq 7, 3) := by decide +kernel
theorem dX7_readWord_99 : decode cX7_readWord 99 = .ok (.iconst 1, 1) := by decide +kernel
theorem dX7_readWord_100 : decode cX7_readWord 100 = .ok (.goto 4, 3) := by decide +kernel
theorem dX7_readWord_103 : decode cX7_readWord 103 = .ok (.iconst 0, 1) := by decide +kernel
theorem dX7_readWord_104 : decode cX7_readWord 104 = .ok (.ireturn, 1) := by decide +kernel
set_option maxRecDepth 20000 in
theorem ggX7_readNumber_X7_here : GoodIn wsX7_readNumber wsX7_here := goodIn_r _ [7, 1, 8, 9, 17, 18, 19, 20, 21, 22, 23, 24, 25, 26, 27, 28, 29] (by decide +kernel) (by decide +kernel)
set_option maxRecDepth 20000 in
theorem gX7_readNumber_X7_here : GoodIn wsX7_readNumber (wsV RX7 223 RX7 yX7_here wsX7_here) := goodIn_app (goodIn_of _ (by decide +kernel)) ggX7_readNumber_X7_here
set_option maxRecDepth 20000 in
theorem ggX7_readNumber_X7_spaces : GoodIn wsX7_readNumber wsX7_spaces := goodIn_r _ [13, 1, 3, 4, 5, 6, 7, 8, 9, 17, 18, 19, 20, 21, 22, 23, 24, 25, 26, 27, 28, 29] (by decide +kernel) (by decide +kernel)
set_option maxRecDepth 20000 in
theorem gX7_readNumber_X7_spaces : GoodIn wsX7_readNumber (wsV RX7 251 RX7 yX7_spaces wsX7_spaces) := goodIn_app (goodIn_of _ (by decide +kernel)) ggX7_readNumber_X7_spaces
set_option maxRecDepth 20000 in
theorem ggX7_readNumber_X7_in : GoodIn wsX7_readNumber wsX7_in := goodIn_r _ [16] (by decide +kernel) (by decide +kernel)
set_option maxRecDepth 20000 in
theorem gX7_readNumber_X7_in : GoodIn wsX7_readNumber (va_wsS RX7 113 yX7_in wsX7_in) := goodIn_app (goodIn_of _ (by decide +kernel)) ggX7_readNumber_X7_in
theorem dX7_readNumber_0 : decode cX7_readNumber 0 = .ok (.aload_n 0, 1) := by decide +kernel
theorem dX7_readNumber_1 : decode cX7_readNumber 1 = .ok (.invokevirtual 223, 3) := by decide +kernel
theorem dX7_readNumber_4 : decode cX7_readNumber 4 = .ok (.bipush 32, 2) := by decide +kernel
theorem dX7_readNumber_6 : decode cX7_readNumber 6 = .ok (.if_icmp .eq 5, 3) := by decide +kernel
theorem dX7_readNumber_9 : decode cX7_readNumber 9 = .ok (.iconst 0, 1) := by decide +kernel
theorem dX7_readNumber_10 : decode cX7_readNumber 10 = .ok (.ireturn, 1) := by decide +kernel
theorem dX7_readNumber_11 : decode cX7_readNumber 11 = .ok (.aload_n 0, 1) := by decide +kernel
theorem dX7_readNumber_12 : decode cX7_readNumber 12 = .ok (.invokevirtual 251, 3) := by decide +kernel
theorem dX7_readNumber_15 : decode cX7_readNumber 15 = .ok (.aload_n 0, 1) := by decide +kernel
theorem dX7_readNumber_16 : decode cX7_readNumber 16 = .ok (.getfield 220, 3) := by decide +kernel
theorem dX7_readNumber_19 : decode cX7_readNumber 19 = .ok (.istore_n 2, 1) := by decide +kernel
theorem dX7_readNumber_20 : decode cX7_readNumber 20 = .ok (.aload_n 0, 1) := by decide +kernel
theorem dX7_readNumber_21 : decode cX7_readNumber 21 = .ok (.getfield 25, 3) := by decide +kernel
theorem dX7_readNumber_24 : decode cX7_readNumber 24 = .ok (.iload_n 1, 1) := by decide +kernel
theorem dX7_readNumber_25 : decode cX7_readNumber 25 = .ok (.iconst 0, 1) := by decide +kernel
theorem dX7_readNumber_26 : decode cX7_readNumber 26 = .ok (.iastore, 1) := by decide +kernel
theorem dX7_readNumber_27 : decode cX7_readNumber 27 = .ok (.aload_n 0, 1) := by decide +kernel
theorem dX7_readNumber_28 : decode cX7_readNumber 28 = .ok (.invokevirtual 223, 3) := by decide +kernel
theorem dX7_readNumber_31 : decode cX7_readNumber 31 = .ok (.bipush 48, 2) := by decide +kernel
theorem dX7_readNumber_33 : decode cX7_readNumber 33 = .ok (.bipush 57, 2) := by decide +kernel
theorem dX7_readNumber_35 : decode cX7_readNumber 35 = .ok (.invokestatic 113, 3) := by decide +kernel
theorem dX7_readNumber_38 : decode cX7_readNumber 38 = .ok (.ifCond .eq 49, 3) := by decide +kernel
theorem dX7_readNumber_41 : decode cX7_readNumber 41 = .ok (.aload_n 0, 1) := by decide +kernel
theorem dX7_readNumber_42 : decode cX7_readNumber 42 = .ok (.getfield 220, 3) := by decide +kernel
theorem dX7_readNumber_45 : decode cX7_readNumber 45 = .ok (.iload_n 2, 1) := by decide +kernel
theorem dX7_readNumber_46 : decode cX7_readNumber 46 = .ok (.iconst 3, 1) := by decide +kernel
theorem dX7_readNumber_47 : decode cX7_readNumber 47 = .ok (.iadd, 1) := by decide +kernel
theorem dX7_readNumber_48 : decode cX7_readNumber 48 = .ok (.if_icmp .ge 39, 3) := by decide +kernel
theorem dX7_readNumber_51 : decode cX7_readNumber 51 = .ok (.aload_n 0, 1) := by decide +kernel
theorem dX7_readNumber_52 : decode cX7_readNumber 52 = .ok (.getfield 25, 3) := by decide +kernel
theorem dX7_readNumber_55 : decode cX7_readNumber 55 = .ok (.iload_n 1, 1) := by decide +kernel
theorem dX7_readNumber_56 : decode cX7_readNumber 56 = .ok (.bipush 10, 2) := by decide +kernel
theorem dX7_readNumber_58 : decode cX7_readNumber 58 = .ok (.aload_n 0, 1) := by decide +kernel
theorem dX7_readNumber_59 : decode cX7_readNumber 59 = .ok (.getfield 25, 3) := by decide +kernel
theorem dX7_readNumber_62 : decode cX7_readNumber 62 = .ok (.iload_n 1, 1) := by decide +kernel
theorem dX7_readNumber_63 : decode cX7_readNumber 63 = .ok (.iaload, 1) := by decide +kernel
theorem dX7_readNumber_64 : decode cX7_readNumber 64 = .ok (.imul, 1) := by decide +kernel
theorem dX7_readNumber_65 : decode cX7_readNumber 65 = .ok (.aload_n 0, 1) := by decide +kernel
theorem dX7_readNumber_66 : decode cX7_readNumber 66 = .ok (.invokevirtual 223, 3) := by decide +kernel
theorem dX7_readNumber_69 : decode cX7_readNumber 69 = .ok (.iadd, 1) := by decide +kernel
theorem dX7_readNumber_70 : decode cX7_readNumber 70 = .ok (.bipush 48, 2) := by decide +kernel
theorem dX7_readNumber_72 : decode cX7_readNumber 72 = .ok (.isub, 1) := by decide +kernel
theorem dX7_readNumber_73 : decode cX7_readNumber 73 = .ok (.iastore, 1) := by decide +kernel
theorem dX7_readNumber_74 : decode cX7_readNumber 74 = .ok (.aload_n 0, 1) := by decide +kernel
theorem dX7_readNumber_75 : decode cX7_readNumber 75 = .ok (.dup, 1) := by decide +kernel
theorem dX7_readNumber_76 : decode cX7_readNumber 76 = .ok (.getfield 220, 3) := by decide +kernel
theorem dX7_readNumber_79 : decode cX7_readNumber 79 = .ok (.iconst 1, 1) := by decide +kernel
theorem dX7_readNumber_80 : decode cX7_readNumber 80 = .ok (.iadd, 1) := by decide +kernel
theorem dX7_readNumber_81 : decode cX7_readNumber 81 = .ok (.putfield 220, 3) := by decide +kernel
theorem dX7_readNumber_84 : decode cX7_readNumber 84 = .ok (.goto (-57), 3) := by decide +kernel
theorem dX7_readNumber_87 : decode cX7_readNumber 87 = .ok (.aload_n 0, 1) := by decide +kernel
theorem dX7_readNumber_88 : decode cX7_readNumber 88 = .ok (.getfield 220, 3) := by decide +kernel
theorem dX7_readNumber_91 : decode cX7_readNumber 91 = .ok (.iload_n 2, 1) := by decide +kernel
theorem dX7_readNumber_92 : decode cX7_readNumber 92 = .ok (.if_icmp .le 7, 3) := by decide +kernel
theorem dX7_readNumber_95 : decode cX7_readNumber 95 = .ok (.iconst 1, 1) := by decide +kernel
theorem dX7_readNumber_96 : decode cX7_readNumber 96 = .ok (.goto 4, 3) := by decide +kernel
theorem dX7_readNumber_99 : decode cX7_readNumber 99 = .ok (.iconst 0, 1) := by decide +kernel
theorem dX7_readNumber_100 : decode cX7_readNumber 100 = .ok (.ireturn, 1) := by decide +kernel
set_option maxRecDepth 20000 in
theorem ggX7_readCommand_X7_readWord : GoodIn wsX7_readCommand wsX7_readWord := goodIn_r _ [7, 2, 8, 9, 1, 10, 11, 12, 6, 13, 14, 15, 16, 17, 18, 19, 20, 21, 22, 23, 24, 25, 26, 27, 28, 38, 39, 40, 41, 42, 43, 44, 45, 46, 47, 48, 49, 50] (by decide +kernel) (by decide +kernel)
set_option maxRecDepth 20000 in
theorem gX7_readCommand_X7_readWord : GoodIn wsX7_readCommand (wsV RX7 254 RX7 yX7_readWord wsX7_readWord) := goodIn_app (goodIn_of _ (by decide +kernel)) ggX7_readCommand_X7_readWord
set_option maxRecDepth 20000 in
theorem ggX7_readCommand_X7_readNumber : GoodIn wsX7_readCommand wsX7_readNumber := goodIn_r _ [32, 2, 33, 10, 11, 12, 6, 13, 14, 15, 34, 35, 36, 37, 16, 17, 18, 38, 39, 40, 41, 42, 43, 44, 45, 46, 47, 48, 49, 50] (by decide +kernel) (by decide +kernel)
set_option maxRecDepth 20000 in
theorem gX7_readCommand_X7_readNumber : GoodIn wsX7_readCommand (wsV RX7 258 RX7 yX7_readNumber wsX7_readNumber) := goodIn_app (goodIn_of _ (by decide +kernel)) ggX7_readCommand_X7_readNumber
set_option maxRecDepth 20000 in
theorem ggX7_readCommand_X7_spaces : GoodIn wsX7_readCommand wsX7_spaces := goodIn_r _ [37, 2, 10, 11, 12, 6, 13, 14, 15, 38, 39, 40, 41, 42, 43, 44, 45, 46, 47, 48, 49, 50] (by decide +kernel) (by decide +kernel)
set_option maxRecDepth 20000 in
theorem gX7_readCommand_X7_spaces : GoodIn wsX7_readCommand (wsV RX7 251 RX7 yX7_spaces wsX7_spaces) := goodIn_app (goodIn_of _ (by decide +kernel)) ggX7_readCommand_X7_spaces
set_option maxRecDepth 20000 in
theorem ggX7_readCommand_X7_here : GoodIn wsX7_readCommand wsX7_here := goodIn_r _ [13, 2, 14, 15, 38, 39, 40, 41, 42, 43, 44, 45, 46, 47, 48, 49, 50] (by decide +kernel) (by decide +kernel)
set_option maxRecDepth 20000 in
theorem gX7_readCommand_X7_here : GoodIn wsX7_readCommand (wsV RX7 223 RX7 yX7_here wsX7_here) := goodIn_app (goodIn_of _ (by decide +kernel)) ggX7_readCommand_X7_here
