theorem dX6_runCommands_35 : decode cX6_runCommands 35 = .ok (.invokevirtual 158, 3) := by decide +kernel
theorem dX6_runCommands_38 : decode cX6_runCommands 38 = .ok (.iconst 0, 1) := by decide +kernel
theorem dX6_runCommands_39 : decode cX6_runCommands 39 = .ok (.istore_n 2, 1) := by decide +kernel
theorem dX6_runCommands_40 : decode cX6_runCommands 40 = .ok (.iload_n 2, 1) := by decide +kernel
theorem dX6_runCommands_41 : decode cX6_runCommands 41 = .ok (.sipush 150, 3) := by decide +kernel
theorem dX6_runCommands_44 : decode cX6_runCommands 44 = .ok (.if_icmp .ge 44, 3) := by decide +kernel
theorem dX6_runCommands_47 : decode cX6_runCommands 47 = .ok (.aload_n 0, 1) := by decide +kernel
theorem dX6_runCommands_48 : decode cX6_runCommands 48 = .ok (.getfield 26, 3) := by decide +kernel
theorem dX6_runCommands_51 : decode cX6_runCommands 51 = .ok (.invokevirtual 161, 3) := by decide +kernel
theorem dX6_runCommands_54 : decode cX6_runCommands 54 = .ok (.ifCond .eq 34, 3) := by decide +kernel
theorem dX6_runCommands_57 : decode cX6_runCommands 57 = .ok (.aload_n 0, 1) := by decide +kernel
theorem dX6_runCommands_58 : decode cX6_runCommands 58 = .ok (.aload_n 0, 1) := by decide +kernel
theorem dX6_runCommands_59 : decode cX6_runCommands 59 = .ok (.getfield 26, 3) := by decide +kernel
theorem dX6_runCommands_62 : decode cX6_runCommands 62 = .ok (.getfield 165, 3) := by decide +kernel
theorem dX6_runCommands_65 : decode cX6_runCommands 65 = .ok (.invokevirtual 169, 3) := by decide +kernel
theorem dX6_runCommands_68 : decode cX6_runCommands 68 = .ok (.ifCond .ne 20, 3) := by decide +kernel
theorem dX6_runCommands_71 : decode cX6_runCommands 71 = .ok (.aload_n 0, 1) := by decide +kernel
theorem dX6_runCommands_72 : decode cX6_runCommands 72 = .ok (.aload_n 0, 1) := by decide +kernel
theorem dX6_runCommands_73 : decode cX6_runCommands 73 = .ok (.getfield 26, 3) := by decide +kernel
theorem dX6_runCommands_76 : decode cX6_runCommands 76 = .ok (.getfield 165, 3) := by decide +kernel
theorem dX6_runCommands_79 : decode cX6_runCommands 79 = .ok (.invokevirtual 173, 3) := by decide +kernel
theorem dX6_runCommands_82 : decode cX6_runCommands 82 = .ok (.iinc 2 1, 3) := by decide +kernel
theorem dX6_runCommands_85 : decode cX6_runCommands 85 = .ok (.goto (-45), 3) := by decide +kernel
theorem dX6_runCommands_88 : decode cX6_runCommands 88 = .ok (.iload_n 2, 1) := by decide +kernel
theorem dX6_runCommands_89 : decode cX6_runCommands 89 = .ok (.ireturn, 1) := by decide +kernel
set_option maxRecDepth 20000 in
theorem ggX6_undo_X6_refuse : GoodIn wsX6_undo wsX6_refuse := goodIn_ca (goodIn_ca (goodIn_ca (goodIn_r _ [6, 7, 8, 9, 10, 11, 12] (by decide +kernel) (by decide +kernel)) (goodIn_sub (fun _ h => List.mem_cons_of_mem _ (List.mem_append_left _ (List.mem_append_left _ (List.mem_append_right _ h)))) (by decide +kernel))) (goodIn_sub (fun _ h => List.mem_cons_of_mem _ (List.mem_append_left _ (List.mem_append_right _ h))) (by decide +kernel))) (goodIn_sub (fun _ h => List.mem_cons_of_mem _ (List.mem_append_right _ h)) (by decide +kernel))
set_option maxRecDepth 20000 in
theorem gX6_undo_X6_refuse : GoodIn wsX6_undo (va_wsS RX6 34 yX6_refuse wsX6_refuse) := goodIn_app (goodIn_of _ (by decide +kernel)) ggX6_undo_X6_refuse
set_option maxRecDepth 20000 in
theorem ggX6_undo_X5_restore : GoodIn wsX6_undo wsX5_restore := goodIn_r _ [17, 18, 19, 20, 21, 22, 16, 23, 24, 25, 26, 27, 28, 29, 30, 31, 32, 33, 34, 35, 36, 37, 38, 39, 40, 41, 42, 43, 44, 45, 46, 47, 48, 49, 50, 51, 52, 53, 54, 5, 55, 59, 60, 61, 62, 63, 64, 65, 66, 67, 68, 69, 70, 71, 72, 73, 74, 75, 76, 77, 78, 79, 80] (by decide +kernel) (by decide +kernel)
set_option maxRecDepth 20000 in
theorem gX6_undo_X5_restore : GoodIn wsX6_undo (wsV RX6 180 RX5 yX5_restore wsX5_restore) := goodIn_app (goodIn_of _ (by decide +kernel)) ggX6_undo_X5_restore
theorem dX6_undo_0 : decode cX6_undo 0 = .ok (.aload_n 0, 1) := by decide +kernel
theorem dX6_undo_1 : decode cX6_undo 1 = .ok (.getfield 19, 3) := by decide +kernel
theorem dX6_undo_4 : decode cX6_undo 4 = .ok (.getfield 177, 3) := by decide +kernel
theorem dX6_undo_7 : decode cX6_undo 7 = .ok (.ifCond .le 7, 3) := by decide +kernel
theorem dX6_undo_10 : decode cX6_undo 10 = .ok (.iconst 0, 1) := by decide +kernel
theorem dX6_undo_11 : decode cX6_undo 11 = .ok (.goto 4, 3) := by decide +kernel
theorem dX6_undo_14 : decode cX6_undo 14 = .ok (.iconst 3, 1) := by decide +kernel
theorem dX6_undo_15 : decode cX6_undo 15 = .ok (.invokestatic 34, 3) := by decide +kernel
theorem dX6_undo_18 : decode cX6_undo 18 = .ok (.aload_n 0, 1) := by decide +kernel
theorem dX6_undo_19 : decode cX6_undo 19 = .ok (.getfield 19, 3) := by decide +kernel
theorem dX6_undo_22 : decode cX6_undo 22 = .ok (.aload_n 0, 1) := by decide +kernel
theorem dX6_undo_23 : decode cX6_undo 23 = .ok (.getfield 12, 3) := by decide +kernel
theorem dX6_undo_26 : decode cX6_undo 26 = .ok (.invokevirtual 180, 3) := by decide +kernel
theorem dX6_undo_29 : decode cX6_undo 29 = .ok (.ireturn, 1) := by decide +kernel
set_option maxRecDepth 20000 in
theorem ggX6_digest_X6_mixed : GoodIn wsX6_digest wsX6_mixed := goodIn_r _ [6, 7] (by decide +kernel) (by decide +kernel)
set_option maxRecDepth 20000 in
theorem gX6_digest_X6_mixed : GoodIn wsX6_digest (va_wsS RX6 186 yX6_mixed wsX6_mixed) := goodIn_app (goodIn_of _ (by decide +kernel)) ggX6_digest_X6_mixed
set_option maxRecDepth 20000 in
theorem ggX6_digest_X6_whole : GoodIn wsX6_digest wsX6_whole := goodIn_ca (goodIn_ca (goodIn_ca (goodIn_r _ [11, 12, 13, 14, 15, 5, 16, 17, 18, 19, 20, 21, 22, 23, 24, 25, 26, 27, 28, 29, 30, 31, 32, 33, 34, 35, 36, 37, 38, 39, 40, 41, 42, 43, 44, 45, 46, 47, 48, 49, 50, 51, 52, 53, 54, 55, 56, 57, 58, 59, 60, 61, 62, 63, 64, 65, 66, 67, 68, 69, 70, 71, 72, 73, 74, 75, 76, 77, 78, 79, 80, 81, 82, 83, 84, 85, 86, 87, 88, 89, 90, 91, 92, 93, 94, 95, 96, 97, 98, 99, 100, 101, 102, 103, 104, 105, 106, 107, 108, 109, 110, 111, 112, 113, 114, 115, 116, 117, 118, 119, 120, 121, 122, 123, 124, 125, 126, 127, 128, 218, 219, 220, 224, 225, 226, 227, 228, 229, 230, 231, 232, 233, 234, 235, 236, 237, 238, 239, 240, 241, 242, 243, 244, 245, 246, 247, 248, 249] (by decide +kernel) (by decide +kernel)) (goodIn_sub (fun _ h => List.mem_cons_of_mem _ (List.mem_append_left _ (List.mem_append_left _ (List.mem_append_right _ h)))) (by decide +kernel))) (goodIn_sub (fun _ h => List.mem_cons_of_mem _ (List.mem_append_left _ (List.mem_append_right _ h))) (by decide +kernel))) (goodIn_sub (fun _ h => List.mem_cons_of_mem _ (List.mem_append_right _ h)) (by decide +kernel))
set_option maxRecDepth 20000 in
theorem gX6_digest_X6_whole : GoodIn wsX6_digest (wsV RX6 190 RX6 yX6_whole wsX6_whole) := goodIn_app (goodIn_of _ (by decide +kernel)) ggX6_digest_X6_whole
set_option maxRecDepth 20000 in
theorem ggX6_digest_X6_withRoots : GoodIn wsX6_digest wsX6_withRoots := goodIn_r _ [132, 13, 133, 134, 135, 29, 136, 53, 76, 52, 81, 5, 82, 77, 78, 79, 80, 41, 42, 3, 4, 6, 7, 218, 219, 220, 231, 232, 233, 234, 235, 236, 237, 238, 239, 240] (by decide +kernel) (by decide +kernel)
set_option maxRecDepth 20000 in
theorem gX6_digest_X6_withRoots : GoodIn wsX6_digest (wsV RX6 193 RX6 yX6_withRoots wsX6_withRoots) := goodIn_app (goodIn_of _ (by decide +kernel)) ggX6_digest_X6_withRoots
set_option maxRecDepth 20000 in
theorem ggX6_digest_X6_withReaders : GoodIn wsX6_digest wsX6_withReaders := goodIn_r _ [140, 13, 141, 142, 143, 29, 144, 58, 145, 31, 102, 103, 104, 105, 81, 5, 82, 83, 84, 85, 38, 86, 87, 88, 89, 90, 91, 92, 93, 94, 95, 96, 3, 4, 6, 7, 218, 219, 220, 231, 232, 233, 234, 235, 236, 237, 238, 239, 240, 241, 242, 243, 244, 245, 246, 247, 248, 249] (by decide +kernel) (by decide +kernel)
set_option maxRecDepth 20000 in
theorem gX6_digest_X6_withReaders : GoodIn wsX6_digest (wsV RX6 197 RX6 yX6_withReaders wsX6_withReaders) := goodIn_app (goodIn_of _ (by decide +kernel)) ggX6_digest_X6_withReaders
set_option maxRecDepth 20000 in
theorem ggX6_digest_X6_withBeds : GoodIn wsX6_digest wsX6_withBeds := goodIn_r _ [149, 13, 150, 151, 152, 29, 153, 31, 43, 44, 45, 46, 47, 48, 49, 50, 51, 52, 53, 54, 55, 56, 57, 58, 154, 155, 156, 38, 157, 40, 158, 91, 67, 110, 81, 5, 82, 63, 64, 65, 66, 41, 42, 3, 4, 6, 7, 218, 219, 220, 231, 232, 233, 234, 235, 236, 237, 238, 239, 240, 241, 242, 243, 244, 245, 246, 247, 248, 249] (by decide +kernel) (by decide +kernel)
set_option maxRecDepth 20000 in
theorem gX6_digest_X6_withBeds : GoodIn wsX6_digest (wsV RX6 200 RX6 yX6_withBeds wsX6_withBeds) := goodIn_app (goodIn_of _ (by decide +kernel)) ggX6_digest_X6_withBeds
set_option maxRecDepth 20000 in
theorem ggX6_digest_X6_withEntries : GoodIn wsX6_digest wsX6_withEntries := goodIn_r _ [162, 13, 163, 69, 70, 29, 71, 31, 72, 73, 74, 75, 76, 77, 78, 79, 80, 52, 53, 81, 5, 82, 83, 84, 85, 38, 86, 87, 88, 89, 90, 91, 92, 93, 94, 95, 96, 164, 165, 166, 167, 168, 169, 170, 171, 172, 173, 174, 175, 176, 177, 178, 179, 180, 124, 125, 126, 127, 128, 3, 4, 6, 7, 218, 219, 220, 231, 232, 233, 234, 235, 236, 237, 238, 239, 240, 241, 242, 243, 244, 245, 246, 247, 248, 249] (by decide +kernel) (by decide +kernel)
set_option maxRecDepth 20000 in
theorem gX6_digest_X6_withEntries : GoodIn wsX6_digest (wsV RX6 203 RX6 yX6_withEntries wsX6_withEntries) := goodIn_app (goodIn_of _ (by decide +kernel)) ggX6_digest_X6_withEntries
set_option maxRecDepth 20000 in
theorem ggX6_digest_X6_nextBed : GoodIn wsX6_digest wsX6_nextBed := goodIn_r _ [184, 13, 185, 186, 187, 29, 188, 31, 43, 44, 45, 46, 47, 48, 49, 50, 51, 52, 53, 54, 55, 56, 57, 58, 189, 190, 191, 38, 192, 67, 63, 64, 65, 66, 40, 193, 194, 195, 196, 218, 219, 220, 231, 232, 233, 234, 235, 236, 237, 238, 239, 240, 241, 242, 243, 244, 245, 246, 247, 248, 249] (by decide +kernel) (by decide +kernel)
set_option maxRecDepth 20000 in
theorem gX6_digest_X6_nextBed : GoodIn wsX6_digest (wsV RX6 206 RX6 yX6_nextBed wsX6_nextBed) := goodIn_app (goodIn_of _ (by decide +kernel)) ggX6_digest_X6_nextBed
set_option maxRecDepth 20000 in
theorem ggX6_digest_X6_withDraft : GoodIn wsX6_digest wsX6_withDraft := goodIn_r _ [200, 13, 201, 202, 203, 29, 204, 31, 205, 206, 207, 208, 38, 209, 210, 211, 212, 213, 87, 88, 89, 90, 91, 92, 93, 94, 95, 96, 176, 177, 178, 179, 180, 214, 215, 216, 217, 124, 125, 126, 127, 128, 3, 4, 5, 6, 7, 218, 219, 220, 231, 232, 233, 234, 235, 236, 237, 238, 239, 240, 241, 242, 243, 244, 245, 246, 247, 248, 249] (by decide +kernel) (by decide +kernel)
set_option maxRecDepth 20000 in
theorem gX6_digest_X6_withDraft : GoodIn wsX6_digest (wsV RX6 209 RX6 yX6_withDraft wsX6_withDraft) := goodIn_app (goodIn_of _ (by decide +kernel)) ggX6_digest_X6_withDraft
theorem dX6_digest_0 : decode cX6_digest 0 = .ok (.ldc2_w 184, 3) := by decide +kernel
theorem dX6_digest_3 : decode cX6_digest 3 = .ok (.aload_n 0, 1) := by decide +kernel
theorem dX6_digest_4 : decode cX6_digest 4 = .ok (.getfield 19, 3) := by decide +kernel
theorem dX6_digest_7 : decode cX6_digest 7 = .ok (.getfield 177, 3) := by decide +kernel
theorem dX6_digest_10 : decode cX6_digest 10 = .ok (.i2l, 1) := by decide +kernel
theorem dX6_digest_11 : decode cX6_digest 11 = .ok (.invokestatic 186, 3) := by decide +kernel
theorem dX6_digest_14 : decode cX6_digest 14 = .ok (.lstore_n 1, 1) := by decide +kernel
theorem dX6_digest_15 : decode cX6_digest 15 = .ok (.iconst 0, 1) := by decide +kernel
theorem dX6_digest_16 : decode cX6_digest 16 = .ok (.istore_n 3, 1) := by decide +kernel
theorem dX6_digest_17 : decode cX6_digest 17 = .ok (.iload_n 3, 1) := by decide +kernel
theorem dX6_digest_18 : decode cX6_digest 18 = .ok (.bipush 15, 2) := by decide +kernel
theorem dX6_digest_20 : decode cX6_digest 20 = .ok (.if_icmp .ge 20, 3) := by decide +kernel
theorem dX6_digest_23 : decode cX6_digest 23 = .ok (.lload_n 1, 1) := by decide +kernel
theorem dX6_digest_24 : decode cX6_digest 24 = .ok (.aload_n 0, 1) := by decide +kernel
theorem dX6_digest_25 : decode cX6_digest 25 = .ok (.iload_n 3, 1) := by decide +kernel
theorem dX6_digest_26 : decode cX6_digest 26 = .ok (.invokevirtual 190, 3) := by decide +kernel
theorem dX6_digest_29 : decode cX6_digest 29 = .ok (.i2l, 1) := by decide +kernel
theorem dX6_digest_30 : decode cX6_digest 30 = .ok (.invokestatic 186, 3) := by decide +kernel
theorem dX6_digest_33 : decode cX6_digest 33 = .ok (.lstore_n 1, 1) := by decide +kernel
theorem dX6_digest_34 : decode cX6_digest 34 = .ok (.iinc 3 1, 3) := by decide +kernel
theorem dX6_digest_37 : decode cX6_digest 37 = .ok (.goto (-20), 3) := by decide +kernel
theorem dX6_digest_40 : decode cX6_digest 40 = .ok (.aload_n 0, 1) := by decide +kernel
theorem dX6_digest_41 : decode cX6_digest 41 = .ok (.lload_n 1, 1) := by decide +kernel
theorem dX6_digest_42 : decode cX6_digest 42 = .ok (.invokevirtual 193, 3) := by decide +kernel
theorem dX6_digest_45 : decode cX6_digest 45 = .ok (.lstore_n 1, 1) := by decide +kernel
theorem dX6_digest_46 : decode cX6_digest 46 = .ok (.aload_n 0, 1) := by decide +kernel
theorem dX6_digest_47 : decode cX6_digest 47 = .ok (.lload_n 1, 1) := by decide +kernel
theorem dX6_digest_48 : decode cX6_digest 48 = .ok (.invokevirtual 197, 3) := by decide +kernel
theorem dX6_digest_51 : decode cX6_digest 51 = .ok (.lstore_n 1, 1) := by decide +kernel
theorem dX6_digest_52 : decode cX6_digest 52 = .ok (.aload_n 0, 1) := by decide +kernel
theorem dX6_digest_53 : decode cX6_digest 53 = .ok (.lload_n 1, 1) := by decide +kernel
theorem dX6_digest_54 : decode cX6_digest 54 = .ok (.invokevirtual 200, 3) := by decide +kernel
theorem dX6_digest_57 : decode cX6_digest 57 = .ok (.lstore_n 1, 1) := by decide +kernel
theorem dX6_digest_58 : decode cX6_digest 58 = .ok (.aload_n 0, 1) := by decide +kernel
theorem dX6_digest_59 : decode cX6_digest 59 = .ok (.lload_n 1, 1) := by decide +kernel
theorem dX6_digest_60 : decode cX6_digest 60 = .ok (.invokevirtual 203, 3) := by decide +kernel
theorem dX6_digest_63 : decode cX6_digest 63 = .ok (.lstore_n 1, 1) := by decide +kernel
theorem dX6_digest_64 : decode cX6_digest 64 = .ok (.lload_n 1, 1) := by decide +kernel
theorem dX6_digest_65 : decode cX6_digest 65 = .ok (.aload_n 0, 1) := by decide +kernel
theorem dX6_digest_66 : decode cX6_digest 66 = .ok (.invokevirtual 206, 3) := by decide +kernel
theorem dX6_digest_69 : decode cX6_digest 69 = .ok (.i2l, 1) := by decide +kernel
theorem dX6_digest_70 : decode cX6_digest 70 = .ok (.invokestatic 186, 3) := by decide +kernel
theorem dX6_digest_73 : decode cX6_digest 73 = .ok (.lstore_n 1, 1) := by decide +kernel
theorem dX6_digest_74 : decode cX6_digest 74 = .ok (.aload_n 0, 1) := by decide +kernel
theorem dX6_digest_75 : decode cX6_digest 75 = .ok (.lload_n 1, 1) := by decide +kernel
theorem dX6_digest_76 : decode cX6_digest 76 = .ok (.invokevirtual 209, 3) := by decide +kernel
theorem dX6_digest_79 : decode cX6_digest 79 = .ok (.lreturn, 1) := by decide +kernel
set_option maxRecDepth 20000 in
theorem ggX6_withRoots_X4_rootPart : GoodIn wsX6_withRoots wsX4_rootPart := goodIn_r _ [6, 7, 8, 9, 10, 11, 12, 13, 14, 15, 5, 16, 17, 18, 26, 27, 28, 29, 30, 31, 32, 33, 34, 35] (by decide +kernel) (by decide +kernel)
set_option maxRecDepth 20000 in
theorem gX6_withRoots_X4_rootPart : GoodIn wsX6_withRoots (wsV RX6 111 RX4 yX4_rootPart wsX4_rootPart) := goodIn_app (goodIn_of _ (by decide +kernel)) ggX6_withRoots_X4_rootPart
set_option maxRecDepth 20000 in
theorem ggX6_withRoots_X6_mixed : GoodIn wsX6_withRoots wsX6_mixed := goodIn_r _ [21, 22] (by decide +kernel) (by decide +kernel)
set_option maxRecDepth 20000 in
theorem gX6_withRoots_X6_mixed : GoodIn wsX6_withRoots (va_wsS RX6 186 yX6_mixed wsX6_mixed) := goodIn_app (goodIn_of _ (by decide +kernel)) ggX6_withRoots_X6_mixed
theorem dX6_withRoots_0 : decode cX6_withRoots 0 = .ok (.lload_n 1, 1) := by decide +kernel
theorem dX6_withRoots_1 : decode cX6_withRoots 1 = .ok (.lstore_n 3, 1) := by decide +kernel
theorem dX6_withRoots_2 : decode cX6_withRoots 2 = .ok (.iconst 0, 1) := by decide +kernel
theorem dX6_withRoots_3 : decode cX6_withRoots 3 = .ok (.istore 5, 2) := by decide +kernel
theorem dX6_withRoots_5 : decode cX6_withRoots 5 = .ok (.iload 5, 2) := by decide +kernel
theorem dX6_withRoots_7 : decode cX6_withRoots 7 = .ok (.iconst 2, 1) := by decide +kernel
theorem dX6_withRoots_8 : decode cX6_withRoots 8 = .ok (.if_icmp .ge 41, 3) := by decide +kernel
theorem dX6_withRoots_11 : decode cX6_withRoots 11 = .ok (.iconst 0, 1) := by decide +kernel
theorem dX6_withRoots_12 : decode cX6_withRoots 12 = .ok (.istore 6, 2) := by decide +kernel
theorem dX6_withRoots_14 : decode cX6_withRoots 14 = .ok (.iload 6, 2) := by decide +kernel
theorem dX6_withRoots_16 : decode cX6_withRoots 16 = .ok (.iconst 4, 1) := by decide +kernel
theorem dX6_withRoots_17 : decode cX6_withRoots 17 = .ok (.if_icmp .ge 26, 3) := by decide +kernel
theorem dX6_withRoots_20 : decode cX6_withRoots 20 = .ok (.lload_n 3, 1) := by decide +kernel
theorem dX6_withRoots_21 : decode cX6_withRoots 21 = .ok (.aload_n 0, 1) := by decide +kernel
theorem dX6_withRoots_22 : decode cX6_withRoots 22 = .ok (.getfield 12, 3) := by decide +kernel
theorem dX6_withRoots_25 : decode cX6_withRoots 25 = .ok (.iload 5, 2) := by decide +kernel
theorem dX6_withRoots_27 : decode cX6_withRoots 27 = .ok (.iload 6, 2) := by decide +kernel
theorem dX6_withRoots_29 : decode cX6_withRoots 29 = .ok (.invokevirtual 111, 3) := by decide +kernel
theorem dX6_withRoots_32 : decode cX6_withRoots 32 = .ok (.i2l, 1) := by decide +kernel
theorem dX6_withRoots_33 : decode cX6_withRoots 33 = .ok (.invokestatic 186, 3) := by decide +kernel
theorem dX6_withRoots_36 : decode cX6_withRoots 36 = .ok (.lstore_n 3, 1) := by decide +kernel
theorem dX6_withRoots_37 : decode cX6_withRoots 37 = .ok (.iinc 6 1, 3) := by decide +kernel
theorem dX6_withRoots_40 : decode cX6_withRoots 40 = .ok (.goto (-26), 3) := by decide +kernel
theorem dX6_withRoots_43 : decode cX6_withRoots 43 = .ok (.iinc 5 1, 3) := by decide +kernel
theorem dX6_withRoots_46 : decode cX6_withRoots 46 = .ok (.goto (-41), 3) := by decide +kernel
theorem dX6_withRoots_49 : decode cX6_withRoots 49 = .ok (.lload_n 3, 1) := by decide +kernel
theorem dX6_withRoots_50 : decode cX6_withRoots 50 = .ok (.lreturn, 1) := by decide +kernel
set_option maxRecDepth 20000 in
theorem ggX6_withReaders_X4_readerPart : GoodIn wsX6_withReaders wsX4_readerPart := goodIn_r _ [6, 7, 8, 9, 10, 11, 12, 5, 13, 14, 15, 16, 17, 18, 19, 20, 21, 22, 23, 24, 25, 26, 27, 28, 29, 30, 31, 39, 40, 41, 42, 43, 44, 45, 46, 47, 48, 49, 50, 51, 52, 53, 54, 55, 56, 57] (by decide +kernel) (by decide +kernel)
set_option maxRecDepth 20000 in
theorem gX6_withReaders_X4_readerPart : GoodIn wsX6_withReaders (wsV RX6 114 RX4 yX4_readerPart wsX4_readerPart) := goodIn_app (goodIn_of _ (by decide +kernel)) ggX6_withReaders_X4_readerPart
set_option maxRecDepth 20000 in
theorem ggX6_withReaders_X6_mixed : GoodIn wsX6_withReaders wsX6_mixed := goodIn_r _ [34, 35] (by decide +kernel) (by decide +kernel)
set_option maxRecDepth 20000 in
theorem gX6_withReaders_X6_mixed : GoodIn wsX6_withReaders (va_wsS RX6 186 yX6_mixed wsX6_mixed) := goodIn_app (goodIn_of _ (by decide +kernel)) ggX6_withReaders_X6_mixed
theorem dX6_withReaders_0 : decode cX6_withReaders 0 = .ok (.lload_n 1, 1) := by decide +kernel
theorem dX6_withReaders_1 : decode cX6_withReaders 1 = .ok (.lstore_n 3, 1) := by decide +kernel
theorem dX6_withReaders_2 : decode cX6_withReaders 2 = .ok (.iconst 0, 1) := by decide +kernel
theorem dX6_withReaders_3 : decode cX6_withReaders 3 = .ok (.istore 5, 2) := by decide +kernel
theorem dX6_withReaders_5 : decode cX6_withReaders 5 = .ok (.iload 5, 2) := by decide +kernel
theorem dX6_withReaders_7 : decode cX6_withReaders 7 = .ok (.iconst 4, 1) := by decide +kernel
theorem dX6_withReaders_8 : decode cX6_withReaders 8 = .ok (.if_icmp .ge 41, 3) := by decide +kernel
theorem dX6_withReaders_11 : decode cX6_withReaders 11 = .ok (.iconst 0, 1) := by decide +kernel
theorem dX6_withReaders_12 : decode cX6_withReaders 12 = .ok (.istore 6, 2) := by decide +kernel
theorem dX6_withReaders_14 : decode cX6_withReaders 14 = .ok (.iload 6, 2) := by decide +kernel
theorem dX6_withReaders_16 : decode cX6_withReaders 16 = .ok (.iconst 3, 1) := by decide +kernel
theorem dX6_withReaders_17 : decode cX6_withReaders 17 = .ok (.if_icmp .ge 26, 3) := by decide +kernel
theorem dX6_withReaders_20 : decode cX6_withReaders 20 = .ok (.lload_n 3, 1) := by decide +kernel
theorem dX6_withReaders_21 : decode cX6_withReaders 21 = .ok (.aload_n 0, 1) := by decide +kernel
theorem dX6_withReaders_22 : decode cX6_withReaders 22 = .ok (.getfield 12, 3) := by decide +kernel
theorem dX6_withReaders_25 : decode cX6_withReaders 25 = .ok (.iload 5, 2) := by decide +kernel
theorem dX6_withReaders_27 : decode cX6_withReaders 27 = .ok (.iload 6, 2) := by decide +kernel
theorem dX6_withReaders_29 : decode cX6_withReaders 29 = .ok (.invokevirtual 114, 3) := by decide +kernel
theorem dX6_withReaders_32 : decode cX6_withReaders 32 = .ok (.i2l, 1) := by decide +kernel
theorem dX6_withReaders_33 : decode cX6_withReaders 33 = .ok (.invokestatic 186, 3) := by decide +kernel
theorem dX6_withReaders_36 : decode cX6_withReaders 36 = .ok (.lstore_n 3, 1) := by decide +kernel
theorem dX6_withReaders_37 : decode cX6_withReaders 37 = .ok (.iinc 6 1, 3) := by decide +kernel
theorem dX6_withReaders_40 : decode cX6_withReaders 40 = .ok (.goto (-26), 3) := by decide +kernel
theorem dX6_withReaders_43 : decode cX6_withReaders 43 = .ok (.iinc 5 1, 3) := by decide +kernel
theorem dX6_withReaders_46 : decode cX6_withReaders 46 = .ok (.goto (-41), 3) := by decide +kernel
theorem dX6_withReaders_49 : decode cX6_withReaders 49 = .ok (.lload_n 3, 1) := by decide +kernel
theorem dX6_withReaders_50 : decode cX6_withReaders 50 = .ok (.lreturn, 1) := by decide +kernel
set_option maxRecDepth 20000 in
theorem ggX6_withBeds_X4_bedPart : GoodIn wsX6_withBeds wsX4_bedPart := goodIn_r _ [6, 7, 8, 9, 10, 5, 11, 12, 13, 14, 15, 16, 17, 18, 19, 20, 21, 22, 23, 24, 25, 26, 27, 28, 29, 30, 31, 32, 33, 34, 35, 36, 37, 38, 39, 40, 41, 42, 50, 51, 52, 53, 54, 55, 56, 57, 58, 59, 60, 61, 62, 63, 64, 65, 66, 67, 68] (by decide +kernel) (by decide +kernel)
set_option maxRecDepth 20000 in
theorem gX6_withBeds_X4_bedPart : GoodIn wsX6_withBeds (wsV RX6 117 RX4 yX4_bedPart wsX4_bedPart) := goodIn_app (goodIn_of _ (by decide +kernel)) ggX6_withBeds_X4_bedPart
set_option maxRecDepth 20000 in
theorem ggX6_withBeds_X6_mixed : GoodIn wsX6_withBeds wsX6_mixed := goodIn_r _ [45, 46] (by decide +kernel) (by decide +kernel)
set_option maxRecDepth 20000 in
theorem gX6_withBeds_X6_mixed : GoodIn wsX6_withBeds (va_wsS RX6 186 yX6_mixed wsX6_mixed) := goodIn_app (goodIn_of _ (by decide +kernel)) ggX6_withBeds_X6_mixed
theorem dX6_withBeds_0 : decode cX6_withBeds 0 = .ok (.lload_n 1, 1) := by decide +kernel
theorem dX6_withBeds_1 : decode cX6_withBeds 1 = .ok (.lstore_n 3, 1) := by decide +kernel
theorem dX6_withBeds_2 : decode cX6_withBeds 2 = .ok (.iconst 0, 1) := by decide +kernel
theorem dX6_withBeds_3 : decode cX6_withBeds 3 = .ok (.istore 5, 2) := by decide +kernel
theorem dX6_withBeds_5 : decode cX6_withBeds 5 = .ok (.iload 5, 2) := by decide +kernel
theorem dX6_withBeds_7 : decode cX6_withBeds 7 = .ok (.bipush 32, 2) := by decide +kernel
theorem dX6_withBeds_9 : decode cX6_withBeds 9 = .ok (.if_icmp .ge 42, 3) := by decide +kernel
theorem dX6_withBeds_12 : decode cX6_withBeds 12 = .ok (.iconst 0, 1) := by decide +kernel
theorem dX6_withBeds_13 : decode cX6_withBeds 13 = .ok (.istore 6, 2) := by decide +kernel
theorem dX6_withBeds_15 : decode cX6_withBeds 15 = .ok (.iload 6, 2) := by decide +kernel
theorem dX6_withBeds_17 : decode cX6_withBeds 17 = .ok (.bipush 6, 2) := by decide +kernel
theorem dX6_withBeds_19 : decode cX6_withBeds 19 = .ok (.if_icmp .ge 26, 3) := by decide +kernel
theorem dX6_withBeds_22 : decode cX6_withBeds 22 = .ok (.lload_n 3, 1) := by decide +kernel
theorem dX6_withBeds_23 : decode cX6_withBeds 23 = .ok (.aload_n 0, 1) := by decide +kernel
theorem dX6_withBeds_24 : decode cX6_withBeds 24 = .ok (.getfield 12, 3) := by decide +kernel
theorem dX6_withBeds_27 : decode cX6_withBeds 27 = .ok (.iload 5, 2) := by decide +kernel
theorem dX6_withBeds_29 : decode cX6_withBeds 29 = .ok (.iload 6, 2) := by decide +kernel
theorem dX6_withBeds_31 : decode cX6_withBeds 31 = .ok (.invokevirtual 117, 3) := by decide +kernel
theorem dX6_withBeds_34 : decode cX6_withBeds 34 = .ok (.i2l, 1) := by decide +kernel
theorem dX6_withBeds_35 : decode cX6_withBeds 35 = .ok (.invokestatic 186, 3) := by decide +kernel
theorem dX6_withBeds_38 : decode cX6_withBeds 38 = .ok (.lstore_n 3, 1) := by decide +kernel
theorem dX6_withBeds_39 : decode cX6_withBeds 39 = .ok (.iinc 6 1, 3) := by decide +kernel
theorem dX6_withBeds_42 : decode cX6_withBeds 42 = .ok (.goto (-27), 3) := by decide +kernel
theorem dX6_withBeds_45 : decode cX6_withBeds 45 = .ok (.iinc 5 1, 3) := by decide +kernel
theorem dX6_withBeds_48 : decode cX6_withBeds 48 = .ok (.goto (-43), 3) := by decide +kernel
theorem dX6_withBeds_51 : decode cX6_withBeds 51 = .ok (.lload_n 3, 1) := by decide +kernel
theorem dX6_withBeds_52 : decode cX6_withBeds 52 = .ok (.lreturn, 1) := by decide +kernel
set_option maxRecDepth 20000 in
theorem ggX6_withEntries_X4_currentEntries : GoodIn wsX6_withEntries wsX4_currentEntries := goodIn_r _ [6, 7, 8, 9, 10, 5, 11, 12, 13, 14, 15, 16, 17, 18, 19, 20, 21, 22, 23, 24, 25, 26, 27, 28, 29, 30, 31, 32, 33, 34, 35, 36, 66, 67, 68, 69, 70, 71, 72, 73, 74, 75, 76, 77, 78, 79, 80, 81, 82, 83, 84] (by decide +kernel) (by decide +kernel)
set_option maxRecDepth 20000 in
theorem gX6_withEntries_X4_currentEntries : GoodIn wsX6_withEntries (wsV RX6 101 RX4 yX4_currentEntries wsX4_currentEntries) := goodIn_app (goodIn_of _ (by decide +kernel)) ggX6_withEntries_X4_currentEntries
set_option maxRecDepth 20000 in
theorem ggX6_withEntries_X4_entryPart : GoodIn wsX6_withEntries wsX4_entryPart := goodIn_r _ [40, 7, 8, 9, 10, 5, 11, 12, 13, 14, 15, 16, 17, 18, 19, 20, 21, 41, 42, 43, 25, 44, 27, 28, 29, 30, 31, 32, 33, 34, 35, 36, 45, 46, 47, 48, 49, 50, 51, 52, 53, 54, 55, 56, 57, 58, 66, 67, 68, 69, 70, 71, 72, 73, 74, 75, 76, 77, 78, 79, 80, 81, 82, 83, 84] (by decide +kernel) (by decide +kernel)
set_option maxRecDepth 20000 in
theorem gX6_withEntries_X4_entryPart : GoodIn wsX6_withEntries (wsV RX6 108 RX4 yX4_entryPart wsX4_entryPart) := goodIn_app (goodIn_of _ (by decide +kernel)) ggX6_withEntries_X4_entryPart
set_option maxRecDepth 20000 in
theorem ggX6_withEntries_X6_mixed : GoodIn wsX6_withEntries wsX6_mixed := goodIn_r _ [61, 62] (by decide +kernel) (by decide +kernel)
set_option maxRecDepth 20000 in
theorem gX6_withEntries_X6_mixed : GoodIn wsX6_withEntries (va_wsS RX6 186 yX6_mixed wsX6_mixed) := goodIn_app (goodIn_of _ (by decide +kernel)) ggX6_withEntries_X6_mixed
theorem dX6_withEntries_0 : decode cX6_withEntries 0 = .ok (.lload_n 1, 1) := by decide +kernel
theorem dX6_withEntries_1 : decode cX6_withEntries 1 = .ok (.lstore_n 3, 1) := by decide +kernel
theorem dX6_withEntries_2 : decode cX6_withEntries 2 = .ok (.aload_n 0, 1) := by decide +kernel
theorem dX6_withEntries_3 : decode cX6_withEntries 3 = .ok (.getfield 12, 3) := by decide +kernel
theorem dX6_withEntries_6 : decode cX6_withEntries 6 = .ok (.invokevirtual 101, 3) := by decide +kernel
theorem dX6_withEntries_9 : decode cX6_withEntries 9 = .ok (.istore 5, 2) := by decide +kernel
theorem dX6_withEntries_11 : decode cX6_withEntries 11 = .ok (.iconst 0, 1) := by decide +kernel
theorem dX6_withEntries_12 : decode cX6_withEntries 12 = .ok (.istore 6, 2) := by decide +kernel
theorem dX6_withEntries_14 : decode cX6_withEntries 14 = .ok (.iload 6, 2) := by decide +kernel
theorem dX6_withEntries_16 : decode cX6_withEntries 16 = .ok (.iload 5, 2) := by decide +kernel
theorem dX6_withEntries_18 : decode cX6_withEntries 18 = .ok (.if_icmp .ge 41, 3) := by decide +kernel
theorem dX6_withEntries_21 : decode cX6_withEntries 21 = .ok (.iconst 0, 1) := by decide +kernel
theorem dX6_withEntries_22 : decode cX6_withEntries 22 = .ok (.istore 7, 2) := by decide +kernel
theorem dX6_withEntries_24 : decode cX6_withEntries 24 = .ok (.iload 7, 2) := by decide +kernel
theorem dX6_withEntries_26 : decode cX6_withEntries 26 = .ok (.iconst 4, 1) := by decide +kernel
theorem dX6_withEntries_27 : decode cX6_withEntries 27 = .ok (.if_icmp .ge 26, 3) := by decide +kernel
theorem dX6_withEntries_30 : decode cX6_withEntries 30 = .ok (.lload_n 3, 1) := by decide +kernel
theorem dX6_withEntries_31 : decode cX6_withEntries 31 = .ok (.aload_n 0, 1) := by decide +kernel
theorem dX6_withEntries_32 : decode cX6_withEntries 32 = .ok (.getfield 12, 3) := by decide +kernel
theorem dX6_withEntries_35 : decode cX6_withEntries 35 = .ok (.iload 6, 2) := by decide +kernel
theorem dX6_withEntries_37 : decode cX6_withEntries 37 = .ok (.iload 7, 2) := by decide +kernel
theorem dX6_withEntries_39 : decode cX6_withEntries 39 = .ok (.invokevirtual 108, 3) := by decide +kernel
theorem dX6_withEntries_42 : decode cX6_withEntries 42 = .ok (.i2l, 1) := by decide +kernel
theorem dX6_withEntries_43 : decode cX6_withEntries 43 = .ok (.invokestatic 186, 3) := by decide +kernel
theorem dX6_withEntries_46 : decode cX6_withEntries 46 = .ok (.lstore_n 3, 1) := by decide +kernel
theorem dX6_withEntries_47 : decode cX6_withEntries 47 = .ok (.iinc 7 1, 3) := by decide +kernel
theorem dX6_withEntries_50 : decode cX6_withEntries 50 = .ok (.goto (-26), 3) := by decide +kernel
theorem dX6_withEntries_53 : decode cX6_withEntries 53 = .ok (.iinc 6 1, 3) := by decide +kernel
theorem dX6_withEntries_56 : decode cX6_withEntries 56 = .ok (.goto (-42), 3) := by decide +kernel
theorem dX6_withEntries_59 : decode cX6_withEntries 59 = .ok (.lload_n 3, 1) := by decide +kernel
theorem dX6_withEntries_60 : decode cX6_withEntries 60 = .ok (.lreturn, 1) := by decide +kernel
set_option maxRecDepth 20000 in
theorem ggX6_withDraft_X4_draftedValue : GoodIn wsX6_withDraft wsX4_draftedValue := goodIn_r _ [6, 7, 8, 9, 10, 11, 12, 13, 14, 15, 16, 17, 18, 19, 20, 21, 22, 23, 24, 25, 26, 27, 28, 29, 30, 31, 32, 33, 34, 35, 36, 37, 38, 39, 40, 41, 50, 51, 52, 53, 54, 55, 56, 57, 58, 59, 60, 61, 62, 63, 64, 65, 66, 67, 68] (by decide +kernel) (by decide +kernel)
set_option maxRecDepth 20000 in
theorem gX6_withDraft_X4_draftedValue : GoodIn wsX6_withDraft (wsV RX6 92 RX4 yX4_draftedValue wsX4_draftedValue) := goodIn_app (goodIn_of _ (by decide +kernel)) ggX6_withDraft_X4_draftedValue
set_option maxRecDepth 20000 in
theorem ggX6_withDraft_X6_mixed : GoodIn wsX6_withDraft wsX6_mixed := goodIn_r _ [45, 46] (by decide +kernel) (by decide +kernel)
set_option maxRecDepth 20000 in
theorem gX6_withDraft_X6_mixed : GoodIn wsX6_withDraft (va_wsS RX6 186 yX6_mixed wsX6_mixed) := goodIn_app (goodIn_of _ (by decide +kernel)) ggX6_withDraft_X6_mixed
theorem dX6_withDraft_0 : decode cX6_withDraft 0 = .ok (.lload_n 1, 1) := by decide +kernel
theorem dX6_withDraft_1 : decode cX6_withDraft 1 = .ok (.lstore_n 3, 1) := by decide +kernel
theorem dX6_withDraft_2 : decode cX6_withDraft 2 = .ok (.aload_n 0, 1) := by decide +kernel
theorem dX6_withDraft_3 : decode cX6_withDraft 3 = .ok (.getfield 12, 3) := by decide +kernel
theorem dX6_withDraft_6 : decode cX6_withDraft 6 = .ok (.getfield 212, 3) := by decide +kernel
theorem dX6_withDraft_9 : decode cX6_withDraft 9 = .ok (.ifCond .eq 34, 3) := by decide +kernel
theorem dX6_withDraft_12 : decode cX6_withDraft 12 = .ok (.iconst 0, 1) := by decide +kernel
theorem dX6_withDraft_13 : decode cX6_withDraft 13 = .ok (.istore 5, 2) := by decide +kernel
theorem dX6_withDraft_15 : decode cX6_withDraft 15 = .ok (.iload 5, 2) := by decide +kernel
theorem dX6_withDraft_17 : decode cX6_withDraft 17 = .ok (.bipush 100, 2) := by decide +kernel
theorem dX6_withDraft_19 : decode cX6_withDraft 19 = .ok (.if_icmp .ge 24, 3) := by decide +kernel
theorem dX6_withDraft_22 : decode cX6_withDraft 22 = .ok (.lload_n 3, 1) := by decide +kernel
theorem dX6_withDraft_23 : decode cX6_withDraft 23 = .ok (.aload_n 0, 1) := by decide +kernel
theorem dX6_withDraft_24 : decode cX6_withDraft 24 = .ok (.getfield 12, 3) := by decide +kernel
theorem dX6_withDraft_27 : decode cX6_withDraft 27 = .ok (.iload 5, 2) := by decide +kernel
theorem dX6_withDraft_29 : decode cX6_withDraft 29 = .ok (.invokevirtual 92, 3) := by decide +kernel
theorem dX6_withDraft_32 : decode cX6_withDraft 32 = .ok (.i2l, 1) := by decide +kernel
theorem dX6_withDraft_33 : decode cX6_withDraft 33 = .ok (.invokestatic 186, 3) := by decide +kernel
theorem dX6_withDraft_36 : decode cX6_withDraft 36 = .ok (.lstore_n 3, 1) := by decide +kernel
theorem dX6_withDraft_37 : decode cX6_withDraft 37 = .ok (.iinc 5 1, 3) := by decide +kernel
theorem dX6_withDraft_40 : decode cX6_withDraft 40 = .ok (.goto (-25), 3) := by decide +kernel
theorem dX6_withDraft_43 : decode cX6_withDraft 43 = .ok (.lload_n 3, 1) := by decide +kernel
theorem dX6_withDraft_44 : decode cX6_withDraft 44 = .ok (.lreturn, 1) := by decide +kernel
theorem dX6_mixed_0 : decode cX6_mixed 0 = .ok (.ldc2_w 216, 3) := by decide +kernel
theorem dX6_mixed_3 : decode cX6_mixed 3 = .ok (.lload_n 0, 1) := by decide +kernel
theorem dX6_mixed_4 : decode cX6_mixed 4 = .ok (.lmul, 1) := by decide +kernel
theorem dX6_mixed_5 : decode cX6_mixed 5 = .ok (.lload_n 2, 1) := by decide +kernel
theorem dX6_mixed_6 : decode cX6_mixed 6 = .ok (.ladd, 1) := by decide +kernel
theorem dX6_mixed_7 : decode cX6_mixed 7 = .ok (.lreturn, 1) := by decide +kernel
set_option maxRecDepth 20000 in
theorem ggX6_faultOf_Jx29ce0_ordinal_8abf5 : GoodIn wsX6_faultOf wsJx29ce0_ordinal_8abf5 := goodIn_r _ [9, 10] (by decide +kernel) (by decide +kernel)
set_option maxRecDepth 20000 in
theorem gX6_faultOf_Jx29ce0_ordinal_8abf5_u224X2 : GoodIn wsX6_faultOf (va_wsU RX6 224 RX2 "java/lang/Enum" ⟨"PageGarden$Command", "ordinal", "()I"⟩ yJx29ce0_ordinal_8abf5 wsJx29ce0_ordinal_8abf5) := goodIn_app (goodIn_of _ (by decide +kernel)) ggX6_faultOf_Jx29ce0_ordinal_8abf5
set_option maxRecDepth 20000 in
theorem ggX6_faultOf_X4_beginFault : GoodIn wsX6_faultOf wsX4_beginFault := goodIn_r _ [15, 16, 164, 165, 166, 167, 168, 169, 170, 171, 172, 173] (by decide +kernel) (by decide +kernel)
set_option maxRecDepth 20000 in
theorem gX6_faultOf_X4_beginFault : GoodIn wsX6_faultOf (wsV RX6 30 RX4 yX4_beginFault wsX4_beginFault) := goodIn_app (goodIn_of _ (by decide +kernel)) ggX6_faultOf_X4_beginFault
set_option maxRecDepth 20000 in
theorem ggX6_faultOf_X4_putFault : GoodIn wsX6_faultOf wsX4_putFault := goodIn_r _ [20, 16, 21, 22, 23, 24, 25, 26, 14, 27, 28, 29, 30, 31, 32, 33, 34, 35, 36, 37, 38, 39, 40, 41, 42, 43, 44, 45, 46, 47, 48, 49, 50, 51, 52, 53, 54, 55, 56, 57, 58, 59, 60, 61, 62, 63, 64, 65, 66, 67, 68, 69, 70, 71, 72, 73, 74, 75, 76, 77, 78, 79, 80, 81, 82, 83, 84, 85, 86, 87, 88, 89, 90, 91, 92, 93, 94, 95, 96, 97, 98, 99, 100, 101, 102, 103, 104, 164, 165, 166, 167, 168, 169, 170, 171, 172, 173, 174, 175, 176, 177, 178, 179, 180, 181, 182] (by decide +kernel) (by decide +kernel)
set_option maxRecDepth 20000 in
theorem gX6_faultOf_X4_putFault : GoodIn wsX6_faultOf (wsV RX6 45 RX4 yX4_putFault wsX4_putFault) := goodIn_app (goodIn_of _ (by decide +kernel)) ggX6_faultOf_X4_putFault
set_option maxRecDepth 20000 in
theorem ggX6_faultOf_X4_removeFault : GoodIn wsX6_faultOf wsX4_removeFault := goodIn_r _ [108, 16, 21, 22, 23, 109, 110, 111, 14, 112, 32, 33, 113, 114, 115, 37, 116, 117, 35, 36, 38, 39, 40, 41, 42, 43, 44, 45, 46, 47, 48, 49, 50, 51, 52, 53, 118, 67, 68, 69, 119, 120, 121, 122, 123, 124, 125, 126, 127, 34, 65, 54, 55, 56, 57, 58, 59, 60, 61, 62, 63, 64, 70, 71, 72, 73, 74, 75, 76, 77, 78, 79, 80, 81, 82, 83, 84, 85, 86, 87, 88, 89, 90, 91, 92, 93, 94, 95, 96, 97, 98, 99, 100, 101, 102, 103, 104, 164, 165, 166, 167, 168, 169, 170, 171, 172, 173, 174, 175, 176, 177, 178, 179, 180, 181, 182] (by decide +kernel) (by decide +kernel)
set_option maxRecDepth 20000 in
theorem gX6_faultOf_X4_removeFault : GoodIn wsX6_faultOf (wsV RX6 52 RX4 yX4_removeFault wsX4_removeFault) := goodIn_app (goodIn_of _ (by decide +kernel)) ggX6_faultOf_X4_removeFault
set_option maxRecDepth 20000 in
theorem ggX6_faultOf_X4_commitFault : GoodIn wsX6_faultOf wsX4_commitFault := goodIn_r _ [131, 16, 21, 22, 23, 164, 165, 166, 167, 168, 169, 170, 171, 172, 173] (by decide +kernel) (by decide +kernel)
set_option maxRecDepth 20000 in
theorem gX6_faultOf_X4_commitFault : GoodIn wsX6_faultOf (wsV RX6 59 RX4 yX4_commitFault wsX4_commitFault) := goodIn_app (goodIn_of _ (by decide +kernel)) ggX6_faultOf_X4_commitFault
set_option maxRecDepth 20000 in
theorem ggX6_faultOf_X4_abortFault : GoodIn wsX6_faultOf wsX4_abortFault := goodIn_r _ [135, 16, 164, 165, 166, 167, 168, 169, 170, 171, 172, 173] (by decide +kernel) (by decide +kernel)
set_option maxRecDepth 20000 in
theorem gX6_faultOf_X4_abortFault : GoodIn wsX6_faultOf (wsV RX6 65 RX4 yX4_abortFault wsX4_abortFault) := goodIn_app (goodIn_of _ (by decide +kernel)) ggX6_faultOf_X4_abortFault
set_option maxRecDepth 20000 in
theorem ggX6_faultOf_X4_openFault : GoodIn wsX6_faultOf wsX4_openFault := goodIn_r _ [139, 140, 141, 142, 14, 143, 144, 145, 146, 147, 90, 148, 22, 149, 164, 165, 166, 167, 168, 169, 170, 171, 172, 173] (by decide +kernel) (by decide +kernel)
set_option maxRecDepth 20000 in
theorem gX6_faultOf_X4_openFault : GoodIn wsX6_faultOf (wsV RX6 71 RX4 yX4_openFault wsX4_openFault) := goodIn_app (goodIn_of _ (by decide +kernel)) ggX6_faultOf_X4_openFault
set_option maxRecDepth 20000 in
theorem ggX6_faultOf_X4_openReaderFault : GoodIn wsX6_faultOf wsX4_openReaderFault := goodIn_r _ [153, 21, 22, 23, 144, 145, 146, 14, 147, 90, 148, 149, 164, 165, 166, 167, 168, 169, 170, 171, 172, 173] (by decide +kernel) (by decide +kernel)
set_option maxRecDepth 20000 in
theorem gX6_faultOf_X4_openReaderFault : GoodIn wsX6_faultOf (wsV RX6 77 RX4 yX4_openReaderFault wsX4_openReaderFault) := goodIn_app (goodIn_of _ (by decide +kernel)) ggX6_faultOf_X4_openReaderFault
theorem dX6_faultOf_0 : decode cX6_faultOf 0 = .ok (.aload_n 1, 1) := by decide +kernel
theorem dX6_faultOf_1 : decode cX6_faultOf 1 = .ok (.ifnonnull 5, 3) := by decide +kernel
theorem dX6_faultOf_4 : decode cX6_faultOf 4 = .ok (.iconst 3, 1) := by decide +kernel
theorem dX6_faultOf_5 : decode cX6_faultOf 5 = .ok (.ireturn, 1) := by decide +kernel
theorem dX6_faultOf_6 : decode cX6_faultOf 6 = .ok (.getstatic 218, 3) := by decide +kernel
theorem dX6_faultOf_9 : decode cX6_faultOf 9 = .ok (.aload_n 1, 1) := by decide +kernel
theorem dX6_faultOf_10 : decode cX6_faultOf 10 = .ok (.invokevirtual 224, 3) := by decide +kernel
theorem dX6_faultOf_13 : decode cX6_faultOf 13 = .ok (.iaload, 1) := by decide +kernel
theorem dX6_faultOf_14 : decode cX6_faultOf 14 = .ok (.tableswitch 133 1 7 #[42, 50, 72, 87, 102, 110, 118], 42) := by decide +kernel
theorem dX6_faultOf_56 : decode cX6_faultOf 56 = .ok (.aload_n 0, 1) := by decide +kernel
theorem dX6_faultOf_57 : decode cX6_faultOf 57 = .ok (.getfield 12, 3) := by decide +kernel
theorem dX6_faultOf_60 : decode cX6_faultOf 60 = .ok (.invokevirtual 30, 3) := by decide +kernel
theorem dX6_faultOf_63 : decode cX6_faultOf 63 = .ok (.ireturn, 1) := by decide +kernel
theorem dX6_faultOf_64 : decode cX6_faultOf 64 = .ok (.aload_n 0, 1) := by decide +kernel
theorem dX6_faultOf_65 : decode cX6_faultOf 65 = .ok (.getfield 12, 3) := by decide +kernel
theorem dX6_faultOf_68 : decode cX6_faultOf 68 = .ok (.aload_n 0, 1) := by decide +kernel
theorem dX6_faultOf_69 : decode cX6_faultOf 69 = .ok (.getfield 26, 3) := by decide +kernel
theorem dX6_faultOf_72 : decode cX6_faultOf 72 = .ok (.getfield 229, 3) := by decide +kernel
theorem dX6_faultOf_75 : decode cX6_faultOf 75 = .ok (.aload_n 0, 1) := by decide +kernel
theorem dX6_faultOf_76 : decode cX6_faultOf 76 = .ok (.getfield 26, 3) := by decide +kernel
theorem dX6_faultOf_79 : decode cX6_faultOf 79 = .ok (.getfield 232, 3) := by decide +kernel
theorem dX6_faultOf_82 : decode cX6_faultOf 82 = .ok (.invokevirtual 45, 3) := by decide +kernel
theorem dX6_faultOf_85 : decode cX6_faultOf 85 = .ok (.ireturn, 1) := by decide +kernel
theorem dX6_faultOf_86 : decode cX6_faultOf 86 = .ok (.aload_n 0, 1) := by decide +kernel
theorem dX6_faultOf_87 : decode cX6_faultOf 87 = .ok (.getfield 12, 3) := by decide +kernel
theorem dX6_faultOf_90 : decode cX6_faultOf 90 = .ok (.aload_n 0, 1) := by decide +kernel
theorem dX6_faultOf_91 : decode cX6_faultOf 91 = .ok (.getfield 26, 3) := by decide +kernel
theorem dX6_faultOf_94 : decode cX6_faultOf 94 = .ok (.getfield 229, 3) := by decide +kernel
theorem dX6_faultOf_97 : decode cX6_faultOf 97 = .ok (.invokevirtual 52, 3) := by decide +kernel
theorem dX6_faultOf_100 : decode cX6_faultOf 100 = .ok (.ireturn, 1) := by decide +kernel
theorem dX6_faultOf_101 : decode cX6_faultOf 101 = .ok (.aload_n 0, 1) := by decide +kernel
theorem dX6_faultOf_102 : decode cX6_faultOf 102 = .ok (.getfield 12, 3) := by decide +kernel
theorem dX6_faultOf_105 : decode cX6_faultOf 105 = .ok (.aload_n 0, 1) := by decide +kernel
theorem dX6_faultOf_106 : decode cX6_faultOf 106 = .ok (.getfield 26, 3) := by decide +kernel
theorem dX6_faultOf_109 : decode cX6_faultOf 109 = .ok (.getfield 229, 3) := by decide +kernel
theorem dX6_faultOf_112 : decode cX6_faultOf 112 = .ok (.invokevirtual 59, 3) := by decide +kernel
theorem dX6_faultOf_115 : decode cX6_faultOf 115 = .ok (.ireturn, 1) := by decide +kernel
theorem dX6_faultOf_116 : decode cX6_faultOf 116 = .ok (.aload_n 0, 1) := by decide +kernel
theorem dX6_faultOf_117 : decode cX6_faultOf 117 = .ok (.getfield 12, 3) := by decide +kernel
theorem dX6_faultOf_120 : decode cX6_faultOf 120 = .ok (.invokevirtual 65, 3) := by decide +kernel
theorem dX6_faultOf_123 : decode cX6_faultOf 123 = .ok (.ireturn, 1) := by decide +kernel
theorem dX6_faultOf_124 : decode cX6_faultOf 124 = .ok (.aload_n 0, 1) := by decide +kernel
theorem dX6_faultOf_125 : decode cX6_faultOf 125 = .ok (.getfield 12, 3) := by decide +kernel
theorem dX6_faultOf_128 : decode cX6_faultOf 128 = .ok (.invokevirtual 71, 3) := by decide +kernel
theorem dX6_faultOf_131 : decode cX6_faultOf 131 = .ok (.ireturn, 1) := by decide +kernel
theorem dX6_faultOf_132 : decode cX6_faultOf 132 = .ok (.aload_n 0, 1) := by decide +kernel
theorem dX6_faultOf_133 : decode cX6_faultOf 133 = .ok (.getfield 12, 3) := by decide +kernel
theorem dX6_faultOf_136 : decode cX6_faultOf 136 = .ok (.aload_n 0, 1) := by decide +kernel
theorem dX6_faultOf_137 : decode cX6_faultOf 137 = .ok (.getfield 26, 3) := by decide +kernel
theorem dX6_faultOf_140 : decode cX6_faultOf 140 = .ok (.getfield 229, 3) := by decide +kernel
theorem dX6_faultOf_143 : decode cX6_faultOf 143 = .ok (.invokevirtual 77, 3) := by decide +kernel
theorem dX6_faultOf_146 : decode cX6_faultOf 146 = .ok (.ireturn, 1) := by decide +kernel
theorem dX6_faultOf_147 : decode cX6_faultOf 147 = .ok (.iconst 3, 1) := by decide +kernel
theorem dX6_faultOf_148 : decode cX6_faultOf 148 = .ok (.ireturn, 1) := by decide +kernel
set_option maxRecDepth 20000 in
theorem ggX6_perform_Jx29ce0_ordinal_8abf5 : GoodIn wsX6_perform wsJx29ce0_ordinal_8abf5 := goodIn_r _ [9, 10] (by decide +kernel) (by decide +kernel)
set_option maxRecDepth 20000 in
theorem gX6_perform_Jx29ce0_ordinal_8abf5_u224X2 : GoodIn wsX6_perform (va_wsU RX6 224 RX2 "java/lang/Enum" ⟨"PageGarden$Command", "ordinal", "()I"⟩ yJx29ce0_ordinal_8abf5 wsJx29ce0_ordinal_8abf5) := goodIn_app (goodIn_of _ (by decide +kernel)) ggX6_perform_Jx29ce0_ordinal_8abf5
set_option maxRecDepth 20000 in
theorem ggX6_perform_X4_beginDraft : GoodIn wsX6_perform wsX4_beginDraft := goodIn_r _ [15, 16, 17, 18, 19, 20, 14, 21, 22, 23, 24, 25, 26, 27, 28, 29, 30, 31, 32, 33, 34, 35, 247, 248, 249, 250, 251, 252, 253, 254, 255, 256] (by decide +kernel) (by decide +kernel)
set_option maxRecDepth 20000 in
theorem gX6_perform_X4_beginDraft : GoodIn wsX6_perform (wsV RX6 42 RX4 yX4_beginDraft wsX4_beginDraft) := goodIn_app (goodIn_of _ (by decide +kernel)) ggX6_perform_X4_beginDraft
set_option maxRecDepth 20000 in
theorem ggX6_perform_X4_putEntry : GoodIn wsX6_perform wsX4_putEntry := goodIn_r _ [39, 40, 17, 41, 42, 43, 14, 44, 45, 46, 47, 48, 49, 50, 51, 52, 53, 54, 55, 56, 57, 58, 59, 27, 28, 60, 61, 62, 63, 64, 65, 66, 67, 68, 69, 70, 71, 72, 73, 74, 75, 76, 77, 78, 79, 80, 81, 82, 83, 84, 85, 30, 86, 87, 88, 89, 90, 91, 92, 93, 94, 95, 96, 97, 98, 99, 100, 101, 102, 103, 104, 105, 106, 107, 108, 109, 110, 111, 112, 113, 114, 115, 116, 117, 118, 119, 120, 121, 122, 123, 124, 125, 126, 127, 128, 129, 130, 131, 132, 133, 134, 135, 136, 137, 138, 139, 140, 141, 142, 143, 144, 145, 146, 147, 148, 149, 150, 151, 152, 153, 154, 155, 156, 157, 158, 159, 160, 161, 162, 163, 164, 247, 248, 249, 250, 251, 252, 253, 254, 255, 256, 257, 258, 259, 260, 261, 262, 263, 264, 265] (by decide +kernel) (by decide +kernel)
set_option maxRecDepth 20000 in
theorem gX6_perform_X4_putEntry : GoodIn wsX6_perform (wsV RX6 49 RX4 yX4_putEntry wsX4_putEntry) := goodIn_app (goodIn_of _ (by decide +kernel)) ggX6_perform_X4_putEntry
set_option maxRecDepth 20000 in
theorem ggX6_perform_X4_removeEntry : GoodIn wsX6_perform wsX4_removeEntry := goodIn_r _ [168, 40, 17, 41, 42, 43, 14, 44, 45, 46, 47, 48, 49, 50, 51, 52, 53, 54, 55, 56, 57, 58, 59, 27, 28, 60, 61, 62, 63, 64, 65, 66, 67, 68, 69, 70, 71, 72, 73, 74, 75, 76, 77, 78, 79, 80, 81, 82, 83, 84, 85, 30, 86, 87, 88, 89, 90, 91, 92, 93, 94, 95, 96, 97, 98, 99, 100, 101, 102, 103, 104, 105, 106, 107, 108, 109, 110, 111, 112, 113, 114, 115, 116, 117, 118, 119, 120, 121, 122, 148, 154, 155, 156, 157, 158, 132, 133, 134, 135, 160, 169, 170, 171, 172, 144, 145, 146, 147, 149, 150, 151, 152, 127, 128, 129, 130, 131, 136, 137, 138, 139, 153, 173, 174, 175, 176, 247, 248, 249, 250, 251, 252, 253, 254, 255, 256, 257, 258, 259, 260, 261, 262, 263, 264, 265] (by decide +kernel) (by decide +kernel)
set_option maxRecDepth 20000 in
theorem gX6_perform_X4_removeEntry : GoodIn wsX6_perform (wsV RX6 56 RX4 yX4_removeEntry wsX4_removeEntry) := goodIn_app (goodIn_of _ (by decide +kernel)) ggX6_perform_X4_removeEntry
set_option maxRecDepth 20000 in
theorem ggX6_perform_X4_commitDraft : GoodIn wsX6_perform wsX4_commitDraft := goodIn_r _ [180, 40, 17, 181, 182, 45, 46, 47, 48, 49, 50, 183, 184, 185, 14, 186, 16, 187, 188, 189, 190, 27, 22, 28, 23, 24, 25, 26, 32, 33, 34, 35, 29, 30, 31, 85, 86, 191, 192, 193, 194, 195, 196, 197, 198, 108, 110, 111, 112, 113, 74, 83, 84, 69, 199, 200, 201, 202, 203, 204, 205, 206, 207, 208, 247, 248, 249, 250, 251, 252, 253, 254, 255, 256, 257, 258, 259, 260, 261, 262, 263, 264, 265] (by decide +kernel) (by decide +kernel)
set_option maxRecDepth 20000 in
theorem gX6_perform_X4_commitDraft : GoodIn wsX6_perform (wsV RX6 62 RX4 yX4_commitDraft wsX4_commitDraft) := goodIn_app (goodIn_of _ (by decide +kernel)) ggX6_perform_X4_commitDraft
set_option maxRecDepth 20000 in
theorem ggX6_perform_X4_dropDraft : GoodIn wsX6_perform wsX4_dropDraft := goodIn_r _ [194, 40, 183, 184, 185, 14, 186, 16, 17, 195, 196, 197, 48, 198, 50, 108, 110, 111, 112, 113, 74, 83, 84, 69, 85, 30, 86, 199, 200, 247, 248, 249, 250, 251, 252, 253, 254, 255, 256, 257, 258, 259, 260, 261, 262, 263, 264, 265] (by decide +kernel) (by decide +kernel)
set_option maxRecDepth 20000 in
theorem gX6_perform_X4_dropDraft : GoodIn wsX6_perform (wsV RX6 68 RX4 yX4_dropDraft wsX4_dropDraft) := goodIn_app (goodIn_of _ (by decide +kernel)) ggX6_perform_X4_dropDraft
set_option maxRecDepth 20000 in
theorem ggX6_perform_X4_openReader : GoodIn wsX6_perform wsX4_openReader := goodIn_r _ [213, 64, 214, 215, 216, 217, 14, 218, 219, 220, 221, 222, 29, 30, 31, 32, 33, 34, 35, 28, 23, 24, 25, 26, 27, 85, 86, 18, 19, 20, 21, 22, 247, 248, 249, 250, 251, 252, 253, 254, 255, 256] (by decide +kernel) (by decide +kernel)
set_option maxRecDepth 20000 in
theorem gX6_perform_X4_openReader : GoodIn wsX6_perform (wsV RX6 74 RX4 yX4_openReader wsX4_openReader) := goodIn_app (goodIn_of _ (by decide +kernel)) ggX6_perform_X4_openReader
set_option maxRecDepth 20000 in
theorem ggX6_perform_X4_closeReader : GoodIn wsX6_perform wsX4_closeReader := goodIn_r _ [226, 40, 64, 214, 227, 228, 229, 14, 230, 55, 56, 57, 58, 59, 27, 28, 60, 61, 62, 63, 231, 232, 233, 48, 234, 70, 71, 72, 73, 74, 69, 235, 30, 236, 85, 86, 247, 248, 249, 250, 251, 252, 253, 254, 255, 256, 257, 258, 259, 260, 261, 262, 263, 264, 265] (by decide +kernel) (by decide +kernel)
set_option maxRecDepth 20000 in
theorem gX6_perform_X4_closeReader : GoodIn wsX6_perform (wsV RX6 80 RX4 yX4_closeReader wsX4_closeReader) := goodIn_app (goodIn_of _ (by decide +kernel)) ggX6_perform_X4_closeReader
theorem dX6_perform_0 : decode cX6_perform 0 = .ok (.aload_n 1, 1) := by decide +kernel
theorem dX6_perform_1 : decode cX6_perform 1 = .ok (.ifnonnull 4, 3) := by decide +kernel
theorem dX6_perform_4 : decode cX6_perform 4 = .ok (.return_, 1) := by decide +kernel
theorem dX6_perform_5 : decode cX6_perform 5 = .ok (.getstatic 218, 3) := by decide +kernel
theorem dX6_perform_8 : decode cX6_perform 8 = .ok (.aload_n 1, 1) := by decide +kernel
theorem dX6_perform_9 : decode cX6_perform 9 = .ok (.invokevirtual 224, 3) := by decide +kernel
theorem dX6_perform_12 : decode cX6_perform 12 = .ok (.iaload, 1) := by decide +kernel
theorem dX6_perform_13 : decode cX6_perform 13 = .ok (.tableswitch 155 1 7 #[43, 54, 79, 97, 115, 126, 137], 43) := by decide +kernel
theorem dX6_perform_56 : decode cX6_perform 56 = .ok (.aload_n 0, 1) := by decide +kernel
theorem dX6_perform_57 : decode cX6_perform 57 = .ok (.getfield 12, 3) := by decide +kernel
theorem dX6_perform_60 : decode cX6_perform 60 = .ok (.invokevirtual 42, 3) := by decide +kernel
theorem dX6_perform_63 : decode cX6_perform 63 = .ok (.pop, 1) := by decide +kernel
theorem dX6_perform_64 : decode cX6_perform 64 = .ok (.goto 104, 3) := by decide +kernel
theorem dX6_perform_67 : decode cX6_perform 67 = .ok (.aload_n 0, 1) := by decide +kernel
theorem dX6_perform_68 : decode cX6_perform 68 = .ok (.getfield 12, 3) := by decide +kernel
theorem dX6_perform_71 : decode cX6_perform 71 = .ok (.aload_n 0, 1) := by decide +kernel
theorem dX6_perform_72 : decode cX6_perform 72 = .ok (.getfield 26, 3) := by decide +kernel
theorem dX6_perform_75 : decode cX6_perform 75 = .ok (.getfield 229, 3) := by decide +kernel
theorem dX6_perform_78 : decode cX6_perform 78 = .ok (.aload_n 0, 1) := by decide +kernel
theorem dX6_perform_79 : decode cX6_perform 79 = .ok (.getfield 26, 3) := by decide +kernel
theorem dX6_perform_82 : decode cX6_perform 82 = .ok (.getfield 232, 3) := by decide +kernel
theorem dX6_perform_85 : decode cX6_perform 85 = .ok (.invokevirtual 49, 3) := by decide +kernel
theorem dX6_perform_88 : decode cX6_perform 88 = .ok (.pop, 1) := by decide +kernel
theorem dX6_perform_89 : decode cX6_perform 89 = .ok (.goto 79, 3) := by decide +kernel
theorem dX6_perform_92 : decode cX6_perform 92 = .ok (.aload_n 0, 1) := by decide +kernel
theorem dX6_perform_93 : decode cX6_perform 93 = .ok (.getfield 12, 3) := by decide +kernel
theorem dX6_perform_96 : decode cX6_perform 96 = .ok (.aload_n 0, 1) := by decide +kernel
theorem dX6_perform_97 : decode cX6_perform 97 = .ok (.getfield 26, 3) := by decide +kernel
theorem dX6_perform_100 : decode cX6_perform 100 = .ok (.getfield 229, 3) := by decide +kernel
theorem dX6_perform_103 : decode cX6_perform 103 = .ok (.invokevirtual 56, 3) := by decide +kernel
theorem dX6_perform_106 : decode cX6_perform 106 = .ok (.pop, 1) := by decide +kernel
theorem dX6_perform_107 : decode cX6_perform 107 = .ok (.goto 61, 3) := by decide +kernel
theorem dX6_perform_110 : decode cX6_perform 110 = .ok (.aload_n 0, 1) := by decide +kernel
theorem dX6_perform_111 : decode cX6_perform 111 = .ok (.getfield 12, 3) := by decide +kernel
theorem dX6_perform_114 : decode cX6_perform 114 = .ok (.aload_n 0, 1) := by decide +kernel
theorem dX6_perform_115 : decode cX6_perform 115 = .ok (.getfield 26, 3) := by decide +kernel
theorem dX6_perform_118 : decode cX6_perform 118 = .ok (.getfield 229, 3) := by decide +kernel
theorem dX6_perform_121 : decode cX6_perform 121 = .ok (.invokevirtual 62, 3) := by decide +kernel
theorem dX6_perform_124 : decode cX6_perform 124 = .ok (.pop, 1) := by decide +kernel
theorem dX6_perform_125 : decode cX6_perform 125 = .ok (.goto 43, 3) := by decide +kernel
theorem dX6_perform_128 : decode cX6_perform 128 = .ok (.aload_n 0, 1) := by decide +kernel
theorem dX6_perform_129 : decode cX6_perform 129 = .ok (.getfield 12, 3) := by decide +kernel
theorem dX6_perform_132 : decode cX6_perform 132 = .ok (.invokevirtual 68, 3) := by decide +kernel
theorem dX6_perform_135 : decode cX6_perform 135 = .ok (.pop, 1) := by decide +kernel
theorem dX6_perform_136 : decode cX6_perform 136 = .ok (.goto 32, 3) := by decide +kernel
theorem dX6_perform_139 : decode cX6_perform 139 = .ok (.aload_n 0, 1) := by decide +kernel
theorem dX6_perform_140 : decode cX6_perform 140 = .ok (.getfield 12, 3) := by decide +kernel
theorem dX6_perform_143 : decode cX6_perform 143 = .ok (.invokevirtual 74, 3) := by decide +kernel
theorem dX6_perform_146 : decode cX6_perform 146 = .ok (.pop, 1) := by decide +kernel
theorem dX6_perform_147 : decode cX6_perform 147 = .ok (.goto 21, 3) := by decide +kernel
theorem dX6_perform_150 : decode cX6_perform 150 = .ok (.aload_n 0, 1) := by decide +kernel
theorem dX6_perform_151 : decode cX6_perform 151 = .ok (.getfield 12, 3) := by decide +kernel
theorem dX6_perform_154 : decode cX6_perform 154 = .ok (.aload_n 0, 1) := by decide +kernel
theorem dX6_perform_155 : decode cX6_perform 155 = .ok (.getfield 26, 3) := by decide +kernel
theorem dX6_perform_158 : decode cX6_perform 158 = .ok (.getfield 229, 3) := by decide +kernel
theorem dX6_perform_161 : decode cX6_perform 161 = .ok (.invokevirtual 80, 3) := by decide +kernel
theorem dX6_perform_164 : decode cX6_perform 164 = .ok (.pop, 1) := by decide +kernel
theorem dX6_perform_165 : decode cX6_perform 165 = .ok (.goto 3, 3) := by decide +kernel
theorem dX6_perform_168 : decode cX6_perform 168 = .ok (.return_, 1) := by decide +kernel
theorem dX6_refuse_0 : decode cX6_refuse 0 = .ok (.iload_n 0, 1) := by decide +kernel
theorem dX6_refuse_1 : decode cX6_refuse 1 = .ok (.iconst 1, 1) := by decide +kernel
theorem dX6_refuse_2 : decode cX6_refuse 2 = .ok (.if_icmp .ne 13, 3) := by decide +kernel
theorem dX6_refuse_5 : decode cX6_refuse 5 = .ok (.new 235, 3) := by decide +kernel
theorem dX6_refuse_8 : decode cX6_refuse 8 = .ok (.dup, 1) := by decide +kernel
theorem dX6_refuse_9 : decode cX6_refuse 9 = .ok (.ldc 237, 2) := by decide +kernel
theorem dX6_refuse_11 : decode cX6_refuse 11 = .ok (.invokespecial 239, 3) := by decide +kernel
theorem dX6_refuse_14 : decode cX6_refuse 14 = .ok (.athrow, 1) := by decide +kernel
theorem dX6_refuse_15 : decode cX6_refuse 15 = .ok (.iload_n 0, 1) := by decide +kernel
theorem dX6_refuse_16 : decode cX6_refuse 16 = .ok (.iconst 2, 1) := by decide +kernel
theorem dX6_refuse_17 : decode cX6_refuse 17 = .ok (.if_icmp .ne 13, 3) := by decide +kernel
theorem dX6_refuse_20 : decode cX6_refuse 20 = .ok (.new 242, 3) := by decide +kernel
theorem dX6_refuse_23 : decode cX6_refuse 23 = .ok (.dup, 1) := by decide +kernel
theorem dX6_refuse_24 : decode cX6_refuse 24 = .ok (.ldc 244, 2) := by decide +kernel
theorem dX6_refuse_26 : decode cX6_refuse 26 = .ok (.invokespecial 246, 3) := by decide +kernel
theorem dX6_refuse_29 : decode cX6_refuse 29 = .ok (.athrow, 1) := by decide +kernel
theorem dX6_refuse_30 : decode cX6_refuse 30 = .ok (.iload_n 0, 1) := by decide +kernel
theorem dX6_refuse_31 : decode cX6_refuse 31 = .ok (.iconst 3, 1) := by decide +kernel
theorem dX6_refuse_32 : decode cX6_refuse 32 = .ok (.if_icmp .ne 13, 3) := by decide +kernel
theorem dX6_refuse_35 : decode cX6_refuse 35 = .ok (.new 247, 3) := by decide +kernel
theorem dX6_refuse_38 : decode cX6_refuse 38 = .ok (.dup, 1) := by decide +kernel
theorem dX6_refuse_39 : decode cX6_refuse 39 = .ok (.ldc 249, 2) := by decide +kernel
theorem dX6_refuse_41 : decode cX6_refuse 41 = .ok (.invokespecial 251, 3) := by decide +kernel
theorem dX6_refuse_44 : decode cX6_refuse 44 = .ok (.athrow, 1) := by decide +kernel
theorem dX6_refuse_45 : decode cX6_refuse 45 = .ok (.return_, 1) := by decide +kernel
set_option maxRecDepth 20000 in
theorem ggX6_partFault_X6_isBelow : GoodIn wsX6_partFault wsX6_isBelow := goodIn_r _ [4] (by decide +kernel) (by decide +kernel)
set_option maxRecDepth 20000 in
theorem gX6_partFault_X6_isBelow : GoodIn wsX6_partFault (va_wsS RX6 120 yX6_isBelow wsX6_isBelow) := goodIn_app (goodIn_of _ (by decide +kernel)) ggX6_partFault_X6_isBelow
theorem dX6_partFault_0 : decode cX6_partFault 0 = .ok (.iload_n 0, 1) := by decide +kernel
theorem dX6_partFault_1 : decode cX6_partFault 1 = .ok (.iload_n 1, 1) := by decide +kernel
theorem dX6_partFault_2 : decode cX6_partFault 2 = .ok (.invokestatic 120, 3) := by decide +kernel
theorem dX6_partFault_5 : decode cX6_partFault 5 = .ok (.ifCond .ne 5, 3) := by decide +kernel
theorem dX6_partFault_8 : decode cX6_partFault 8 = .ok (.iconst 1, 1) := by decide +kernel
theorem dX6_partFault_9 : decode cX6_partFault 9 = .ok (.ireturn, 1) := by decide +kernel
theorem dX6_partFault_10 : decode cX6_partFault 10 = .ok (.iload_n 2, 1) := by decide +kernel
theorem dX6_partFault_11 : decode cX6_partFault 11 = .ok (.iload_n 3, 1) := by decide +kernel
theorem dX6_partFault_12 : decode cX6_partFault 12 = .ok (.invokestatic 120, 3) := by decide +kernel
theorem dX6_partFault_15 : decode cX6_partFault 15 = .ok (.ifCond .eq 7, 3) := by decide +kernel
theorem dX6_partFault_18 : decode cX6_partFault 18 = .ok (.iconst 0, 1) := by decide +kernel
theorem dX6_partFault_19 : decode cX6_partFault 19 = .ok (.goto 4, 3) := by decide +kernel
theorem dX6_partFault_22 : decode cX6_partFault 22 = .ok (.iconst 2, 1) := by decide +kernel
theorem dX6_partFault_23 : decode cX6_partFault 23 = .ok (.ireturn, 1) := by decide +kernel
set_option maxRecDepth 20000 in
theorem ggX6_keyFault_X6_isBelow : GoodIn wsX6_keyFault wsX6_isBelow := goodIn_r _ [4] (by decide +kernel) (by decide +kernel)
set_option maxRecDepth 20000 in
theorem gX6_keyFault_X6_isBelow : GoodIn wsX6_keyFault (va_wsS RX6 120 yX6_isBelow wsX6_isBelow) := goodIn_app (goodIn_of _ (by decide +kernel)) ggX6_keyFault_X6_isBelow
theorem dX6_keyFault_0 : decode cX6_keyFault 0 = .ok (.iload_n 0, 1) := by decide +kernel
theorem dX6_keyFault_1 : decode cX6_keyFault 1 = .ok (.bipush 100, 2) := by decide +kernel
theorem dX6_keyFault_3 : decode cX6_keyFault 3 = .ok (.invokestatic 120, 3) := by decide +kernel
theorem dX6_keyFault_6 : decode cX6_keyFault 6 = .ok (.ifCond .eq 7, 3) := by decide +kernel
theorem dX6_keyFault_9 : decode cX6_keyFault 9 = .ok (.iconst 0, 1) := by decide +kernel
theorem dX6_keyFault_10 : decode cX6_keyFault 10 = .ok (.goto 4, 3) := by decide +kernel
theorem dX6_keyFault_13 : decode cX6_keyFault 13 = .ok (.iconst 2, 1) := by decide +kernel
theorem dX6_keyFault_14 : decode cX6_keyFault 14 = .ok (.ireturn, 1) := by decide +kernel
theorem dX6_isBelow_0 : decode cX6_isBelow 0 = .ok (.iload_n 0, 1) := by decide +kernel
theorem dX6_isBelow_1 : decode cX6_isBelow 1 = .ok (.ifCond .lt 12, 3) := by decide +kernel
theorem dX6_isBelow_4 : decode cX6_isBelow 4 = .ok (.iload_n 0, 1) := by decide +kernel
theorem dX6_isBelow_5 : decode cX6_isBelow 5 = .ok (.iload_n 1, 1) := by decide +kernel
theorem dX6_isBelow_6 : decode cX6_isBelow 6 = .ok (.if_icmp .ge 7, 3) := by decide +kernel
theorem dX6_isBelow_9 : decode cX6_isBelow 9 = .ok (.iconst 1, 1) := by decide +kernel
theorem dX6_isBelow_10 : decode cX6_isBelow 10 = .ok (.goto 4, 3) := by decide +kernel
theorem dX6_isBelow_13 : decode cX6_isBelow 13 = .ok (.iconst 0, 1) := by decide +kernel
theorem dX6_isBelow_14 : decode cX6_isBelow 14 = .ok (.ireturn, 1) := by decide +kernel
theorem dX6_one_0 : decode cX6_one 0 = .ok (.iload_n 0, 1) := by decide +kernel
theorem dX6_one_1 : decode cX6_one 1 = .ok (.ifCond .eq 7, 3) := by decide +kernel
theorem dX6_one_4 : decode cX6_one 4 = .ok (.iconst 1, 1) := by decide +kernel
theorem dX6_one_5 : decode cX6_one 5 = .ok (.goto 4, 3) := by decide +kernel
theorem dX6_one_8 : decode cX6_one 8 = .ok (.iconst 0, 1) := by decide +kernel
theorem dX6_one_9 : decode cX6_one 9 = .ok (.ireturn, 1) := by decide +kernel
theorem dX6_cell_0 : decode cX6_cell 0 = .ok (.iload_n 1, 1) := by decide +kernel
theorem dX6_cell_1 : decode cX6_cell 1 = .ok (.ifCond .lt 15, 3) := by decide +kernel
theorem dX6_cell_4 : decode cX6_cell 4 = .ok (.iload_n 1, 1) := by decide +kernel
theorem dX6_cell_5 : decode cX6_cell 5 = .ok (.aload_n 0, 1) := by decide +kernel
theorem dX6_cell_6 : decode cX6_cell 6 = .ok (.arraylength, 1) := by decide +kernel
theorem dX6_cell_7 : decode cX6_cell 7 = .ok (.if_icmp .ge 9, 3) := by decide +kernel
theorem dX6_cell_10 : decode cX6_cell 10 = .ok (.aload_n 0, 1) := by decide +kernel
theorem dX6_cell_11 : decode cX6_cell 11 = .ok (.iload_n 1, 1) := by decide +kernel
theorem dX6_cell_12 : decode cX6_cell 12 = .ok (.iaload, 1) := by decide +kernel
theorem dX6_cell_13 : decode cX6_cell 13 = .ok (.goto 6, 3) := by decide +kernel
theorem dX6_cell_16 : decode cX6_cell 16 = .ok (.sipush (-1000), 3) := by decide +kernel
theorem dX6_cell_19 : decode cX6_cell 19 = .ok (.ireturn, 1) := by decide +kernel
theorem dX6_setCell_0 : decode cX6_setCell 0 = .ok (.iload_n 1, 1) := by decide +kernel
theorem dX6_setCell_1 : decode cX6_setCell 1 = .ok (.ifCond .lt 13, 3) := by decide +kernel
theorem dX6_setCell_4 : decode cX6_setCell 4 = .ok (.iload_n 1, 1) := by decide +kernel
theorem dX6_setCell_5 : decode cX6_setCell 5 = .ok (.aload_n 0, 1) := by decide +kernel
theorem dX6_setCell_6 : decode cX6_setCell 6 = .ok (.arraylength, 1) := by decide +kernel
theorem dX6_setCell_7 : decode cX6_setCell 7 = .ok (.if_icmp .ge 7, 3) := by decide +kernel
theorem dX6_setCell_10 : decode cX6_setCell 10 = .ok (.aload_n 0, 1) := by decide +kernel
theorem dX6_setCell_11 : decode cX6_setCell 11 = .ok (.iload_n 1, 1) := by decide +kernel
theorem dX6_setCell_12 : decode cX6_setCell 12 = .ok (.iload_n 2, 1) := by decide +kernel
theorem dX6_setCell_13 : decode cX6_setCell 13 = .ok (.iastore, 1) := by decide +kernel
theorem dX6_setCell_14 : decode cX6_setCell 14 = .ok (.return_, 1) := by decide +kernel
theorem dX6_copyRow_0 : decode cX6_copyRow 0 = .ok (.iconst 0, 1) := by decide +kernel
theorem dX6_copyRow_1 : decode cX6_copyRow 1 = .ok (.istore_n 2, 1) := by decide +kernel
theorem dX6_copyRow_2 : decode cX6_copyRow 2 = .ok (.iload_n 2, 1) := by decide +kernel
theorem dX6_copyRow_3 : decode cX6_copyRow 3 = .ok (.aload_n 0, 1) := by decide +kernel
theorem dX6_copyRow_4 : decode cX6_copyRow 4 = .ok (.arraylength, 1) := by decide +kernel
theorem dX6_copyRow_5 : decode cX6_copyRow 5 = .ok (.if_icmp .ge 21, 3) := by decide +kernel
theorem dX6_copyRow_8 : decode cX6_copyRow 8 = .ok (.iload_n 2, 1) := by decide +kernel
theorem dX6_copyRow_9 : decode cX6_copyRow 9 = .ok (.aload_n 1, 1) := by decide +kernel
theorem dX6_copyRow_10 : decode cX6_copyRow 10 = .ok (.arraylength, 1) := by decide +kernel
theorem dX6_copyRow_11 : decode cX6_copyRow 11 = .ok (.if_icmp .ge 15, 3) := by decide +kernel
theorem dX6_copyRow_14 : decode cX6_copyRow 14 = .ok (.aload_n 1, 1) := by decide +kernel
theorem dX6_copyRow_15 : decode cX6_copyRow 15 = .ok (.iload_n 2, 1) := by decide +kernel
theorem dX6_copyRow_16 : decode cX6_copyRow 16 = .ok (.aload_n 0, 1) := by decide +kernel
theorem dX6_copyRow_17 : decode cX6_copyRow 17 = .ok (.iload_n 2, 1) := by decide +kernel
theorem dX6_copyRow_18 : decode cX6_copyRow 18 = .ok (.iaload, 1) := by decide +kernel
theorem dX6_copyRow_19 : decode cX6_copyRow 19 = .ok (.iastore, 1) := by decide +kernel
theorem dX6_copyRow_20 : decode cX6_copyRow 20 = .ok (.iinc 2 1, 3) := by decide +kernel
theorem dX6_copyRow_23 : decode cX6_copyRow 23 = .ok (.goto (-21), 3) := by decide +kernel
theorem dX6_copyRow_26 : decode cX6_copyRow 26 = .ok (.return_, 1) := by decide +kernel
theorem dX6_fillRow_0 : decode cX6_fillRow 0 = .ok (.iconst 0, 1) := by decide +kernel
theorem dX6_fillRow_1 : decode cX6_fillRow 1 = .ok (.istore_n 2, 1) := by decide +kernel
theorem dX6_fillRow_2 : decode cX6_fillRow 2 = .ok (.iload_n 2, 1) := by decide +kernel
theorem dX6_fillRow_3 : decode cX6_fillRow 3 = .ok (.aload_n 0, 1) := by decide +kernel
theorem dX6_fillRow_4 : decode cX6_fillRow 4 = .ok (.arraylength, 1) := by decide +kernel
theorem dX6_fillRow_5 : decode cX6_fillRow 5 = .ok (.if_icmp .ge 13, 3) := by decide +kernel
theorem dX6_fillRow_8 : decode cX6_fillRow 8 = .ok (.aload_n 0, 1) := by decide +kernel
theorem dX6_fillRow_9 : decode cX6_fillRow 9 = .ok (.iload_n 2, 1) := by decide +kernel
theorem dX6_fillRow_10 : decode cX6_fillRow 10 = .ok (.iload_n 1, 1) := by decide +kernel
theorem dX6_fillRow_11 : decode cX6_fillRow 11 = .ok (.iastore, 1) := by decide +kernel
theorem dX6_fillRow_12 : decode cX6_fillRow 12 = .ok (.iinc 2 1, 3) := by decide +kernel
theorem dX6_fillRow_15 : decode cX6_fillRow 15 = .ok (.goto (-13), 3) := by decide +kernel
theorem dX6_fillRow_18 : decode cX6_fillRow 18 = .ok (.return_, 1) := by decide +kernel
theorem dX7_init_0 : decode cX7_init 0 = .ok (.aload_n 0, 1) := by decide +kernel
theorem dX7_init_1 : decode cX7_init 1 = .ok (.invokespecial 1, 3) := by decide +kernel
theorem dX7_init_4 : decode cX7_init 4 = .ok (.aload_n 0, 1) := by decide +kernel
theorem dX7_init_5 : decode cX7_init 5 = .ok (.sipush 470, 3) := by decide +kernel
theorem dX7_init_8 : decode cX7_init 8 = .ok (.newarray .int, 2) := by decide +kernel
theorem dX7_init_10 : decode cX7_init 10 = .ok (.putfield 7, 3) := by decide +kernel
theorem dX7_init_13 : decode cX7_init 13 = .ok (.aload_n 0, 1) := by decide +kernel
theorem dX7_init_14 : decode cX7_init 14 = .ok (.sipush 470, 3) := by decide +kernel
theorem dX7_init_17 : decode cX7_init 17 = .ok (.newarray .int, 2) := by decide +kernel
theorem dX7_init_19 : decode cX7_init 19 = .ok (.putfield 13, 3) := by decide +kernel
theorem dX7_init_22 : decode cX7_init 22 = .ok (.aload_n 0, 1) := by decide +kernel
theorem dX7_init_23 : decode cX7_init 23 = .ok (.sipush 1880, 3) := by decide +kernel
theorem dX7_init_26 : decode cX7_init 26 = .ok (.newarray .int, 2) := by decide +kernel
theorem dX7_init_28 : decode cX7_init 28 = .ok (.putfield 16, 3) := by decide +kernel
theorem dX7_init_31 : decode cX7_init 31 = .ok (.aload_n 0, 1) := by decide +kernel
theorem dX7_init_32 : decode cX7_init 32 = .ok (.sipush 150, 3) := by decide +kernel
theorem dX7_init_35 : decode cX7_init 35 = .ok (.newarray .int, 2) := by decide +kernel
theorem dX7_init_37 : decode cX7_init 37 = .ok (.putfield 19, 3) := by decide +kernel
theorem dX7_init_40 : decode cX7_init 40 = .ok (.aload_n 0, 1) := by decide +kernel
theorem dX7_init_41 : decode cX7_init 41 = .ok (.bipush 10, 2) := by decide +kernel
theorem dX7_init_43 : decode cX7_init 43 = .ok (.newarray .int, 2) := by decide +kernel
theorem dX7_init_45 : decode cX7_init 45 = .ok (.putfield 22, 3) := by decide +kernel
theorem dX7_init_48 : decode cX7_init 48 = .ok (.aload_n 0, 1) := by decide +kernel
theorem dX7_init_49 : decode cX7_init 49 = .ok (.iconst 2, 1) := by decide +kernel
theorem dX7_init_50 : decode cX7_init 50 = .ok (.newarray .int, 2) := by decide +kernel
theorem dX7_init_52 : decode cX7_init 52 = .ok (.putfield 25, 3) := by decide +kernel
theorem dX7_init_55 : decode cX7_init 55 = .ok (.aload_n 0, 1) := by decide +kernel
theorem dX7_init_56 : decode cX7_init 56 = .ok (.getfield 7, 3) := by decide +kernel
theorem dX7_init_59 : decode cX7_init 59 = .ok (.iconst 0, 1) := by decide +kernel
theorem dX7_init_60 : decode cX7_init 60 = .ok (.iconst 1, 1) := by decide +kernel
theorem dX7_init_61 : decode cX7_init 61 = .ok (.iastore, 1) := by decide +kernel
theorem dX7_init_62 : decode cX7_init 62 = .ok (.aload_n 0, 1) := by decide +kernel
theorem dX7_init_63 : decode cX7_init 63 = .ok (.getfield 7, 3) := by decide +kernel
theorem dX7_init_66 : decode cX7_init 66 = .ok (.iconst 1, 1) := by decide +kernel
theorem dX7_init_67 : decode cX7_init 67 = .ok (.iconst 1, 1) := by decide +kernel
theorem dX7_init_68 : decode cX7_init 68 = .ok (.iastore, 1) := by decide +kernel
theorem dX7_init_69 : decode cX7_init 69 = .ok (.aload_n 0, 1) := by decide +kernel
theorem dX7_init_70 : decode cX7_init 70 = .ok (.getfield 7, 3) := by decide +kernel
theorem dX7_init_73 : decode cX7_init 73 = .ok (.sipush 448, 3) := by decide +kernel
theorem dX7_init_76 : decode cX7_init 76 = .ok (.iconst 1, 1) := by decide +kernel
theorem dX7_init_77 : decode cX7_init 77 = .ok (.iastore, 1) := by decide +kernel
theorem dX7_init_78 : decode cX7_init 78 = .ok (.aload_n 0, 1) := by decide +kernel
theorem dX7_init_79 : decode cX7_init 79 = .ok (.getfield 7, 3) := by decide +kernel
theorem dX7_init_82 : decode cX7_init 82 = .ok (.sipush 449, 3) := by decide +kernel
theorem dX7_init_85 : decode cX7_init 85 = .ok (.iconst 0, 1) := by decide +kernel
theorem dX7_init_86 : decode cX7_init 86 = .ok (.iastore, 1) := by decide +kernel
theorem dX7_init_87 : decode cX7_init 87 = .ok (.aload_n 0, 1) := by decide +kernel
theorem dX7_init_88 : decode cX7_init 88 = .ok (.getfield 7, 3) := by decide +kernel
theorem dX7_init_91 : decode cX7_init 91 = .ok (.sipush 450, 3) := by decide +kernel
theorem dX7_init_94 : decode cX7_init 94 = .ok (.iconst 1, 1) := by decide +kernel
theorem dX7_init_95 : decode cX7_init 95 = .ok (.iastore, 1) := by decide +kernel
theorem dX7_init_96 : decode cX7_init 96 = .ok (.aload_n 0, 1) := by decide +kernel
theorem dX7_init_97 : decode cX7_init 97 = .ok (.getfield 7, 3) := by decide +kernel
theorem dX7_init_100 : decode cX7_init 100 = .ok (.sipush 452, 3) := by decide +kernel
theorem dX7_init_103 : decode cX7_init 103 = .ok (.iconst (-1), 1) := by decide +kernel
theorem dX7_init_104 : decode cX7_init 104 = .ok (.iastore, 1) := by decide +kernel
theorem dX7_init_105 : decode cX7_init 105 = .ok (.aload_n 0, 1) := by decide +kernel
theorem dX7_init_106 : decode cX7_init 106 = .ok (.getfield 7, 3) := by decide +kernel
theorem dX7_init_109 : decode cX7_init 109 = .ok (.sipush 467, 3) := by decide +kernel
theorem dX7_init_112 : decode cX7_init 112 = .ok (.iconst (-1), 1) := by decide +kernel
theorem dX7_init_113 : decode cX7_init 113 = .ok (.iastore, 1) := by decide +kernel
theorem dX7_init_114 : decode cX7_init 114 = .ok (.return_, 1) := by decide +kernel
theorem dX7_thrown_0 : decode cX7_thrown 0 = .ok (.aload_n 0, 1) := by decide +kernel
theorem dX7_thrown_1 : decode cX7_thrown 1 = .ok (.getfield 28, 3) := by decide +kernel
theorem dX7_thrown_4 : decode cX7_thrown 4 = .ok (.ireturn, 1) := by decide +kernel
theorem dX7_in_0 : decode cX7_in 0 = .ok (.iload_n 0, 1) := by decide +kernel
theorem dX7_in_1 : decode cX7_in 1 = .ok (.iload_n 1, 1) := by decide +kernel
theorem dX7_in_2 : decode cX7_in 2 = .ok (.if_icmp .lt 12, 3) := by decide +kernel
theorem dX7_in_5 : decode cX7_in 5 = .ok (.iload_n 0, 1) := by decide +kernel
theorem dX7_in_6 : decode cX7_in 6 = .ok (.iload_n 2, 1) := by decide +kernel
theorem dX7_in_7 : decode cX7_in 7 = .ok (.if_icmp .gt 7, 3) := by decide +kernel
theorem dX7_in_10 : decode cX7_in 10 = .ok (.iconst 1, 1) := by decide +kernel
theorem dX7_in_11 : decode cX7_in 11 = .ok (.goto 4, 3) := by decide +kernel
theorem dX7_in_14 : decode cX7_in 14 = .ok (.iconst 0, 1) := by decide +kernel
theorem dX7_in_15 : decode cX7_in 15 = .ok (.ireturn, 1) := by decide +kernel
theorem dX7_bring_0 : decode cX7_bring 0 = .ok (.iconst 0, 1) := by decide +kernel
theorem dX7_bring_1 : decode cX7_bring 1 = .ok (.istore 4, 2) := by decide +kernel
theorem dX7_bring_3 : decode cX7_bring 3 = .ok (.iload 4, 2) := by decide +kernel
theorem dX7_bring_5 : decode cX7_bring 5 = .ok (.sipush 470, 3) := by decide +kernel
theorem dX7_bring_8 : decode cX7_bring 8 = .ok (.if_icmp .ge 21, 3) := by decide +kernel
theorem dX7_bring_11 : decode cX7_bring 11 = .ok (.aload_n 2, 1) := by decide +kernel
theorem dX7_bring_12 : decode cX7_bring 12 = .ok (.iload_n 3, 1) := by decide +kernel
theorem dX7_bring_13 : decode cX7_bring 13 = .ok (.iload 4, 2) := by decide +kernel
theorem dX7_bring_15 : decode cX7_bring 15 = .ok (.iadd, 1) := by decide +kernel
theorem dX7_bring_16 : decode cX7_bring 16 = .ok (.aload_n 0, 1) := by decide +kernel
theorem dX7_bring_17 : decode cX7_bring 17 = .ok (.iload_n 1, 1) := by decide +kernel
theorem dX7_bring_18 : decode cX7_bring 18 = .ok (.iload 4, 2) := by decide +kernel
theorem dX7_bring_20 : decode cX7_bring 20 = .ok (.iadd, 1) := by decide +kernel
theorem dX7_bring_21 : decode cX7_bring 21 = .ok (.iaload, 1) := by decide +kernel
theorem dX7_bring_22 : decode cX7_bring 22 = .ok (.iastore, 1) := by decide +kernel
theorem dX7_bring_23 : decode cX7_bring 23 = .ok (.iinc 4 1, 3) := by decide +kernel
theorem dX7_bring_26 : decode cX7_bring 26 = .ok (.goto (-23), 3) := by decide +kernel
theorem dX7_bring_29 : decode cX7_bring 29 = .ok (.return_, 1) := by decide +kernel
set_option maxRecDepth 20000 in
theorem ggX7_hold_X7_bring : GoodIn wsX7_hold wsX7_bring := goodIn_r _ [7] (by decide +kernel) (by decide +kernel)
set_option maxRecDepth 20000 in
theorem gX7_hold_X7_bring : GoodIn wsX7_hold (va_wsS RX7 35 yX7_bring wsX7_bring) := goodIn_app (goodIn_of _ (by decide +kernel)) ggX7_hold_X7_bring
theorem dX7_hold_0 : decode cX7_hold 0 = .ok (.aload_n 0, 1) := by decide +kernel
theorem dX7_hold_1 : decode cX7_hold 1 = .ok (.iconst 0, 1) := by decide +kernel
theorem dX7_hold_2 : decode cX7_hold 2 = .ok (.putfield 32, 3) := by decide +kernel
theorem dX7_hold_5 : decode cX7_hold 5 = .ok (.aload_n 0, 1) := by decide +kernel
theorem dX7_hold_6 : decode cX7_hold 6 = .ok (.getfield 7, 3) := by decide +kernel
theorem dX7_hold_9 : decode cX7_hold 9 = .ok (.iconst 0, 1) := by decide +kernel
theorem dX7_hold_10 : decode cX7_hold 10 = .ok (.aload_n 0, 1) := by decide +kernel
theorem dX7_hold_11 : decode cX7_hold 11 = .ok (.getfield 13, 3) := by decide +kernel
theorem dX7_hold_14 : decode cX7_hold 14 = .ok (.iconst 0, 1) := by decide +kernel
theorem dX7_hold_15 : decode cX7_hold 15 = .ok (.invokestatic 35, 3) := by decide +kernel
theorem dX7_hold_18 : decode cX7_hold 18 = .ok (.return_, 1) := by decide +kernel
set_option maxRecDepth 20000 in
theorem ggX7_ends_X7_bring : GoodIn wsX7_ends wsX7_bring := goodIn_r _ [9] (by decide +kernel) (by decide +kernel)
set_option maxRecDepth 20000 in
theorem gX7_ends_X7_bring : GoodIn wsX7_ends (va_wsS RX7 35 yX7_bring wsX7_bring) := goodIn_app (goodIn_of _ (by decide +kernel)) ggX7_ends_X7_bring
theorem dX7_ends_0 : decode cX7_ends 0 = .ok (.aload_n 0, 1) := by decide +kernel
theorem dX7_ends_1 : decode cX7_ends 1 = .ok (.aload_n 0, 1) := by decide +kernel
theorem dX7_ends_2 : decode cX7_ends 2 = .ok (.getfield 32, 3) := by decide +kernel
theorem dX7_ends_5 : decode cX7_ends 5 = .ok (.putfield 28, 3) := by decide +kernel
theorem dX7_ends_8 : decode cX7_ends 8 = .ok (.aload_n 0, 1) := by decide +kernel
theorem dX7_ends_9 : decode cX7_ends 9 = .ok (.getfield 32, 3) := by decide +kernel
theorem dX7_ends_12 : decode cX7_ends 12 = .ok (.ifCond .eq 5, 3) := by decide +kernel
theorem dX7_ends_15 : decode cX7_ends 15 = .ok (.iconst 0, 1) := by decide +kernel
theorem dX7_ends_16 : decode cX7_ends 16 = .ok (.ireturn, 1) := by decide +kernel
theorem dX7_ends_17 : decode cX7_ends 17 = .ok (.aload_n 0, 1) := by decide +kernel
theorem dX7_ends_18 : decode cX7_ends 18 = .ok (.getfield 39, 3) := by decide +kernel
theorem dX7_ends_21 : decode cX7_ends 21 = .ok (.iconst 4, 1) := by decide +kernel
theorem dX7_ends_22 : decode cX7_ends 22 = .ok (.if_icmp .ne 44, 3) := by decide +kernel
theorem dX7_ends_25 : decode cX7_ends 25 = .ok (.iconst 0, 1) := by decide +kernel
theorem dX7_ends_26 : decode cX7_ends 26 = .ok (.istore_n 2, 1) := by decide +kernel
theorem dX7_ends_27 : decode cX7_ends 27 = .ok (.iload_n 2, 1) := by decide +kernel
theorem dX7_ends_28 : decode cX7_ends 28 = .ok (.sipush 1410, 3) := by decide +kernel
theorem dX7_ends_31 : decode cX7_ends 31 = .ok (.if_icmp .ge 25, 3) := by decide +kernel
theorem dX7_ends_34 : decode cX7_ends 34 = .ok (.aload_n 0, 1) := by decide +kernel
theorem dX7_ends_35 : decode cX7_ends 35 = .ok (.getfield 16, 3) := by decide +kernel
theorem dX7_ends_38 : decode cX7_ends 38 = .ok (.iload_n 2, 1) := by decide +kernel
theorem dX7_ends_39 : decode cX7_ends 39 = .ok (.aload_n 0, 1) := by decide +kernel
theorem dX7_ends_40 : decode cX7_ends 40 = .ok (.getfield 16, 3) := by decide +kernel
theorem dX7_ends_43 : decode cX7_ends 43 = .ok (.iload_n 2, 1) := by decide +kernel
theorem dX7_ends_44 : decode cX7_ends 44 = .ok (.sipush 470, 3) := by decide +kernel
theorem dX7_ends_47 : decode cX7_ends 47 = .ok (.iadd, 1) := by decide +kernel
theorem dX7_ends_48 : decode cX7_ends 48 = .ok (.iaload, 1) := by decide +kernel
theorem dX7_ends_49 : decode cX7_ends 49 = .ok (.iastore, 1) := by decide +kernel
theorem dX7_ends_50 : decode cX7_ends 50 = .ok (.iinc 2 1, 3) := by decide +kernel
theorem dX7_ends_53 : decode cX7_ends 53 = .ok (.goto (-26), 3) := by decide +kernel
theorem dX7_ends_56 : decode cX7_ends 56 = .ok (.aload_n 0, 1) := by decide +kernel
theorem dX7_ends_57 : decode cX7_ends 57 = .ok (.dup, 1) := by decide +kernel
theorem dX7_ends_58 : decode cX7_ends 58 = .ok (.getfield 39, 3) := by decide +kernel
theorem dX7_ends_61 : decode cX7_ends 61 = .ok (.iconst 1, 1) := by decide +kernel
theorem dX7_ends_62 : decode cX7_ends 62 = .ok (.isub, 1) := by decide +kernel
theorem dX7_ends_63 : decode cX7_ends 63 = .ok (.putfield 39, 3) := by decide +kernel
theorem dX7_ends_66 : decode cX7_ends 66 = .ok (.aload_n 0, 1) := by decide +kernel
theorem dX7_ends_67 : decode cX7_ends 67 = .ok (.getfield 13, 3) := by decide +kernel
theorem dX7_ends_70 : decode cX7_ends 70 = .ok (.iconst 0, 1) := by decide +kernel
theorem dX7_ends_71 : decode cX7_ends 71 = .ok (.aload_n 0, 1) := by decide +kernel
theorem dX7_ends_72 : decode cX7_ends 72 = .ok (.getfield 16, 3) := by decide +kernel
theorem dX7_ends_75 : decode cX7_ends 75 = .ok (.sipush 470, 3) := by decide +kernel
theorem dX7_ends_78 : decode cX7_ends 78 = .ok (.aload_n 0, 1) := by decide +kernel
theorem dX7_ends_79 : decode cX7_ends 79 = .ok (.getfield 39, 3) := by decide +kernel
theorem dX7_ends_82 : decode cX7_ends 82 = .ok (.imul, 1) := by decide +kernel
theorem dX7_ends_83 : decode cX7_ends 83 = .ok (.invokestatic 35, 3) := by decide +kernel
theorem dX7_ends_86 : decode cX7_ends 86 = .ok (.aload_n 0, 1) := by decide +kernel
theorem dX7_ends_87 : decode cX7_ends 87 = .ok (.dup, 1) := by decide +kernel
theorem dX7_ends_88 : decode cX7_ends 88 = .ok (.getfield 39, 3) := by decide +kernel
theorem dX7_ends_91 : decode cX7_ends 91 = .ok (.iconst 1, 1) := by decide +kernel
theorem dX7_ends_92 : decode cX7_ends 92 = .ok (.iadd, 1) := by decide +kernel
theorem dX7_ends_93 : decode cX7_ends 93 = .ok (.putfield 39, 3) := by decide +kernel
theorem dX7_ends_96 : decode cX7_ends 96 = .ok (.iload_n 1, 1) := by decide +kernel
theorem dX7_ends_97 : decode cX7_ends 97 = .ok (.ireturn, 1) := by decide +kernel
theorem dX7_refuse_0 : decode cX7_refuse 0 = .ok (.aload_n 0, 1) := by decide +kernel
theorem dX7_refuse_1 : decode cX7_refuse 1 = .ok (.iload_n 1, 1) := by decide +kernel
theorem dX7_refuse_2 : decode cX7_refuse 2 = .ok (.putfield 32, 3) := by decide +kernel
theorem dX7_refuse_5 : decode cX7_refuse 5 = .ok (.iconst 0, 1) := by decide +kernel
theorem dX7_refuse_6 : decode cX7_refuse 6 = .ok (.ireturn, 1) := by decide +kernel
theorem dX7_fails_0 : decode cX7_fails 0 = .ok (.aload_n 0, 1) := by decide +kernel
theorem dX7_fails_1 : decode cX7_fails 1 = .ok (.iload_n 1, 1) := by decide +kernel
theorem dX7_fails_2 : decode cX7_fails 2 = .ok (.putfield 28, 3) := by decide +kernel
theorem dX7_fails_5 : decode cX7_fails 5 = .ok (.iconst 0, 1) := by decide +kernel
theorem dX7_fails_6 : decode cX7_fails 6 = .ok (.ireturn, 1) := by decide +kernel
theorem dX7_of_0 : decode cX7_of 0 = .ok (.aload_n 0, 1) := by decide +kernel
theorem dX7_of_1 : decode cX7_of 1 = .ok (.getfield 7, 3) := by decide +kernel
theorem dX7_of_4 : decode cX7_of 4 = .ok (.iconst 0, 1) := by decide +kernel
theorem dX7_of_5 : decode cX7_of 5 = .ok (.bipush 14, 2) := by decide +kernel
theorem dX7_of_7 : decode cX7_of 7 = .ok (.iload_n 1, 1) := by decide +kernel
theorem dX7_of_8 : decode cX7_of 8 = .ok (.imul, 1) := by decide +kernel
theorem dX7_of_9 : decode cX7_of 9 = .ok (.iadd, 1) := by decide +kernel
theorem dX7_of_10 : decode cX7_of 10 = .ok (.iload_n 2, 1) := by decide +kernel
theorem dX7_of_11 : decode cX7_of 11 = .ok (.iadd, 1) := by decide +kernel
theorem dX7_of_12 : decode cX7_of 12 = .ok (.iaload, 1) := by decide +kernel
theorem dX7_of_13 : decode cX7_of 13 = .ok (.ireturn, 1) := by decide +kernel
theorem dX7_lay_0 : decode cX7_lay 0 = .ok (.aload_n 0, 1) := by decide +kernel
theorem dX7_lay_1 : decode cX7_lay 1 = .ok (.getfield 7, 3) := by decide +kernel
theorem dX7_lay_4 : decode cX7_lay 4 = .ok (.iconst 0, 1) := by decide +kernel
theorem dX7_lay_5 : decode cX7_lay 5 = .ok (.bipush 14, 2) := by decide +kernel
theorem dX7_lay_7 : decode cX7_lay 7 = .ok (.iload_n 1, 1) := by decide +kernel
theorem dX7_lay_8 : decode cX7_lay 8 = .ok (.imul, 1) := by decide +kernel
theorem dX7_lay_9 : decode cX7_lay 9 = .ok (.iadd, 1) := by decide +kernel
theorem dX7_lay_10 : decode cX7_lay 10 = .ok (.iload_n 2, 1) := by decide +kernel
theorem dX7_lay_11 : decode cX7_lay 11 = .ok (.iadd, 1) := by decide +kernel
theorem dX7_lay_12 : decode cX7_lay 12 = .ok (.iload_n 3, 1) := by decide +kernel
theorem dX7_lay_13 : decode cX7_lay 13 = .ok (.iastore, 1) := by decide +kernel
theorem dX7_lay_14 : decode cX7_lay 14 = .ok (.return_, 1) := by decide +kernel
theorem dX7_current_0 : decode cX7_current 0 = .ok (.aload_n 0, 1) := by decide +kernel
theorem dX7_current_1 : decode cX7_current 1 = .ok (.getfield 7, 3) := by decide +kernel
theorem dX7_current_4 : decode cX7_current 4 = .ok (.sipush 453, 3) := by decide +kernel
theorem dX7_current_7 : decode cX7_current 7 = .ok (.iaload, 1) := by decide +kernel
theorem dX7_current_8 : decode cX7_current 8 = .ok (.iconst 1, 1) := by decide +kernel
theorem dX7_current_9 : decode cX7_current 9 = .ok (.if_icmp .ne 37, 3) := by decide +kernel
theorem dX7_current_12 : decode cX7_current 12 = .ok (.aload_n 0, 1) := by decide +kernel
theorem dX7_current_13 : decode cX7_current 13 = .ok (.getfield 7, 3) := by decide +kernel
theorem dX7_current_16 : decode cX7_current 16 = .ok (.sipush 450, 3) := by decide +kernel
theorem dX7_current_19 : decode cX7_current 19 = .ok (.iaload, 1) := by decide +kernel
theorem dX7_current_20 : decode cX7_current 20 = .ok (.ifCond .eq 22, 3) := by decide +kernel
theorem dX7_current_23 : decode cX7_current 23 = .ok (.aload_n 0, 1) := by decide +kernel
theorem dX7_current_24 : decode cX7_current 24 = .ok (.getfield 7, 3) := by decide +kernel
theorem dX7_current_27 : decode cX7_current 27 = .ok (.sipush 451, 3) := by decide +kernel
theorem dX7_current_30 : decode cX7_current 30 = .ok (.iaload, 1) := by decide +kernel
theorem dX7_current_31 : decode cX7_current 31 = .ok (.aload_n 0, 1) := by decide +kernel
theorem dX7_current_32 : decode cX7_current 32 = .ok (.getfield 7, 3) := by decide +kernel
theorem dX7_current_35 : decode cX7_current 35 = .ok (.sipush 448, 3) := by decide +kernel
theorem dX7_current_38 : decode cX7_current 38 = .ok (.iaload, 1) := by decide +kernel
theorem dX7_current_39 : decode cX7_current 39 = .ok (.if_icmp .le 7, 3) := by decide +kernel
theorem dX7_current_42 : decode cX7_current 42 = .ok (.iconst 1, 1) := by decide +kernel
theorem dX7_current_43 : decode cX7_current 43 = .ok (.goto 4, 3) := by decide +kernel
theorem dX7_current_46 : decode cX7_current 46 = .ok (.iconst 0, 1) := by decide +kernel
theorem dX7_current_47 : decode cX7_current 47 = .ok (.istore_n 1, 1) := by decide +kernel
theorem dX7_current_48 : decode cX7_current 48 = .ok (.iload_n 1, 1) := by decide +kernel
theorem dX7_current_49 : decode cX7_current 49 = .ok (.ifCond .eq 7, 3) := by decide +kernel
theorem dX7_current_52 : decode cX7_current 52 = .ok (.iconst 1, 1) := by decide +kernel
theorem dX7_current_53 : decode cX7_current 53 = .ok (.goto 4, 3) := by decide +kernel
theorem dX7_current_56 : decode cX7_current 56 = .ok (.iconst 0, 1) := by decide +kernel
theorem dX7_current_57 : decode cX7_current 57 = .ok (.ireturn, 1) := by decide +kernel
theorem dX7_ofRoot_0 : decode cX7_ofRoot 0 = .ok (.aload_n 0, 1) := by decide +kernel
theorem dX7_ofRoot_1 : decode cX7_ofRoot 1 = .ok (.getfield 7, 3) := by decide +kernel
theorem dX7_ofRoot_4 : decode cX7_ofRoot 4 = .ok (.sipush 448, 3) := by decide +kernel
theorem dX7_ofRoot_7 : decode cX7_ofRoot 7 = .ok (.iconst 3, 1) := by decide +kernel
theorem dX7_ofRoot_8 : decode cX7_ofRoot 8 = .ok (.iload_n 1, 1) := by decide +kernel
theorem dX7_ofRoot_9 : decode cX7_ofRoot 9 = .ok (.imul, 1) := by decide +kernel
theorem dX7_ofRoot_10 : decode cX7_ofRoot 10 = .ok (.iadd, 1) := by decide +kernel
theorem dX7_ofRoot_11 : decode cX7_ofRoot 11 = .ok (.iload_n 2, 1) := by decide +kernel
theorem dX7_ofRoot_12 : decode cX7_ofRoot 12 = .ok (.iadd, 1) := by decide +kernel
theorem dX7_ofRoot_13 : decode cX7_ofRoot 13 = .ok (.iaload, 1) := by decide +kernel
theorem dX7_ofRoot_14 : decode cX7_ofRoot 14 = .ok (.ireturn, 1) := by decide +kernel
theorem dX7_ofReader_0 : decode cX7_ofReader 0 = .ok (.aload_n 0, 1) := by decide +kernel
theorem dX7_ofReader_1 : decode cX7_ofReader 1 = .ok (.getfield 7, 3) := by decide +kernel
theorem dX7_ofReader_4 : decode cX7_ofReader 4 = .ok (.sipush 454, 3) := by decide +kernel
theorem dX7_ofReader_7 : decode cX7_ofReader 7 = .ok (.iconst 3, 1) := by decide +kernel
theorem dX7_ofReader_8 : decode cX7_ofReader 8 = .ok (.iload_n 1, 1) := by decide +kernel
theorem dX7_ofReader_9 : decode cX7_ofReader 9 = .ok (.imul, 1) := by decide +kernel
theorem dX7_ofReader_10 : decode cX7_ofReader 10 = .ok (.iadd, 1) := by decide +kernel
theorem dX7_ofReader_11 : decode cX7_ofReader 11 = .ok (.iload_n 2, 1) := by decide +kernel
theorem dX7_ofReader_12 : decode cX7_ofReader 12 = .ok (.iadd, 1) := by decide +kernel
theorem dX7_ofReader_13 : decode cX7_ofReader 13 = .ok (.iaload, 1) := by decide +kernel
theorem dX7_ofReader_14 : decode cX7_ofReader 14 = .ok (.ireturn, 1) := by decide +kernel
set_option maxRecDepth 20000 in
theorem ggX7_needed_X7_current : GoodIn wsX7_needed wsX7_current := goodIn_r _ [5, 6, 15, 16, 17, 18, 19, 20, 21, 22, 23, 24, 25, 26, 27] (by decide +kernel) (by decide +kernel)
set_option maxRecDepth 20000 in
theorem gX7_needed_X7_current : GoodIn wsX7_needed (wsV RX7 42 RX7 yX7_current wsX7_current) := goodIn_app (goodIn_of _ (by decide +kernel)) ggX7_needed_X7_current
set_option maxRecDepth 20000 in
theorem ggX7_needed_X7_ofRoot : GoodIn wsX7_needed wsX7_ofRoot := goodIn_r _ [10, 6, 15, 16, 17, 18, 19, 20, 21, 22, 23, 24, 25, 26, 27] (by decide +kernel) (by decide +kernel)
set_option maxRecDepth 20000 in
theorem gX7_needed_X7_ofRoot : GoodIn wsX7_needed (wsV RX7 46 RX7 yX7_ofRoot wsX7_ofRoot) := goodIn_app (goodIn_of _ (by decide +kernel)) ggX7_needed_X7_ofRoot
set_option maxRecDepth 20000 in
theorem ggX7_needed_X7_ofReader : GoodIn wsX7_needed wsX7_ofReader := goodIn_r _ [14, 6, 15, 16, 17, 18, 19, 20, 21, 22, 23, 24, 25, 26, 27] (by decide +kernel) (by decide +kernel)
set_option maxRecDepth 20000 in
theorem gX7_needed_X7_ofReader : GoodIn wsX7_needed (wsV RX7 50 RX7 yX7_ofReader wsX7_ofReader) := goodIn_app (goodIn_of _ (by decide +kernel)) ggX7_needed_X7_ofReader
theorem dX7_needed_0 : decode cX7_needed 0 = .ok (.aload_n 0, 1) := by decide +kernel
theorem dX7_needed_1 : decode cX7_needed 1 = .ok (.aload_n 0, 1) := by decide +kernel
theorem dX7_needed_2 : decode cX7_needed 2 = .ok (.invokevirtual 42, 3) := by decide +kernel
theorem dX7_needed_5 : decode cX7_needed 5 = .ok (.iconst 0, 1) := by decide +kernel
theorem dX7_needed_6 : decode cX7_needed 6 = .ok (.invokevirtual 46, 3) := by decide +kernel
theorem dX7_needed_9 : decode cX7_needed 9 = .ok (.istore_n 2, 1) := by decide +kernel
theorem dX7_needed_10 : decode cX7_needed 10 = .ok (.iconst 0, 1) := by decide +kernel
theorem dX7_needed_11 : decode cX7_needed 11 = .ok (.istore_n 3, 1) := by decide +kernel
theorem dX7_needed_12 : decode cX7_needed 12 = .ok (.iload_n 3, 1) := by decide +kernel
theorem dX7_needed_13 : decode cX7_needed 13 = .ok (.iconst 2, 1) := by decide +kernel
theorem dX7_needed_14 : decode cX7_needed 14 = .ok (.if_icmp .ge 52, 3) := by decide +kernel
theorem dX7_needed_17 : decode cX7_needed 17 = .ok (.aload_n 0, 1) := by decide +kernel
theorem dX7_needed_18 : decode cX7_needed 18 = .ok (.iload_n 3, 1) := by decide +kernel
theorem dX7_needed_19 : decode cX7_needed 19 = .ok (.iconst 2, 1) := by decide +kernel
theorem dX7_needed_20 : decode cX7_needed 20 = .ok (.invokevirtual 46, 3) := by decide +kernel
theorem dX7_needed_23 : decode cX7_needed 23 = .ok (.iconst 1, 1) := by decide +kernel
theorem dX7_needed_24 : decode cX7_needed 24 = .ok (.if_icmp .ne 17, 3) := by decide +kernel
theorem dX7_needed_27 : decode cX7_needed 27 = .ok (.aload_n 0, 1) := by decide +kernel
theorem dX7_needed_28 : decode cX7_needed 28 = .ok (.iload_n 3, 1) := by decide +kernel
theorem dX7_needed_29 : decode cX7_needed 29 = .ok (.iconst 0, 1) := by decide +kernel
theorem dX7_needed_30 : decode cX7_needed 30 = .ok (.invokevirtual 46, 3) := by decide +kernel
theorem dX7_needed_33 : decode cX7_needed 33 = .ok (.iload_n 2, 1) := by decide +kernel
theorem dX7_needed_34 : decode cX7_needed 34 = .ok (.if_icmp .ge 7, 3) := by decide +kernel
theorem dX7_needed_37 : decode cX7_needed 37 = .ok (.iconst 1, 1) := by decide +kernel
theorem dX7_needed_38 : decode cX7_needed 38 = .ok (.goto 4, 3) := by decide +kernel
theorem dX7_needed_41 : decode cX7_needed 41 = .ok (.iconst 0, 1) := by decide +kernel
theorem dX7_needed_42 : decode cX7_needed 42 = .ok (.istore 4, 2) := by decide +kernel
theorem dX7_needed_44 : decode cX7_needed 44 = .ok (.iload 4, 2) := by decide +kernel
theorem dX7_needed_46 : decode cX7_needed 46 = .ok (.ifCond .eq 12, 3) := by decide +kernel
theorem dX7_needed_49 : decode cX7_needed 49 = .ok (.aload_n 0, 1) := by decide +kernel
theorem dX7_needed_50 : decode cX7_needed 50 = .ok (.iload_n 3, 1) := by decide +kernel
theorem dX7_needed_51 : decode cX7_needed 51 = .ok (.iconst 0, 1) := by decide +kernel
theorem dX7_needed_52 : decode cX7_needed 52 = .ok (.invokevirtual 46, 3) := by decide +kernel
theorem dX7_needed_55 : decode cX7_needed 55 = .ok (.goto 4, 3) := by decide +kernel
theorem dX7_needed_58 : decode cX7_needed 58 = .ok (.iload_n 2, 1) := by decide +kernel
theorem dX7_needed_59 : decode cX7_needed 59 = .ok (.istore_n 2, 1) := by decide +kernel
theorem dX7_needed_60 : decode cX7_needed 60 = .ok (.iinc 3 1, 3) := by decide +kernel
theorem dX7_needed_63 : decode cX7_needed 63 = .ok (.goto (-51), 3) := by decide +kernel
theorem dX7_needed_66 : decode cX7_needed 66 = .ok (.iconst 0, 1) := by decide +kernel
theorem dX7_needed_67 : decode cX7_needed 67 = .ok (.istore_n 3, 1) := by decide +kernel
theorem dX7_needed_68 : decode cX7_needed 68 = .ok (.iload_n 3, 1) := by decide +kernel
theorem dX7_needed_69 : decode cX7_needed 69 = .ok (.iconst 4, 1) := by decide +kernel
theorem dX7_needed_70 : decode cX7_needed 70 = .ok (.if_icmp .ge 57, 3) := by decide +kernel
theorem dX7_needed_73 : decode cX7_needed 73 = .ok (.iload_n 3, 1) := by decide +kernel
theorem dX7_needed_74 : decode cX7_needed 74 = .ok (.iload_n 1, 1) := by decide +kernel
theorem dX7_needed_75 : decode cX7_needed 75 = .ok (.if_icmp .eq 27, 3) := by decide +kernel
theorem dX7_needed_78 : decode cX7_needed 78 = .ok (.aload_n 0, 1) := by decide +kernel
theorem dX7_needed_79 : decode cX7_needed 79 = .ok (.iload_n 3, 1) := by decide +kernel
theorem dX7_needed_80 : decode cX7_needed 80 = .ok (.iconst 0, 1) := by decide +kernel
theorem dX7_needed_81 : decode cX7_needed 81 = .ok (.invokevirtual 50, 3) := by decide +kernel
theorem dX7_needed_84 : decode cX7_needed 84 = .ok (.iconst 1, 1) := by decide +kernel
theorem dX7_needed_85 : decode cX7_needed 85 = .ok (.if_icmp .ne 17, 3) := by decide +kernel
theorem dX7_needed_88 : decode cX7_needed 88 = .ok (.aload_n 0, 1) := by decide +kernel
theorem dX7_needed_89 : decode cX7_needed 89 = .ok (.iload_n 3, 1) := by decide +kernel
theorem dX7_needed_90 : decode cX7_needed 90 = .ok (.iconst 1, 1) := by decide +kernel
theorem dX7_needed_91 : decode cX7_needed 91 = .ok (.invokevirtual 50, 3) := by decide +kernel
theorem dX7_needed_94 : decode cX7_needed 94 = .ok (.iload_n 2, 1) := by decide +kernel
theorem dX7_needed_95 : decode cX7_needed 95 = .ok (.if_icmp .ge 7, 3) := by decide +kernel
theorem dX7_needed_98 : decode cX7_needed 98 = .ok (.iconst 1, 1) := by decide +kernel
theorem dX7_needed_99 : decode cX7_needed 99 = .ok (.goto 4, 3) := by decide +kernel
theorem dX7_needed_102 : decode cX7_needed 102 = .ok (.iconst 0, 1) := by decide +kernel
theorem dX7_needed_103 : decode cX7_needed 103 = .ok (.istore 4, 2) := by decide +kernel
theorem dX7_needed_105 : decode cX7_needed 105 = .ok (.iload 4, 2) := by decide +kernel
theorem dX7_needed_107 : decode cX7_needed 107 = .ok (.ifCond .eq 12, 3) := by decide +kernel
theorem dX7_needed_110 : decode cX7_needed 110 = .ok (.aload_n 0, 1) := by decide +kernel
theorem dX7_needed_111 : decode cX7_needed 111 = .ok (.iload_n 3, 1) := by decide +kernel
theorem dX7_needed_112 : decode cX7_needed 112 = .ok (.iconst 1, 1) := by decide +kernel
theorem dX7_needed_113 : decode cX7_needed 113 = .ok (.invokevirtual 50, 3) := by decide +kernel
theorem dX7_needed_116 : decode cX7_needed 116 = .ok (.goto 4, 3) := by decide +kernel
theorem dX7_needed_119 : decode cX7_needed 119 = .ok (.iload_n 2, 1) := by decide +kernel
theorem dX7_needed_120 : decode cX7_needed 120 = .ok (.istore_n 2, 1) := by decide +kernel
theorem dX7_needed_121 : decode cX7_needed 121 = .ok (.iinc 3 1, 3) := by decide +kernel
theorem dX7_needed_124 : decode cX7_needed 124 = .ok (.goto (-56), 3) := by decide +kernel
theorem dX7_needed_127 : decode cX7_needed 127 = .ok (.iload_n 2, 1) := by decide +kernel
theorem dX7_needed_128 : decode cX7_needed 128 = .ok (.ireturn, 1) := by decide +kernel
set_option maxRecDepth 20000 in
theorem ggX7_canBeDug_X7_of : GoodIn wsX7_canBeDug wsX7_of := goodIn_r _ [5, 6, 23, 24, 25, 26, 27, 28, 29, 30, 31, 32, 33, 34, 35] (by decide +kernel) (by decide +kernel)
set_option maxRecDepth 20000 in
theorem gX7_canBeDug_X7_of : GoodIn wsX7_canBeDug (wsV RX7 53 RX7 yX7_of wsX7_of) := goodIn_app (goodIn_of _ (by decide +kernel)) ggX7_canBeDug_X7_of
set_option maxRecDepth 20000 in
theorem ggX7_canBeDug_X7_needed : GoodIn wsX7_canBeDug wsX7_needed := goodIn_r _ [10, 11, 12, 13, 4, 14, 6, 15, 16, 17, 18, 19, 20, 21, 22, 23, 24, 25, 26, 27, 28, 29, 30, 31, 32, 33, 34, 35] (by decide +kernel) (by decide +kernel)
set_option maxRecDepth 20000 in
theorem gX7_canBeDug_X7_needed : GoodIn wsX7_canBeDug (wsV RX7 56 RX7 yX7_needed wsX7_needed) := goodIn_app (goodIn_of _ (by decide +kernel)) ggX7_canBeDug_X7_needed
theorem dX7_canBeDug_0 : decode cX7_canBeDug 0 = .ok (.aload_n 0, 1) := by decide +kernel
theorem dX7_canBeDug_1 : decode cX7_canBeDug 1 = .ok (.iload_n 1, 1) := by decide +kernel
theorem dX7_canBeDug_2 : decode cX7_canBeDug 2 = .ok (.iconst 0, 1) := by decide +kernel
theorem dX7_canBeDug_3 : decode cX7_canBeDug 3 = .ok (.invokevirtual 53, 3) := by decide +kernel
theorem dX7_canBeDug_6 : decode cX7_canBeDug 6 = .ok (.iconst 2, 1) := by decide +kernel
theorem dX7_canBeDug_7 : decode cX7_canBeDug 7 = .ok (.if_icmp .ne 21, 3) := by decide +kernel
theorem dX7_canBeDug_10 : decode cX7_canBeDug 10 = .ok (.aload_n 0, 1) := by decide +kernel
theorem dX7_canBeDug_11 : decode cX7_canBeDug 11 = .ok (.iload_n 1, 1) := by decide +kernel
theorem dX7_canBeDug_12 : decode cX7_canBeDug 12 = .ok (.iconst 3, 1) := by decide +kernel
theorem dX7_canBeDug_13 : decode cX7_canBeDug 13 = .ok (.invokevirtual 53, 3) := by decide +kernel
theorem dX7_canBeDug_16 : decode cX7_canBeDug 16 = .ok (.aload_n 0, 1) := by decide +kernel
theorem dX7_canBeDug_17 : decode cX7_canBeDug 17 = .ok (.iconst (-1), 1) := by decide +kernel
theorem dX7_canBeDug_18 : decode cX7_canBeDug 18 = .ok (.invokevirtual 56, 3) := by decide +kernel
theorem dX7_canBeDug_21 : decode cX7_canBeDug 21 = .ok (.if_icmp .gt 7, 3) := by decide +kernel
theorem dX7_canBeDug_24 : decode cX7_canBeDug 24 = .ok (.iconst 1, 1) := by decide +kernel
theorem dX7_canBeDug_25 : decode cX7_canBeDug 25 = .ok (.goto 4, 3) := by decide +kernel
theorem dX7_canBeDug_28 : decode cX7_canBeDug 28 = .ok (.iconst 0, 1) := by decide +kernel
theorem dX7_canBeDug_29 : decode cX7_canBeDug 29 = .ok (.ireturn, 1) := by decide +kernel
set_option maxRecDepth 20000 in
theorem ggX7_nextNow_X7_canBeDug : GoodIn wsX7_nextNow wsX7_canBeDug := goodIn_r _ [5, 6, 7, 8, 4, 9, 10, 11, 12, 13, 14, 15, 16, 17, 18, 19, 20, 21, 22, 23, 24, 25, 26, 27, 28, 29, 30, 31, 32, 33, 34, 35, 36, 37, 38, 39] (by decide +kernel) (by decide +kernel)
set_option maxRecDepth 20000 in
theorem gX7_nextNow_X7_canBeDug : GoodIn wsX7_nextNow (wsV RX7 60 RX7 yX7_canBeDug wsX7_canBeDug) := goodIn_app (goodIn_of _ (by decide +kernel)) ggX7_nextNow_X7_canBeDug
set_option maxRecDepth 20000 in
theorem ggX7_nextNow_X7_of : GoodIn wsX7_nextNow wsX7_of := goodIn_r _ [9, 10, 27, 28, 29, 30, 31, 32, 33, 34, 35, 36, 37, 38, 39] (by decide +kernel) (by decide +kernel)
set_option maxRecDepth 20000 in
theorem gX7_nextNow_X7_of : GoodIn wsX7_nextNow (wsV RX7 53 RX7 yX7_of wsX7_of) := goodIn_app (goodIn_of _ (by decide +kernel)) ggX7_nextNow_X7_of
theorem dX7_nextNow_0 : decode cX7_nextNow 0 = .ok (.iconst (-1), 1) := by decide +kernel
theorem dX7_nextNow_1 : decode cX7_nextNow 1 = .ok (.istore_n 1, 1) := by decide +kernel
theorem dX7_nextNow_2 : decode cX7_nextNow 2 = .ok (.iconst 0, 1) := by decide +kernel
theorem dX7_nextNow_3 : decode cX7_nextNow 3 = .ok (.istore_n 2, 1) := by decide +kernel
theorem dX7_nextNow_4 : decode cX7_nextNow 4 = .ok (.iload_n 2, 1) := by decide +kernel
theorem dX7_nextNow_5 : decode cX7_nextNow 5 = .ok (.bipush 32, 2) := by decide +kernel
theorem dX7_nextNow_7 : decode cX7_nextNow 7 = .ok (.if_icmp .ge 52, 3) := by decide +kernel
theorem dX7_nextNow_10 : decode cX7_nextNow 10 = .ok (.aload_n 0, 1) := by decide +kernel
theorem dX7_nextNow_11 : decode cX7_nextNow 11 = .ok (.iload_n 2, 1) := by decide +kernel
theorem dX7_nextNow_12 : decode cX7_nextNow 12 = .ok (.invokevirtual 60, 3) := by decide +kernel
theorem dX7_nextNow_15 : decode cX7_nextNow 15 = .ok (.ifCond .eq 26, 3) := by decide +kernel
theorem dX7_nextNow_18 : decode cX7_nextNow 18 = .ok (.iload_n 1, 1) := by decide +kernel
theorem dX7_nextNow_19 : decode cX7_nextNow 19 = .ok (.ifCond .lt 18, 3) := by decide +kernel
theorem dX7_nextNow_22 : decode cX7_nextNow 22 = .ok (.aload_n 0, 1) := by decide +kernel
theorem dX7_nextNow_23 : decode cX7_nextNow 23 = .ok (.iload_n 2, 1) := by decide +kernel
theorem dX7_nextNow_24 : decode cX7_nextNow 24 = .ok (.iconst 3, 1) := by decide +kernel
theorem dX7_nextNow_25 : decode cX7_nextNow 25 = .ok (.invokevirtual 53, 3) := by decide +kernel
theorem dX7_nextNow_28 : decode cX7_nextNow 28 = .ok (.aload_n 0, 1) := by decide +kernel
theorem dX7_nextNow_29 : decode cX7_nextNow 29 = .ok (.iload_n 1, 1) := by decide +kernel
theorem dX7_nextNow_30 : decode cX7_nextNow 30 = .ok (.iconst 3, 1) := by decide +kernel
theorem dX7_nextNow_31 : decode cX7_nextNow 31 = .ok (.invokevirtual 53, 3) := by decide +kernel
theorem dX7_nextNow_34 : decode cX7_nextNow 34 = .ok (.if_icmp .ge 7, 3) := by decide +kernel
theorem dX7_nextNow_37 : decode cX7_nextNow 37 = .ok (.iconst 1, 1) := by decide +kernel
theorem dX7_nextNow_38 : decode cX7_nextNow 38 = .ok (.goto 4, 3) := by decide +kernel
theorem dX7_nextNow_41 : decode cX7_nextNow 41 = .ok (.iconst 0, 1) := by decide +kernel
theorem dX7_nextNow_42 : decode cX7_nextNow 42 = .ok (.istore_n 3, 1) := by decide +kernel
theorem dX7_nextNow_43 : decode cX7_nextNow 43 = .ok (.iload_n 3, 1) := by decide +kernel
theorem dX7_nextNow_44 : decode cX7_nextNow 44 = .ok (.ifCond .eq 7, 3) := by decide +kernel
theorem dX7_nextNow_47 : decode cX7_nextNow 47 = .ok (.iload_n 2, 1) := by decide +kernel
theorem dX7_nextNow_48 : decode cX7_nextNow 48 = .ok (.goto 4, 3) := by decide +kernel
theorem dX7_nextNow_51 : decode cX7_nextNow 51 = .ok (.iload_n 1, 1) := by decide +kernel
theorem dX7_nextNow_52 : decode cX7_nextNow 52 = .ok (.istore_n 1, 1) := by decide +kernel
theorem dX7_nextNow_53 : decode cX7_nextNow 53 = .ok (.iinc 2 1, 3) := by decide +kernel
theorem dX7_nextNow_56 : decode cX7_nextNow 56 = .ok (.goto (-52), 3) := by decide +kernel
theorem dX7_nextNow_59 : decode cX7_nextNow 59 = .ok (.bipush 31, 2) := by decide +kernel
theorem dX7_nextNow_61 : decode cX7_nextNow 61 = .ok (.istore_n 2, 1) := by decide +kernel
theorem dX7_nextNow_62 : decode cX7_nextNow 62 = .ok (.iload_n 2, 1) := by decide +kernel
theorem dX7_nextNow_63 : decode cX7_nextNow 63 = .ok (.ifCond .lt 37, 3) := by decide +kernel
theorem dX7_nextNow_66 : decode cX7_nextNow 66 = .ok (.iload_n 1, 1) := by decide +kernel
theorem dX7_nextNow_67 : decode cX7_nextNow 67 = .ok (.ifCond .lt 12, 3) := by decide +kernel
theorem dX7_nextNow_70 : decode cX7_nextNow 70 = .ok (.aload_n 0, 1) := by decide +kernel
theorem dX7_nextNow_71 : decode cX7_nextNow 71 = .ok (.iload_n 1, 1) := by decide +kernel
theorem dX7_nextNow_72 : decode cX7_nextNow 72 = .ok (.iconst 0, 1) := by decide +kernel
theorem dX7_nextNow_73 : decode cX7_nextNow 73 = .ok (.invokevirtual 53, 3) := by decide +kernel
theorem dX7_nextNow_76 : decode cX7_nextNow 76 = .ok (.ifCond .ne 24, 3) := by decide +kernel
theorem dX7_nextNow_79 : decode cX7_nextNow 79 = .ok (.aload_n 0, 1) := by decide +kernel
theorem dX7_nextNow_80 : decode cX7_nextNow 80 = .ok (.iload_n 2, 1) := by decide +kernel
theorem dX7_nextNow_81 : decode cX7_nextNow 81 = .ok (.iconst 0, 1) := by decide +kernel
theorem dX7_nextNow_82 : decode cX7_nextNow 82 = .ok (.invokevirtual 53, 3) := by decide +kernel
theorem dX7_nextNow_85 : decode cX7_nextNow 85 = .ok (.ifCond .ne 7, 3) := by decide +kernel
theorem dX7_nextNow_88 : decode cX7_nextNow 88 = .ok (.iload_n 2, 1) := by decide +kernel
theorem dX7_nextNow_89 : decode cX7_nextNow 89 = .ok (.goto 4, 3) := by decide +kernel
theorem dX7_nextNow_92 : decode cX7_nextNow 92 = .ok (.iload_n 1, 1) := by decide +kernel
theorem dX7_nextNow_93 : decode cX7_nextNow 93 = .ok (.istore_n 1, 1) := by decide +kernel
theorem dX7_nextNow_94 : decode cX7_nextNow 94 = .ok (.iinc 2 (-1), 3) := by decide +kernel
theorem dX7_nextNow_97 : decode cX7_nextNow 97 = .ok (.goto (-35), 3) := by decide +kernel
theorem dX7_nextNow_100 : decode cX7_nextNow 100 = .ok (.iload_n 1, 1) := by decide +kernel
theorem dX7_nextNow_101 : decode cX7_nextNow 101 = .ok (.ireturn, 1) := by decide +kernel
set_option maxRecDepth 20000 in
theorem ggX7_manyToDig_X7_canBeDug : GoodIn wsX7_manyToDig wsX7_canBeDug := goodIn_r _ [5, 6, 7, 8, 4, 9, 10, 11, 12, 13, 14, 15, 16, 17, 18, 19, 20, 21, 22, 23, 24, 25, 26, 27, 28, 29, 30, 31, 32, 33, 34, 35, 36, 37, 38, 39] (by decide +kernel) (by decide +kernel)
set_option maxRecDepth 20000 in
theorem gX7_manyToDig_X7_canBeDug : GoodIn wsX7_manyToDig (wsV RX7 60 RX7 yX7_canBeDug wsX7_canBeDug) := goodIn_app (goodIn_of _ (by decide +kernel)) ggX7_manyToDig_X7_canBeDug
set_option maxRecDepth 20000 in
theorem ggX7_manyToDig_X7_of : GoodIn wsX7_manyToDig wsX7_of := goodIn_r _ [9, 10, 27, 28, 29, 30, 31, 32, 33, 34, 35, 36, 37, 38, 39] (by decide +kernel) (by decide +kernel)
set_option maxRecDepth 20000 in
theorem gX7_manyToDig_X7_of : GoodIn wsX7_manyToDig (wsV RX7 53 RX7 yX7_of wsX7_of) := goodIn_app (goodIn_of _ (by decide +kernel)) ggX7_manyToDig_X7_of
theorem dX7_manyToDig_0 : decode cX7_manyToDig 0 = .ok (.iconst 0, 1) := by decide +kernel
theorem dX7_manyToDig_1 : decode cX7_manyToDig 1 = .ok (.istore_n 1, 1) := by decide +kernel
theorem dX7_manyToDig_2 : decode cX7_manyToDig 2 = .ok (.iconst 0, 1) := by decide +kernel
theorem dX7_manyToDig_3 : decode cX7_manyToDig 3 = .ok (.istore_n 2, 1) := by decide +kernel
theorem dX7_manyToDig_4 : decode cX7_manyToDig 4 = .ok (.iload_n 2, 1) := by decide +kernel
theorem dX7_manyToDig_5 : decode cX7_manyToDig 5 = .ok (.bipush 32, 2) := by decide +kernel
theorem dX7_manyToDig_7 : decode cX7_manyToDig 7 = .ok (.if_icmp .ge 34, 3) := by decide +kernel
theorem dX7_manyToDig_10 : decode cX7_manyToDig 10 = .ok (.iload_n 1, 1) := by decide +kernel
theorem dX7_manyToDig_11 : decode cX7_manyToDig 11 = .ok (.aload_n 0, 1) := by decide +kernel
theorem dX7_manyToDig_12 : decode cX7_manyToDig 12 = .ok (.iload_n 2, 1) := by decide +kernel
theorem dX7_manyToDig_13 : decode cX7_manyToDig 13 = .ok (.invokevirtual 60, 3) := by decide +kernel
theorem dX7_manyToDig_16 : decode cX7_manyToDig 16 = .ok (.ifCond .ne 12, 3) := by decide +kernel
theorem dX7_manyToDig_19 : decode cX7_manyToDig 19 = .ok (.aload_n 0, 1) := by decide +kernel
theorem dX7_manyToDig_20 : decode cX7_manyToDig 20 = .ok (.iload_n 2, 1) := by decide +kernel
theorem dX7_manyToDig_21 : decode cX7_manyToDig 21 = .ok (.iconst 0, 1) := by decide +kernel
theorem dX7_manyToDig_22 : decode cX7_manyToDig 22 = .ok (.invokevirtual 53, 3) := by decide +kernel
theorem dX7_manyToDig_25 : decode cX7_manyToDig 25 = .ok (.ifCond .ne 7, 3) := by decide +kernel
theorem dX7_manyToDig_28 : decode cX7_manyToDig 28 = .ok (.iconst 1, 1) := by decide +kernel
theorem dX7_manyToDig_29 : decode cX7_manyToDig 29 = .ok (.goto 4, 3) := by decide +kernel
theorem dX7_manyToDig_32 : decode cX7_manyToDig 32 = .ok (.iconst 0, 1) := by decide +kernel
theorem dX7_manyToDig_33 : decode cX7_manyToDig 33 = .ok (.iadd, 1) := by decide +kernel
theorem dX7_manyToDig_34 : decode cX7_manyToDig 34 = .ok (.istore_n 1, 1) := by decide +kernel
theorem dX7_manyToDig_35 : decode cX7_manyToDig 35 = .ok (.iinc 2 1, 3) := by decide +kernel
theorem dX7_manyToDig_38 : decode cX7_manyToDig 38 = .ok (.goto (-34), 3) := by decide +kernel
theorem dX7_manyToDig_41 : decode cX7_manyToDig 41 = .ok (.iload_n 1, 1) := by decide +kernel
theorem dX7_manyToDig_42 : decode cX7_manyToDig 42 = .ok (.ireturn, 1) := by decide +kernel
set_option maxRecDepth 20000 in
theorem ggX7_dig_X7_nextNow : GoodIn wsX7_dig wsX7_nextNow := goodIn_r _ [5, 6, 7, 8, 4, 9, 10, 11, 12, 13, 14, 15, 16, 17, 18, 19, 20, 21, 22, 23, 24, 25, 26, 27, 28, 29, 30, 35, 36, 37, 38, 39, 40, 41, 42, 43, 44, 45, 46, 47] (by decide +kernel) (by decide +kernel)
set_option maxRecDepth 20000 in
theorem gX7_dig_X7_nextNow : GoodIn wsX7_dig (wsV RX7 64 RX7 yX7_nextNow wsX7_nextNow) := goodIn_app (goodIn_of _ (by decide +kernel)) ggX7_dig_X7_nextNow
set_option maxRecDepth 20000 in
theorem ggX7_dig_X7_lay : GoodIn wsX7_dig wsX7_lay := goodIn_r _ [34, 14, 35, 36, 37, 38, 39, 40, 41, 42, 43, 44, 45, 46, 47] (by decide +kernel) (by decide +kernel)
set_option maxRecDepth 20000 in
theorem gX7_dig_X7_lay : GoodIn wsX7_dig (wsV RX7 67 RX7 yX7_lay wsX7_lay) := goodIn_app (goodIn_of _ (by decide +kernel)) ggX7_dig_X7_lay
theorem dX7_dig_0 : decode cX7_dig 0 = .ok (.aload_n 0, 1) := by decide +kernel
theorem dX7_dig_1 : decode cX7_dig 1 = .ok (.invokevirtual 64, 3) := by decide +kernel
theorem dX7_dig_4 : decode cX7_dig 4 = .ok (.istore_n 2, 1) := by decide +kernel
theorem dX7_dig_5 : decode cX7_dig 5 = .ok (.aload_n 0, 1) := by decide +kernel
theorem dX7_dig_6 : decode cX7_dig 6 = .ok (.iload_n 2, 1) := by decide +kernel
theorem dX7_dig_7 : decode cX7_dig 7 = .ok (.iconst 0, 1) := by decide +kernel
theorem dX7_dig_8 : decode cX7_dig 8 = .ok (.iconst 1, 1) := by decide +kernel
theorem dX7_dig_9 : decode cX7_dig 9 = .ok (.invokevirtual 67, 3) := by decide +kernel
theorem dX7_dig_12 : decode cX7_dig 12 = .ok (.aload_n 0, 1) := by decide +kernel
theorem dX7_dig_13 : decode cX7_dig 13 = .ok (.iload_n 2, 1) := by decide +kernel
theorem dX7_dig_14 : decode cX7_dig 14 = .ok (.iconst 1, 1) := by decide +kernel
theorem dX7_dig_15 : decode cX7_dig 15 = .ok (.iload_n 1, 1) := by decide +kernel
theorem dX7_dig_16 : decode cX7_dig 16 = .ok (.invokevirtual 67, 3) := by decide +kernel
theorem dX7_dig_19 : decode cX7_dig 19 = .ok (.aload_n 0, 1) := by decide +kernel
theorem dX7_dig_20 : decode cX7_dig 20 = .ok (.iload_n 2, 1) := by decide +kernel
theorem dX7_dig_21 : decode cX7_dig 21 = .ok (.iconst 2, 1) := by decide +kernel
theorem dX7_dig_22 : decode cX7_dig 22 = .ok (.iconst 0, 1) := by decide +kernel
theorem dX7_dig_23 : decode cX7_dig 23 = .ok (.invokevirtual 67, 3) := by decide +kernel
theorem dX7_dig_26 : decode cX7_dig 26 = .ok (.aload_n 0, 1) := by decide +kernel
theorem dX7_dig_27 : decode cX7_dig 27 = .ok (.iload_n 2, 1) := by decide +kernel
theorem dX7_dig_28 : decode cX7_dig 28 = .ok (.iconst 3, 1) := by decide +kernel
theorem dX7_dig_29 : decode cX7_dig 29 = .ok (.iconst 0, 1) := by decide +kernel
theorem dX7_dig_30 : decode cX7_dig 30 = .ok (.invokevirtual 67, 3) := by decide +kernel
theorem dX7_dig_33 : decode cX7_dig 33 = .ok (.aload_n 0, 1) := by decide +kernel
theorem dX7_dig_34 : decode cX7_dig 34 = .ok (.iload_n 2, 1) := by decide +kernel
theorem dX7_dig_35 : decode cX7_dig 35 = .ok (.iconst 4, 1) := by decide +kernel
theorem dX7_dig_36 : decode cX7_dig 36 = .ok (.iconst 1, 1) := by decide +kernel
theorem dX7_dig_37 : decode cX7_dig 37 = .ok (.invokevirtual 67, 3) := by decide +kernel
theorem dX7_dig_40 : decode cX7_dig 40 = .ok (.aload_n 0, 1) := by decide +kernel
theorem dX7_dig_41 : decode cX7_dig 41 = .ok (.iload_n 2, 1) := by decide +kernel
theorem dX7_dig_42 : decode cX7_dig 42 = .ok (.iconst 5, 1) := by decide +kernel
theorem dX7_dig_43 : decode cX7_dig 43 = .ok (.iconst 0, 1) := by decide +kernel
theorem dX7_dig_44 : decode cX7_dig 44 = .ok (.invokevirtual 67, 3) := by decide +kernel
theorem dX7_dig_47 : decode cX7_dig 47 = .ok (.iload_n 2, 1) := by decide +kernel
theorem dX7_dig_48 : decode cX7_dig 48 = .ok (.ireturn, 1) := by decide +kernel
set_option maxRecDepth 20000 in
theorem ggX7_becomesWild_X7_lay : GoodIn wsX7_becomesWild wsX7_lay := goodIn_r _ [5, 6, 7, 8, 9, 10, 11, 12, 13, 14, 15, 16, 17, 18, 19] (by decide +kernel) (by decide +kernel)
set_option maxRecDepth 20000 in
theorem gX7_becomesWild_X7_lay : GoodIn wsX7_becomesWild (wsV RX7 67 RX7 yX7_lay wsX7_lay) := goodIn_app (goodIn_of _ (by decide +kernel)) ggX7_becomesWild_X7_lay
theorem dX7_becomesWild_0 : decode cX7_becomesWild 0 = .ok (.iconst 0, 1) := by decide +kernel
theorem dX7_becomesWild_1 : decode cX7_becomesWild 1 = .ok (.istore_n 2, 1) := by decide +kernel
theorem dX7_becomesWild_2 : decode cX7_becomesWild 2 = .ok (.iload_n 2, 1) := by decide +kernel
theorem dX7_becomesWild_3 : decode cX7_becomesWild 3 = .ok (.bipush 14, 2) := by decide +kernel
theorem dX7_becomesWild_5 : decode cX7_becomesWild 5 = .ok (.if_icmp .ge 16, 3) := by decide +kernel
theorem dX7_becomesWild_8 : decode cX7_becomesWild 8 = .ok (.aload_n 0, 1) := by decide +kernel
theorem dX7_becomesWild_9 : decode cX7_becomesWild 9 = .ok (.iload_n 1, 1) := by decide +kernel
theorem dX7_becomesWild_10 : decode cX7_becomesWild 10 = .ok (.iload_n 2, 1) := by decide +kernel
theorem dX7_becomesWild_11 : decode cX7_becomesWild 11 = .ok (.iconst 0, 1) := by decide +kernel
theorem dX7_becomesWild_12 : decode cX7_becomesWild 12 = .ok (.invokevirtual 67, 3) := by decide +kernel
theorem dX7_becomesWild_15 : decode cX7_becomesWild 15 = .ok (.iinc 2 1, 3) := by decide +kernel
theorem dX7_becomesWild_18 : decode cX7_becomesWild 18 = .ok (.goto (-16), 3) := by decide +kernel
theorem dX7_becomesWild_21 : decode cX7_becomesWild 21 = .ok (.return_, 1) := by decide +kernel
set_option maxRecDepth 20000 in
theorem ggX7_leaves_X7_of : GoodIn wsX7_leaves wsX7_of := goodIn_r _ [5, 6, 15, 16, 17, 18, 19, 20, 21, 22, 23, 24, 25, 26, 27] (by decide +kernel) (by decide +kernel)
set_option maxRecDepth 20000 in
theorem gX7_leaves_X7_of : GoodIn wsX7_leaves (wsV RX7 53 RX7 yX7_of wsX7_of) := goodIn_app (goodIn_of _ (by decide +kernel)) ggX7_leaves_X7_of
set_option maxRecDepth 20000 in
theorem ggX7_leaves_X7_becomesWild : GoodIn wsX7_leaves wsX7_becomesWild := goodIn_r _ [10, 11, 12, 13, 4, 14, 6, 15, 16, 17, 18, 19, 20, 21, 22, 23, 24, 25, 26, 27] (by decide +kernel) (by decide +kernel)
set_option maxRecDepth 20000 in
theorem gX7_leaves_X7_becomesWild : GoodIn wsX7_leaves (wsV RX7 71 RX7 yX7_becomesWild wsX7_becomesWild) := goodIn_app (goodIn_of _ (by decide +kernel)) ggX7_leaves_X7_becomesWild
set_option maxRecDepth 20000 in
theorem ggX7_leaves_X7_lay : GoodIn wsX7_leaves wsX7_lay := goodIn_r _ [14, 6, 15, 16, 17, 18, 19, 20, 21, 22, 23, 24, 25, 26, 27] (by decide +kernel) (by decide +kernel)
set_option maxRecDepth 20000 in
theorem gX7_leaves_X7_lay : GoodIn wsX7_leaves (wsV RX7 67 RX7 yX7_lay wsX7_lay) := goodIn_app (goodIn_of _ (by decide +kernel)) ggX7_leaves_X7_lay
theorem dX7_leaves_0 : decode cX7_leaves 0 = .ok (.aload_n 0, 1) := by decide +kernel
theorem dX7_leaves_1 : decode cX7_leaves 1 = .ok (.iload_n 1, 1) := by decide +kernel
theorem dX7_leaves_2 : decode cX7_leaves 2 = .ok (.iconst 4, 1) := by decide +kernel
theorem dX7_leaves_3 : decode cX7_leaves 3 = .ok (.invokevirtual 53, 3) := by decide +kernel
theorem dX7_leaves_6 : decode cX7_leaves 6 = .ok (.iconst 1, 1) := by decide +kernel
theorem dX7_leaves_7 : decode cX7_leaves 7 = .ok (.if_icmp .ne 11, 3) := by decide +kernel
theorem dX7_leaves_10 : decode cX7_leaves 10 = .ok (.aload_n 0, 1) := by decide +kernel
theorem dX7_leaves_11 : decode cX7_leaves 11 = .ok (.iload_n 1, 1) := by decide +kernel
theorem dX7_leaves_12 : decode cX7_leaves 12 = .ok (.invokevirtual 71, 3) := by decide +kernel
theorem dX7_leaves_15 : decode cX7_leaves 15 = .ok (.goto 10, 3) := by decide +kernel
theorem dX7_leaves_18 : decode cX7_leaves 18 = .ok (.aload_n 0, 1) := by decide +kernel
theorem dX7_leaves_19 : decode cX7_leaves 19 = .ok (.iload_n 1, 1) := by decide +kernel
theorem dX7_leaves_20 : decode cX7_leaves 20 = .ok (.iconst 5, 1) := by decide +kernel
theorem dX7_leaves_21 : decode cX7_leaves 21 = .ok (.iconst 1, 1) := by decide +kernel
theorem dX7_leaves_22 : decode cX7_leaves 22 = .ok (.invokevirtual 67, 3) := by decide +kernel
theorem dX7_leaves_25 : decode cX7_leaves 25 = .ok (.return_, 1) := by decide +kernel
set_option maxRecDepth 20000 in
theorem ggX7_copies_X7_of : GoodIn wsX7_copies wsX7_of := goodIn_r _ [5, 6, 11, 12, 13, 14, 15, 16, 17, 18, 19, 20, 21, 22, 23] (by decide +kernel) (by decide +kernel)
set_option maxRecDepth 20000 in
theorem gX7_copies_X7_of : GoodIn wsX7_copies (wsV RX7 53 RX7 yX7_of wsX7_of) := goodIn_app (goodIn_of _ (by decide +kernel)) ggX7_copies_X7_of
set_option maxRecDepth 20000 in
theorem ggX7_copies_X7_lay : GoodIn wsX7_copies wsX7_lay := goodIn_r _ [10, 6, 11, 12, 13, 14, 15, 16, 17, 18, 19, 20, 21, 22, 23] (by decide +kernel) (by decide +kernel)
set_option maxRecDepth 20000 in
theorem gX7_copies_X7_lay : GoodIn wsX7_copies (wsV RX7 67 RX7 yX7_lay wsX7_lay) := goodIn_app (goodIn_of _ (by decide +kernel)) ggX7_copies_X7_lay
theorem dX7_copies_0 : decode cX7_copies 0 = .ok (.bipush 6, 2) := by decide +kernel
theorem dX7_copies_2 : decode cX7_copies 2 = .ok (.istore_n 3, 1) := by decide +kernel
theorem dX7_copies_3 : decode cX7_copies 3 = .ok (.iload_n 3, 1) := by decide +kernel
theorem dX7_copies_4 : decode cX7_copies 4 = .ok (.bipush 14, 2) := by decide +kernel
theorem dX7_copies_6 : decode cX7_copies 6 = .ok (.if_icmp .ge 21, 3) := by decide +kernel
theorem dX7_copies_9 : decode cX7_copies 9 = .ok (.aload_n 0, 1) := by decide +kernel
theorem dX7_copies_10 : decode cX7_copies 10 = .ok (.iload_n 2, 1) := by decide +kernel
theorem dX7_copies_11 : decode cX7_copies 11 = .ok (.iload_n 3, 1) := by decide +kernel
theorem dX7_copies_12 : decode cX7_copies 12 = .ok (.aload_n 0, 1) := by decide +kernel
theorem dX7_copies_13 : decode cX7_copies 13 = .ok (.iload_n 1, 1) := by decide +kernel
theorem dX7_copies_14 : decode cX7_copies 14 = .ok (.iload_n 3, 1) := by decide +kernel
theorem dX7_copies_15 : decode cX7_copies 15 = .ok (.invokevirtual 53, 3) := by decide +kernel
theorem dX7_copies_18 : decode cX7_copies 18 = .ok (.invokevirtual 67, 3) := by decide +kernel
theorem dX7_copies_21 : decode cX7_copies 21 = .ok (.iinc 3 1, 3) := by decide +kernel
theorem dX7_copies_24 : decode cX7_copies 24 = .ok (.goto (-21), 3) := by decide +kernel
theorem dX7_copies_27 : decode cX7_copies 27 = .ok (.aload_n 0, 1) := by decide +kernel
theorem dX7_copies_28 : decode cX7_copies 28 = .ok (.iload_n 2, 1) := by decide +kernel
theorem dX7_copies_29 : decode cX7_copies 29 = .ok (.iconst 2, 1) := by decide +kernel
theorem dX7_copies_30 : decode cX7_copies 30 = .ok (.aload_n 0, 1) := by decide +kernel
theorem dX7_copies_31 : decode cX7_copies 31 = .ok (.iload_n 1, 1) := by decide +kernel
theorem dX7_copies_32 : decode cX7_copies 32 = .ok (.iconst 2, 1) := by decide +kernel
theorem dX7_copies_33 : decode cX7_copies 33 = .ok (.invokevirtual 53, 3) := by decide +kernel
theorem dX7_copies_36 : decode cX7_copies 36 = .ok (.invokevirtual 67, 3) := by decide +kernel
theorem dX7_copies_39 : decode cX7_copies 39 = .ok (.return_, 1) := by decide +kernel
set_option maxRecDepth 20000 in
theorem ggX7_leafAt_X7_of : GoodIn wsX7_leafAt wsX7_of := goodIn_r _ [5, 6, 7, 8, 9, 10, 11, 12, 13, 14, 15, 16, 17, 18, 19] (by decide +kernel) (by decide +kernel)
set_option maxRecDepth 20000 in
theorem gX7_leafAt_X7_of : GoodIn wsX7_leafAt (wsV RX7 53 RX7 yX7_of wsX7_of) := goodIn_app (goodIn_of _ (by decide +kernel)) ggX7_leafAt_X7_of
theorem dX7_leafAt_0 : decode cX7_leafAt 0 = .ok (.aload_n 0, 1) := by decide +kernel
theorem dX7_leafAt_1 : decode cX7_leafAt 1 = .ok (.iload_n 1, 1) := by decide +kernel
theorem dX7_leafAt_2 : decode cX7_leafAt 2 = .ok (.bipush 6, 2) := by decide +kernel
theorem dX7_leafAt_4 : decode cX7_leafAt 4 = .ok (.iload_n 2, 1) := by decide +kernel
theorem dX7_leafAt_5 : decode cX7_leafAt 5 = .ok (.iadd, 1) := by decide +kernel
theorem dX7_leafAt_6 : decode cX7_leafAt 6 = .ok (.invokevirtual 53, 3) := by decide +kernel
theorem dX7_leafAt_9 : decode cX7_leafAt 9 = .ok (.ireturn, 1) := by decide +kernel
set_option maxRecDepth 20000 in
theorem ggX7_keyAt_X7_of : GoodIn wsX7_keyAt wsX7_of := goodIn_r _ [5, 6, 7, 8, 9, 10, 11, 12, 13, 14, 15, 16, 17, 18, 19] (by decide +kernel) (by decide +kernel)
set_option maxRecDepth 20000 in
theorem gX7_keyAt_X7_of : GoodIn wsX7_keyAt (wsV RX7 53 RX7 yX7_of wsX7_of) := goodIn_app (goodIn_of _ (by decide +kernel)) ggX7_keyAt_X7_of
theorem dX7_keyAt_0 : decode cX7_keyAt 0 = .ok (.aload_n 0, 1) := by decide +kernel
theorem dX7_keyAt_1 : decode cX7_keyAt 1 = .ok (.iload_n 1, 1) := by decide +kernel
theorem dX7_keyAt_2 : decode cX7_keyAt 2 = .ok (.bipush 6, 2) := by decide +kernel
theorem dX7_keyAt_4 : decode cX7_keyAt 4 = .ok (.iconst 2, 1) := by decide +kernel
theorem dX7_keyAt_5 : decode cX7_keyAt 5 = .ok (.iload_n 2, 1) := by decide +kernel
theorem dX7_keyAt_6 : decode cX7_keyAt 6 = .ok (.imul, 1) := by decide +kernel
theorem dX7_keyAt_7 : decode cX7_keyAt 7 = .ok (.iadd, 1) := by decide +kernel
theorem dX7_keyAt_8 : decode cX7_keyAt 8 = .ok (.invokevirtual 53, 3) := by decide +kernel
theorem dX7_keyAt_11 : decode cX7_keyAt 11 = .ok (.ireturn, 1) := by decide +kernel
set_option maxRecDepth 20000 in
theorem ggX7_valueAt_X7_of : GoodIn wsX7_valueAt wsX7_of := goodIn_r _ [5, 6, 7, 8, 9, 10, 11, 12, 13, 14, 15, 16, 17, 18, 19] (by decide +kernel) (by decide +kernel)
set_option maxRecDepth 20000 in
theorem gX7_valueAt_X7_of : GoodIn wsX7_valueAt (wsV RX7 53 RX7 yX7_of wsX7_of) := goodIn_app (goodIn_of _ (by decide +kernel)) ggX7_valueAt_X7_of
theorem dX7_valueAt_0 : decode cX7_valueAt 0 = .ok (.aload_n 0, 1) := by decide +kernel
theorem dX7_valueAt_1 : decode cX7_valueAt 1 = .ok (.iload_n 1, 1) := by decide +kernel
theorem dX7_valueAt_2 : decode cX7_valueAt 2 = .ok (.bipush 6, 2) := by decide +kernel
theorem dX7_valueAt_4 : decode cX7_valueAt 4 = .ok (.iconst 2, 1) := by decide +kernel
theorem dX7_valueAt_5 : decode cX7_valueAt 5 = .ok (.iload_n 2, 1) := by decide +kernel
theorem dX7_valueAt_6 : decode cX7_valueAt 6 = .ok (.imul, 1) := by decide +kernel
theorem dX7_valueAt_7 : decode cX7_valueAt 7 = .ok (.iadd, 1) := by decide +kernel
theorem dX7_valueAt_8 : decode cX7_valueAt 8 = .ok (.iconst 1, 1) := by decide +kernel
theorem dX7_valueAt_9 : decode cX7_valueAt 9 = .ok (.iadd, 1) := by decide +kernel
theorem dX7_valueAt_10 : decode cX7_valueAt 10 = .ok (.invokevirtual 53, 3) := by decide +kernel
theorem dX7_valueAt_13 : decode cX7_valueAt 13 = .ok (.ireturn, 1) := by decide +kernel
set_option maxRecDepth 20000 in
theorem ggX7_placeFor_X7_of : GoodIn wsX7_placeFor wsX7_of := goodIn_r _ [5, 6, 15, 16, 17, 18, 19, 20, 21, 22, 23, 24, 25, 26, 27] (by decide +kernel) (by decide +kernel)
set_option maxRecDepth 20000 in
theorem gX7_placeFor_X7_of : GoodIn wsX7_placeFor (wsV RX7 53 RX7 yX7_of wsX7_of) := goodIn_app (goodIn_of _ (by decide +kernel)) ggX7_placeFor_X7_of
set_option maxRecDepth 20000 in
theorem ggX7_placeFor_X7_leafAt : GoodIn wsX7_placeFor wsX7_leafAt := goodIn_r _ [10, 1, 2, 3, 4, 5, 6, 15, 16, 17, 18, 19, 20, 21, 22, 23, 24, 25, 26, 27] (by decide +kernel) (by decide +kernel)
set_option maxRecDepth 20000 in
theorem gX7_placeFor_X7_leafAt : GoodIn wsX7_placeFor (wsV RX7 75 RX7 yX7_leafAt wsX7_leafAt) := goodIn_app (goodIn_of _ (by decide +kernel)) ggX7_placeFor_X7_leafAt
set_option maxRecDepth 20000 in
theorem ggX7_placeFor_X7_keyAt : GoodIn wsX7_placeFor wsX7_keyAt := goodIn_r _ [14, 1, 2, 3, 4, 5, 6, 15, 16, 17, 18, 19, 20, 21, 22, 23, 24, 25, 26, 27] (by decide +kernel) (by decide +kernel)
set_option maxRecDepth 20000 in
theorem gX7_placeFor_X7_keyAt : GoodIn wsX7_placeFor (wsV RX7 78 RX7 yX7_keyAt wsX7_keyAt) := goodIn_app (goodIn_of _ (by decide +kernel)) ggX7_placeFor_X7_keyAt
theorem dX7_placeFor_0 : decode cX7_placeFor 0 = .ok (.aload_n 0, 1) := by decide +kernel
theorem dX7_placeFor_1 : decode cX7_placeFor 1 = .ok (.iload_n 1, 1) := by decide +kernel
theorem dX7_placeFor_2 : decode cX7_placeFor 2 = .ok (.iconst 2, 1) := by decide +kernel
theorem dX7_placeFor_3 : decode cX7_placeFor 3 = .ok (.invokevirtual 53, 3) := by decide +kernel
theorem dX7_placeFor_6 : decode cX7_placeFor 6 = .ok (.ifCond .ne 7, 3) := by decide +kernel
theorem dX7_placeFor_9 : decode cX7_placeFor 9 = .ok (.iconst (-1), 1) := by decide +kernel
theorem dX7_placeFor_10 : decode cX7_placeFor 10 = .ok (.goto 4, 3) := by decide +kernel
theorem dX7_placeFor_13 : decode cX7_placeFor 13 = .ok (.iconst 0, 1) := by decide +kernel
theorem dX7_placeFor_14 : decode cX7_placeFor 14 = .ok (.istore_n 3, 1) := by decide +kernel
theorem dX7_placeFor_15 : decode cX7_placeFor 15 = .ok (.iconst 0, 1) := by decide +kernel
theorem dX7_placeFor_16 : decode cX7_placeFor 16 = .ok (.istore 4, 2) := by decide +kernel
theorem dX7_placeFor_18 : decode cX7_placeFor 18 = .ok (.iload 4, 2) := by decide +kernel
theorem dX7_placeFor_20 : decode cX7_placeFor 20 = .ok (.aload_n 0, 1) := by decide +kernel
theorem dX7_placeFor_21 : decode cX7_placeFor 21 = .ok (.iload_n 1, 1) := by decide +kernel
theorem dX7_placeFor_22 : decode cX7_placeFor 22 = .ok (.iconst 2, 1) := by decide +kernel
theorem dX7_placeFor_23 : decode cX7_placeFor 23 = .ok (.invokevirtual 53, 3) := by decide +kernel
theorem dX7_placeFor_26 : decode cX7_placeFor 26 = .ok (.if_icmp .ge 32, 3) := by decide +kernel
theorem dX7_placeFor_29 : decode cX7_placeFor 29 = .ok (.aload_n 0, 1) := by decide +kernel
theorem dX7_placeFor_30 : decode cX7_placeFor 30 = .ok (.aload_n 0, 1) := by decide +kernel
theorem dX7_placeFor_31 : decode cX7_placeFor 31 = .ok (.iload_n 1, 1) := by decide +kernel
theorem dX7_placeFor_32 : decode cX7_placeFor 32 = .ok (.iload 4, 2) := by decide +kernel
theorem dX7_placeFor_34 : decode cX7_placeFor 34 = .ok (.invokevirtual 75, 3) := by decide +kernel
theorem dX7_placeFor_37 : decode cX7_placeFor 37 = .ok (.iconst 0, 1) := by decide +kernel
theorem dX7_placeFor_38 : decode cX7_placeFor 38 = .ok (.invokevirtual 78, 3) := by decide +kernel
theorem dX7_placeFor_41 : decode cX7_placeFor 41 = .ok (.iload_n 2, 1) := by decide +kernel
theorem dX7_placeFor_42 : decode cX7_placeFor 42 = .ok (.if_icmp .gt 8, 3) := by decide +kernel
theorem dX7_placeFor_45 : decode cX7_placeFor 45 = .ok (.iload 4, 2) := by decide +kernel
theorem dX7_placeFor_47 : decode cX7_placeFor 47 = .ok (.goto 4, 3) := by decide +kernel
theorem dX7_placeFor_50 : decode cX7_placeFor 50 = .ok (.iload_n 3, 1) := by decide +kernel
theorem dX7_placeFor_51 : decode cX7_placeFor 51 = .ok (.istore_n 3, 1) := by decide +kernel
theorem dX7_placeFor_52 : decode cX7_placeFor 52 = .ok (.iinc 4 1, 3) := by decide +kernel
theorem dX7_placeFor_55 : decode cX7_placeFor 55 = .ok (.goto (-37), 3) := by decide +kernel
theorem dX7_placeFor_58 : decode cX7_placeFor 58 = .ok (.iload_n 3, 1) := by decide +kernel
theorem dX7_placeFor_59 : decode cX7_placeFor 59 = .ok (.ireturn, 1) := by decide +kernel
set_option maxRecDepth 20000 in
theorem ggX7_placeIn_X7_of : GoodIn wsX7_placeIn wsX7_of := goodIn_r _ [5, 6, 11, 12, 13, 14, 15, 16, 17, 18, 19, 20, 21, 22, 23] (by decide +kernel) (by decide +kernel)
set_option maxRecDepth 20000 in
theorem gX7_placeIn_X7_of : GoodIn wsX7_placeIn (wsV RX7 53 RX7 yX7_of wsX7_of) := goodIn_app (goodIn_of _ (by decide +kernel)) ggX7_placeIn_X7_of
set_option maxRecDepth 20000 in
theorem ggX7_placeIn_X7_keyAt : GoodIn wsX7_placeIn wsX7_keyAt := goodIn_r _ [10, 1, 2, 3, 4, 5, 6, 11, 12, 13, 14, 15, 16, 17, 18, 19, 20, 21, 22, 23] (by decide +kernel) (by decide +kernel)
set_option maxRecDepth 20000 in
theorem gX7_placeIn_X7_keyAt : GoodIn wsX7_placeIn (wsV RX7 78 RX7 yX7_keyAt wsX7_keyAt) := goodIn_app (goodIn_of _ (by decide +kernel)) ggX7_placeIn_X7_keyAt
theorem dX7_placeIn_0 : decode cX7_placeIn 0 = .ok (.iconst 0, 1) := by decide +kernel
theorem dX7_placeIn_1 : decode cX7_placeIn 1 = .ok (.istore_n 3, 1) := by decide +kernel
theorem dX7_placeIn_2 : decode cX7_placeIn 2 = .ok (.iload_n 3, 1) := by decide +kernel
theorem dX7_placeIn_3 : decode cX7_placeIn 3 = .ok (.aload_n 0, 1) := by decide +kernel
theorem dX7_placeIn_4 : decode cX7_placeIn 4 = .ok (.iload_n 1, 1) := by decide +kernel
theorem dX7_placeIn_5 : decode cX7_placeIn 5 = .ok (.iconst 2, 1) := by decide +kernel
theorem dX7_placeIn_6 : decode cX7_placeIn 6 = .ok (.invokevirtual 53, 3) := by decide +kernel
theorem dX7_placeIn_9 : decode cX7_placeIn 9 = .ok (.if_icmp .ge 21, 3) := by decide +kernel
theorem dX7_placeIn_12 : decode cX7_placeIn 12 = .ok (.aload_n 0, 1) := by decide +kernel
theorem dX7_placeIn_13 : decode cX7_placeIn 13 = .ok (.iload_n 1, 1) := by decide +kernel
theorem dX7_placeIn_14 : decode cX7_placeIn 14 = .ok (.iload_n 3, 1) := by decide +kernel
theorem dX7_placeIn_15 : decode cX7_placeIn 15 = .ok (.invokevirtual 78, 3) := by decide +kernel
theorem dX7_placeIn_18 : decode cX7_placeIn 18 = .ok (.iload_n 2, 1) := by decide +kernel
theorem dX7_placeIn_19 : decode cX7_placeIn 19 = .ok (.if_icmp .ne 5, 3) := by decide +kernel
theorem dX7_placeIn_22 : decode cX7_placeIn 22 = .ok (.iload_n 3, 1) := by decide +kernel
theorem dX7_placeIn_23 : decode cX7_placeIn 23 = .ok (.ireturn, 1) := by decide +kernel
theorem dX7_placeIn_24 : decode cX7_placeIn 24 = .ok (.iinc 3 1, 3) := by decide +kernel
theorem dX7_placeIn_27 : decode cX7_placeIn 27 = .ok (.goto (-25), 3) := by decide +kernel
theorem dX7_placeIn_30 : decode cX7_placeIn 30 = .ok (.iconst (-1), 1) := by decide +kernel
theorem dX7_placeIn_31 : decode cX7_placeIn 31 = .ok (.ireturn, 1) := by decide +kernel
set_option maxRecDepth 20000 in
theorem ggX7_valueBy_X7_placeFor : GoodIn wsX7_valueBy wsX7_placeFor := goodIn_r _ [5, 6, 7, 8, 4, 9, 10, 11, 12, 13, 14, 15, 16, 17, 18, 27, 28, 29, 30, 31, 32, 33, 34, 35, 36, 37, 38, 39] (by decide +kernel) (by decide +kernel)
set_option maxRecDepth 20000 in
theorem gX7_valueBy_X7_placeFor : GoodIn wsX7_valueBy (wsV RX7 81 RX7 yX7_placeFor wsX7_placeFor) := goodIn_app (goodIn_of _ (by decide +kernel)) ggX7_valueBy_X7_placeFor
set_option maxRecDepth 20000 in
theorem ggX7_valueBy_X7_leafAt : GoodIn wsX7_valueBy wsX7_leafAt := goodIn_r _ [14, 6, 7, 8, 4, 9, 10, 27, 28, 29, 30, 31, 32, 33, 34, 35, 36, 37, 38, 39] (by decide +kernel) (by decide +kernel)
set_option maxRecDepth 20000 in
theorem gX7_valueBy_X7_leafAt : GoodIn wsX7_valueBy (wsV RX7 75 RX7 yX7_leafAt wsX7_leafAt) := goodIn_app (goodIn_of _ (by decide +kernel)) ggX7_valueBy_X7_leafAt
set_option maxRecDepth 20000 in
theorem ggX7_valueBy_X7_placeIn : GoodIn wsX7_valueBy wsX7_placeIn := goodIn_r _ [22, 6, 7, 8, 4, 9, 10, 15, 16, 17, 18, 27, 28, 29, 30, 31, 32, 33, 34, 35, 36, 37, 38, 39] (by decide +kernel) (by decide +kernel)
set_option maxRecDepth 20000 in
theorem gX7_valueBy_X7_placeIn : GoodIn wsX7_valueBy (wsV RX7 84 RX7 yX7_placeIn wsX7_placeIn) := goodIn_app (goodIn_of _ (by decide +kernel)) ggX7_valueBy_X7_placeIn
set_option maxRecDepth 20000 in
theorem ggX7_valueBy_X7_valueAt : GoodIn wsX7_valueBy wsX7_valueAt := goodIn_r _ [26, 6, 7, 8, 4, 9, 10, 27, 28, 29, 30, 31, 32, 33, 34, 35, 36, 37, 38, 39] (by decide +kernel) (by decide +kernel)
set_option maxRecDepth 20000 in
theorem gX7_valueBy_X7_valueAt : GoodIn wsX7_valueBy (wsV RX7 87 RX7 yX7_valueAt wsX7_valueAt) := goodIn_app (goodIn_of _ (by decide +kernel)) ggX7_valueBy_X7_valueAt
theorem dX7_valueBy_0 : decode cX7_valueBy 0 = .ok (.aload_n 0, 1) := by decide +kernel
theorem dX7_valueBy_1 : decode cX7_valueBy 1 = .ok (.iload_n 1, 1) := by decide +kernel
theorem dX7_valueBy_2 : decode cX7_valueBy 2 = .ok (.iload_n 2, 1) := by decide +kernel
theorem dX7_valueBy_3 : decode cX7_valueBy 3 = .ok (.invokevirtual 81, 3) := by decide +kernel
theorem dX7_valueBy_6 : decode cX7_valueBy 6 = .ok (.istore_n 3, 1) := by decide +kernel
theorem dX7_valueBy_7 : decode cX7_valueBy 7 = .ok (.iload_n 3, 1) := by decide +kernel
theorem dX7_valueBy_8 : decode cX7_valueBy 8 = .ok (.ifCond .ge 7, 3) := by decide +kernel
theorem dX7_valueBy_11 : decode cX7_valueBy 11 = .ok (.iconst (-1), 1) := by decide +kernel
theorem dX7_valueBy_12 : decode cX7_valueBy 12 = .ok (.goto 14, 3) := by decide +kernel
theorem dX7_valueBy_15 : decode cX7_valueBy 15 = .ok (.aload_n 0, 1) := by decide +kernel
theorem dX7_valueBy_16 : decode cX7_valueBy 16 = .ok (.aload_n 0, 1) := by decide +kernel
theorem dX7_valueBy_17 : decode cX7_valueBy 17 = .ok (.iload_n 1, 1) := by decide +kernel
theorem dX7_valueBy_18 : decode cX7_valueBy 18 = .ok (.iload_n 3, 1) := by decide +kernel
theorem dX7_valueBy_19 : decode cX7_valueBy 19 = .ok (.invokevirtual 75, 3) := by decide +kernel
theorem dX7_valueBy_22 : decode cX7_valueBy 22 = .ok (.iload_n 2, 1) := by decide +kernel
theorem dX7_valueBy_23 : decode cX7_valueBy 23 = .ok (.invokevirtual 84, 3) := by decide +kernel
theorem dX7_valueBy_26 : decode cX7_valueBy 26 = .ok (.istore 4, 2) := by decide +kernel
theorem dX7_valueBy_28 : decode cX7_valueBy 28 = .ok (.iload 4, 2) := by decide +kernel
theorem dX7_valueBy_30 : decode cX7_valueBy 30 = .ok (.ifCond .ge 9, 3) := by decide +kernel
theorem dX7_valueBy_33 : decode cX7_valueBy 33 = .ok (.sipush (-1000), 3) := by decide +kernel
theorem dX7_valueBy_36 : decode cX7_valueBy 36 = .ok (.goto 15, 3) := by decide +kernel
theorem dX7_valueBy_39 : decode cX7_valueBy 39 = .ok (.aload_n 0, 1) := by decide +kernel
theorem dX7_valueBy_40 : decode cX7_valueBy 40 = .ok (.aload_n 0, 1) := by decide +kernel
theorem dX7_valueBy_41 : decode cX7_valueBy 41 = .ok (.iload_n 1, 1) := by decide +kernel
theorem dX7_valueBy_42 : decode cX7_valueBy 42 = .ok (.iload_n 3, 1) := by decide +kernel
theorem dX7_valueBy_43 : decode cX7_valueBy 43 = .ok (.invokevirtual 75, 3) := by decide +kernel
theorem dX7_valueBy_46 : decode cX7_valueBy 46 = .ok (.iload 4, 2) := by decide +kernel
theorem dX7_valueBy_48 : decode cX7_valueBy 48 = .ok (.invokevirtual 87, 3) := by decide +kernel
theorem dX7_valueBy_51 : decode cX7_valueBy 51 = .ok (.ireturn, 1) := by decide +kernel
set_option maxRecDepth 20000 in
theorem ggX7_entriesBy_X7_of : GoodIn wsX7_entriesBy wsX7_of := goodIn_r _ [5, 6, 11, 12, 13, 14, 15, 16, 17, 18, 19, 20, 21, 22, 23] (by decide +kernel) (by decide +kernel)
set_option maxRecDepth 20000 in
theorem gX7_entriesBy_X7_of : GoodIn wsX7_entriesBy (wsV RX7 53 RX7 yX7_of wsX7_of) := goodIn_app (goodIn_of _ (by decide +kernel)) ggX7_entriesBy_X7_of
set_option maxRecDepth 20000 in
theorem ggX7_entriesBy_X7_leafAt : GoodIn wsX7_entriesBy wsX7_leafAt := goodIn_r _ [10, 1, 2, 3, 4, 5, 6, 11, 12, 13, 14, 15, 16, 17, 18, 19, 20, 21, 22, 23] (by decide +kernel) (by decide +kernel)
set_option maxRecDepth 20000 in
theorem gX7_entriesBy_X7_leafAt : GoodIn wsX7_entriesBy (wsV RX7 75 RX7 yX7_leafAt wsX7_leafAt) := goodIn_app (goodIn_of _ (by decide +kernel)) ggX7_entriesBy_X7_leafAt
theorem dX7_entriesBy_0 : decode cX7_entriesBy 0 = .ok (.iconst 0, 1) := by decide +kernel
theorem dX7_entriesBy_1 : decode cX7_entriesBy 1 = .ok (.istore_n 2, 1) := by decide +kernel
theorem dX7_entriesBy_2 : decode cX7_entriesBy 2 = .ok (.iconst 0, 1) := by decide +kernel
theorem dX7_entriesBy_3 : decode cX7_entriesBy 3 = .ok (.istore_n 3, 1) := by decide +kernel
theorem dX7_entriesBy_4 : decode cX7_entriesBy 4 = .ok (.iload_n 3, 1) := by decide +kernel
theorem dX7_entriesBy_5 : decode cX7_entriesBy 5 = .ok (.aload_n 0, 1) := by decide +kernel
theorem dX7_entriesBy_6 : decode cX7_entriesBy 6 = .ok (.iload_n 1, 1) := by decide +kernel
theorem dX7_entriesBy_7 : decode cX7_entriesBy 7 = .ok (.iconst 2, 1) := by decide +kernel
theorem dX7_entriesBy_8 : decode cX7_entriesBy 8 = .ok (.invokevirtual 53, 3) := by decide +kernel
theorem dX7_entriesBy_11 : decode cX7_entriesBy 11 = .ok (.if_icmp .ge 23, 3) := by decide +kernel
theorem dX7_entriesBy_14 : decode cX7_entriesBy 14 = .ok (.iload_n 2, 1) := by decide +kernel
theorem dX7_entriesBy_15 : decode cX7_entriesBy 15 = .ok (.aload_n 0, 1) := by decide +kernel
theorem dX7_entriesBy_16 : decode cX7_entriesBy 16 = .ok (.aload_n 0, 1) := by decide +kernel
theorem dX7_entriesBy_17 : decode cX7_entriesBy 17 = .ok (.iload_n 1, 1) := by decide +kernel
theorem dX7_entriesBy_18 : decode cX7_entriesBy 18 = .ok (.iload_n 3, 1) := by decide +kernel
theorem dX7_entriesBy_19 : decode cX7_entriesBy 19 = .ok (.invokevirtual 75, 3) := by decide +kernel
theorem dX7_entriesBy_22 : decode cX7_entriesBy 22 = .ok (.iconst 2, 1) := by decide +kernel
theorem dX7_entriesBy_23 : decode cX7_entriesBy 23 = .ok (.invokevirtual 53, 3) := by decide +kernel
theorem dX7_entriesBy_26 : decode cX7_entriesBy 26 = .ok (.iadd, 1) := by decide +kernel
theorem dX7_entriesBy_27 : decode cX7_entriesBy 27 = .ok (.istore_n 2, 1) := by decide +kernel
theorem dX7_entriesBy_28 : decode cX7_entriesBy 28 = .ok (.iinc 3 1, 3) := by decide +kernel
theorem dX7_entriesBy_31 : decode cX7_entriesBy 31 = .ok (.goto (-27), 3) := by decide +kernel
theorem dX7_entriesBy_34 : decode cX7_entriesBy 34 = .ok (.iload_n 2, 1) := by decide +kernel
theorem dX7_entriesBy_35 : decode cX7_entriesBy 35 = .ok (.ireturn, 1) := by decide +kernel
set_option maxRecDepth 20000 in
theorem ggX7_now_X7_current : GoodIn wsX7_now wsX7_current := goodIn_r _ [5, 6, 11, 12, 13, 14, 15, 16, 17, 18, 19, 20, 21, 22, 23] (by decide +kernel) (by decide +kernel)
set_option maxRecDepth 20000 in
theorem gX7_now_X7_current : GoodIn wsX7_now (wsV RX7 42 RX7 yX7_current wsX7_current) := goodIn_app (goodIn_of _ (by decide +kernel)) ggX7_now_X7_current
set_option maxRecDepth 20000 in
theorem ggX7_now_X7_ofRoot : GoodIn wsX7_now wsX7_ofRoot := goodIn_r _ [10, 6, 11, 12, 13, 14, 15, 16, 17, 18, 19, 20, 21, 22, 23] (by decide +kernel) (by decide +kernel)
set_option maxRecDepth 20000 in
theorem gX7_now_X7_ofRoot : GoodIn wsX7_now (wsV RX7 46 RX7 yX7_ofRoot wsX7_ofRoot) := goodIn_app (goodIn_of _ (by decide +kernel)) ggX7_now_X7_ofRoot
theorem dX7_now_0 : decode cX7_now 0 = .ok (.aload_n 0, 1) := by decide +kernel
theorem dX7_now_1 : decode cX7_now 1 = .ok (.aload_n 0, 1) := by decide +kernel
theorem dX7_now_2 : decode cX7_now 2 = .ok (.invokevirtual 42, 3) := by decide +kernel
theorem dX7_now_5 : decode cX7_now 5 = .ok (.iconst 1, 1) := by decide +kernel
theorem dX7_now_6 : decode cX7_now 6 = .ok (.invokevirtual 46, 3) := by decide +kernel
theorem dX7_now_9 : decode cX7_now 9 = .ok (.ireturn, 1) := by decide +kernel
set_option maxRecDepth 20000 in
theorem ggX7_drafts_X7_now : GoodIn wsX7_drafts wsX7_now := goodIn_r _ [6, 7, 8, 9, 5, 10, 1, 11, 12, 13, 14, 15, 16, 17, 18, 19, 20, 21, 22, 23, 24, 25, 26, 27] (by decide +kernel) (by decide +kernel)
set_option maxRecDepth 20000 in
theorem gX7_drafts_X7_now : GoodIn wsX7_drafts (wsV RX7 90 RX7 yX7_now wsX7_now) := goodIn_app (goodIn_of _ (by decide +kernel)) ggX7_drafts_X7_now
theorem dX7_drafts_0 : decode cX7_drafts 0 = .ok (.aload_n 0, 1) := by decide +kernel
theorem dX7_drafts_1 : decode cX7_drafts 1 = .ok (.getfield 7, 3) := by decide +kernel
theorem dX7_drafts_4 : decode cX7_drafts 4 = .ok (.sipush 467, 3) := by decide +kernel
theorem dX7_drafts_7 : decode cX7_drafts 7 = .ok (.iaload, 1) := by decide +kernel
theorem dX7_drafts_8 : decode cX7_drafts 8 = .ok (.ifCond .ge 10, 3) := by decide +kernel
theorem dX7_drafts_11 : decode cX7_drafts 11 = .ok (.aload_n 0, 1) := by decide +kernel
theorem dX7_drafts_12 : decode cX7_drafts 12 = .ok (.invokevirtual 90, 3) := by decide +kernel
theorem dX7_drafts_15 : decode cX7_drafts 15 = .ok (.goto 11, 3) := by decide +kernel
theorem dX7_drafts_18 : decode cX7_drafts 18 = .ok (.aload_n 0, 1) := by decide +kernel
theorem dX7_drafts_19 : decode cX7_drafts 19 = .ok (.getfield 7, 3) := by decide +kernel
theorem dX7_drafts_22 : decode cX7_drafts 22 = .ok (.sipush 467, 3) := by decide +kernel
theorem dX7_drafts_25 : decode cX7_drafts 25 = .ok (.iaload, 1) := by decide +kernel
theorem dX7_drafts_26 : decode cX7_drafts 26 = .ok (.ireturn, 1) := by decide +kernel
set_option maxRecDepth 20000 in
theorem ggX7_bedsOf_X7_drafts : GoodIn wsX7_bedsOf wsX7_drafts := goodIn_r _ [6, 1, 7, 8, 9, 5, 10, 11, 12, 13, 14, 15, 16, 17, 18, 39, 40, 41, 42, 43, 44, 45, 46, 47, 48, 49, 50, 51] (by decide +kernel) (by decide +kernel)
set_option maxRecDepth 20000 in
theorem gX7_bedsOf_X7_drafts : GoodIn wsX7_bedsOf (wsV RX7 93 RX7 yX7_drafts wsX7_drafts) := goodIn_app (goodIn_of _ (by decide +kernel)) ggX7_bedsOf_X7_drafts
set_option maxRecDepth 20000 in
theorem ggX7_bedsOf_X7_placeFor : GoodIn wsX7_bedsOf wsX7_placeFor := goodIn_r _ [22, 23, 24, 25, 5, 26, 1, 27, 28, 29, 30, 31, 32, 33, 34, 39, 40, 41, 42, 43, 44, 45, 46, 47, 48, 49, 50, 51] (by decide +kernel) (by decide +kernel)
set_option maxRecDepth 20000 in
theorem gX7_bedsOf_X7_placeFor : GoodIn wsX7_bedsOf (wsV RX7 81 RX7 yX7_placeFor wsX7_placeFor) := goodIn_app (goodIn_of _ (by decide +kernel)) ggX7_bedsOf_X7_placeFor
set_option maxRecDepth 20000 in
theorem ggX7_bedsOf_X7_leafAt : GoodIn wsX7_bedsOf wsX7_leafAt := goodIn_r _ [30, 23, 24, 25, 5, 26, 1, 39, 40, 41, 42, 43, 44, 45, 46, 47, 48, 49, 50, 51] (by decide +kernel) (by decide +kernel)
set_option maxRecDepth 20000 in
theorem gX7_bedsOf_X7_leafAt : GoodIn wsX7_bedsOf (wsV RX7 75 RX7 yX7_leafAt wsX7_leafAt) := goodIn_app (goodIn_of _ (by decide +kernel)) ggX7_bedsOf_X7_leafAt
set_option maxRecDepth 20000 in
theorem ggX7_bedsOf_X7_of : GoodIn wsX7_bedsOf wsX7_of := goodIn_r _ [26, 1, 39, 40, 41, 42, 43, 44, 45, 46, 47, 48, 49, 50, 51] (by decide +kernel) (by decide +kernel)
set_option maxRecDepth 20000 in
theorem gX7_bedsOf_X7_of : GoodIn wsX7_bedsOf (wsV RX7 53 RX7 yX7_of wsX7_of) := goodIn_app (goodIn_of _ (by decide +kernel)) ggX7_bedsOf_X7_of
set_option maxRecDepth 20000 in
theorem ggX7_bedsOf_X7_placeIn : GoodIn wsX7_bedsOf wsX7_placeIn := goodIn_r _ [38, 23, 24, 25, 5, 26, 1, 31, 32, 33, 34, 39, 40, 41, 42, 43, 44, 45, 46, 47, 48, 49, 50, 51] (by decide +kernel) (by decide +kernel)
set_option maxRecDepth 20000 in
theorem gX7_bedsOf_X7_placeIn : GoodIn wsX7_bedsOf (wsV RX7 84 RX7 yX7_placeIn wsX7_placeIn) := goodIn_app (goodIn_of _ (by decide +kernel)) ggX7_bedsOf_X7_placeIn
theorem dX7_bedsOf_0 : decode cX7_bedsOf 0 = .ok (.aload_n 0, 1) := by decide +kernel
theorem dX7_bedsOf_1 : decode cX7_bedsOf 1 = .ok (.getfield 7, 3) := by decide +kernel
theorem dX7_bedsOf_4 : decode cX7_bedsOf 4 = .ok (.sipush 467, 3) := by decide +kernel
theorem dX7_bedsOf_7 : decode cX7_bedsOf 7 = .ok (.iaload, 1) := by decide +kernel
theorem dX7_bedsOf_8 : decode cX7_bedsOf 8 = .ok (.ifCond .ge 7, 3) := by decide +kernel
theorem dX7_bedsOf_11 : decode cX7_bedsOf 11 = .ok (.iconst 1, 1) := by decide +kernel
theorem dX7_bedsOf_12 : decode cX7_bedsOf 12 = .ok (.goto 4, 3) := by decide +kernel
theorem dX7_bedsOf_15 : decode cX7_bedsOf 15 = .ok (.iconst 0, 1) := by decide +kernel
theorem dX7_bedsOf_16 : decode cX7_bedsOf 16 = .ok (.istore_n 2, 1) := by decide +kernel
theorem dX7_bedsOf_17 : decode cX7_bedsOf 17 = .ok (.aload_n 0, 1) := by decide +kernel
theorem dX7_bedsOf_18 : decode cX7_bedsOf 18 = .ok (.invokevirtual 93, 3) := by decide +kernel
theorem dX7_bedsOf_21 : decode cX7_bedsOf 21 = .ok (.istore_n 3, 1) := by decide +kernel
theorem dX7_bedsOf_22 : decode cX7_bedsOf 22 = .ok (.aload_n 0, 1) := by decide +kernel
theorem dX7_bedsOf_23 : decode cX7_bedsOf 23 = .ok (.iload_n 3, 1) := by decide +kernel
theorem dX7_bedsOf_24 : decode cX7_bedsOf 24 = .ok (.iload_n 1, 1) := by decide +kernel
theorem dX7_bedsOf_25 : decode cX7_bedsOf 25 = .ok (.invokevirtual 81, 3) := by decide +kernel
theorem dX7_bedsOf_28 : decode cX7_bedsOf 28 = .ok (.istore 4, 2) := by decide +kernel
theorem dX7_bedsOf_30 : decode cX7_bedsOf 30 = .ok (.iload 4, 2) := by decide +kernel
theorem dX7_bedsOf_32 : decode cX7_bedsOf 32 = .ok (.ifCond .ge 7, 3) := by decide +kernel
theorem dX7_bedsOf_35 : decode cX7_bedsOf 35 = .ok (.iload_n 2, 1) := by decide +kernel
theorem dX7_bedsOf_36 : decode cX7_bedsOf 36 = .ok (.iconst 1, 1) := by decide +kernel
theorem dX7_bedsOf_37 : decode cX7_bedsOf 37 = .ok (.iadd, 1) := by decide +kernel
theorem dX7_bedsOf_38 : decode cX7_bedsOf 38 = .ok (.ireturn, 1) := by decide +kernel
theorem dX7_bedsOf_39 : decode cX7_bedsOf 39 = .ok (.aload_n 0, 1) := by decide +kernel
theorem dX7_bedsOf_40 : decode cX7_bedsOf 40 = .ok (.iload_n 3, 1) := by decide +kernel
theorem dX7_bedsOf_41 : decode cX7_bedsOf 41 = .ok (.iload 4, 2) := by decide +kernel
theorem dX7_bedsOf_43 : decode cX7_bedsOf 43 = .ok (.invokevirtual 75, 3) := by decide +kernel
theorem dX7_bedsOf_46 : decode cX7_bedsOf 46 = .ok (.istore 5, 2) := by decide +kernel
theorem dX7_bedsOf_48 : decode cX7_bedsOf 48 = .ok (.aload_n 0, 1) := by decide +kernel
theorem dX7_bedsOf_49 : decode cX7_bedsOf 49 = .ok (.iload 5, 2) := by decide +kernel
theorem dX7_bedsOf_51 : decode cX7_bedsOf 51 = .ok (.iconst 4, 1) := by decide +kernel
theorem dX7_bedsOf_52 : decode cX7_bedsOf 52 = .ok (.invokevirtual 53, 3) := by decide +kernel
theorem dX7_bedsOf_55 : decode cX7_bedsOf 55 = .ok (.iconst 1, 1) := by decide +kernel
theorem dX7_bedsOf_56 : decode cX7_bedsOf 56 = .ok (.if_icmp .ne 7, 3) := by decide +kernel
theorem dX7_bedsOf_59 : decode cX7_bedsOf 59 = .ok (.iconst 0, 1) := by decide +kernel
theorem dX7_bedsOf_60 : decode cX7_bedsOf 60 = .ok (.goto 4, 3) := by decide +kernel
theorem dX7_bedsOf_63 : decode cX7_bedsOf 63 = .ok (.iconst 1, 1) := by decide +kernel
theorem dX7_bedsOf_64 : decode cX7_bedsOf 64 = .ok (.istore 6, 2) := by decide +kernel
theorem dX7_bedsOf_66 : decode cX7_bedsOf 66 = .ok (.aload_n 0, 1) := by decide +kernel
theorem dX7_bedsOf_67 : decode cX7_bedsOf 67 = .ok (.iload 5, 2) := by decide +kernel
theorem dX7_bedsOf_69 : decode cX7_bedsOf 69 = .ok (.iload_n 1, 1) := by decide +kernel
theorem dX7_bedsOf_70 : decode cX7_bedsOf 70 = .ok (.invokevirtual 84, 3) := by decide +kernel
theorem dX7_bedsOf_73 : decode cX7_bedsOf 73 = .ok (.ifCond .ge 18, 3) := by decide +kernel
theorem dX7_bedsOf_76 : decode cX7_bedsOf 76 = .ok (.aload_n 0, 1) := by decide +kernel
theorem dX7_bedsOf_77 : decode cX7_bedsOf 77 = .ok (.iload 5, 2) := by decide +kernel
theorem dX7_bedsOf_79 : decode cX7_bedsOf 79 = .ok (.iconst 2, 1) := by decide +kernel
theorem dX7_bedsOf_80 : decode cX7_bedsOf 80 = .ok (.invokevirtual 53, 3) := by decide +kernel
theorem dX7_bedsOf_83 : decode cX7_bedsOf 83 = .ok (.iconst 4, 1) := by decide +kernel
theorem dX7_bedsOf_84 : decode cX7_bedsOf 84 = .ok (.if_icmp .ne 7, 3) := by decide +kernel
theorem dX7_bedsOf_87 : decode cX7_bedsOf 87 = .ok (.iconst 1, 1) := by decide +kernel
theorem dX7_bedsOf_88 : decode cX7_bedsOf 88 = .ok (.goto 4, 3) := by decide +kernel
theorem dX7_bedsOf_91 : decode cX7_bedsOf 91 = .ok (.iconst 0, 1) := by decide +kernel
theorem dX7_bedsOf_92 : decode cX7_bedsOf 92 = .ok (.istore 7, 2) := by decide +kernel
theorem dX7_bedsOf_94 : decode cX7_bedsOf 94 = .ok (.iload 7, 2) := by decide +kernel
theorem dX7_bedsOf_96 : decode cX7_bedsOf 96 = .ok (.ifCond .eq 20, 3) := by decide +kernel
theorem dX7_bedsOf_99 : decode cX7_bedsOf 99 = .ok (.aload_n 0, 1) := by decide +kernel
theorem dX7_bedsOf_100 : decode cX7_bedsOf 100 = .ok (.iload_n 3, 1) := by decide +kernel
theorem dX7_bedsOf_101 : decode cX7_bedsOf 101 = .ok (.iconst 2, 1) := by decide +kernel
theorem dX7_bedsOf_102 : decode cX7_bedsOf 102 = .ok (.invokevirtual 53, 3) := by decide +kernel
theorem dX7_bedsOf_105 : decode cX7_bedsOf 105 = .ok (.bipush 6, 2) := by decide +kernel
theorem dX7_bedsOf_107 : decode cX7_bedsOf 107 = .ok (.if_icmp .ne 9, 3) := by decide +kernel
theorem dX7_bedsOf_110 : decode cX7_bedsOf 110 = .ok (.sipush (-1000), 3) := by decide +kernel
theorem dX7_bedsOf_113 : decode cX7_bedsOf 113 = .ok (.goto 18, 3) := by decide +kernel
theorem dX7_bedsOf_116 : decode cX7_bedsOf 116 = .ok (.iload_n 2, 1) := by decide +kernel
theorem dX7_bedsOf_117 : decode cX7_bedsOf 117 = .ok (.iload 6, 2) := by decide +kernel
theorem dX7_bedsOf_119 : decode cX7_bedsOf 119 = .ok (.iadd, 1) := by decide +kernel
theorem dX7_bedsOf_120 : decode cX7_bedsOf 120 = .ok (.iload 7, 2) := by decide +kernel
theorem dX7_bedsOf_122 : decode cX7_bedsOf 122 = .ok (.ifCond .eq 7, 3) := by decide +kernel
theorem dX7_bedsOf_125 : decode cX7_bedsOf 125 = .ok (.iconst 1, 1) := by decide +kernel
theorem dX7_bedsOf_126 : decode cX7_bedsOf 126 = .ok (.goto 4, 3) := by decide +kernel
theorem dX7_bedsOf_129 : decode cX7_bedsOf 129 = .ok (.iconst 0, 1) := by decide +kernel
theorem dX7_bedsOf_130 : decode cX7_bedsOf 130 = .ok (.iadd, 1) := by decide +kernel
theorem dX7_bedsOf_131 : decode cX7_bedsOf 131 = .ok (.ireturn, 1) := by decide +kernel
set_option maxRecDepth 20000 in
theorem ggX7_directory_X7_now : GoodIn wsX7_directory wsX7_now := goodIn_r _ [6, 7, 8, 9, 5, 10, 1, 11, 12, 13, 14, 55, 56, 57, 58, 59, 60, 61, 62, 63, 64, 65, 66, 67] (by decide +kernel) (by decide +kernel)
set_option maxRecDepth 20000 in
theorem gX7_directory_X7_now : GoodIn wsX7_directory (wsV RX7 90 RX7 yX7_now wsX7_now) := goodIn_app (goodIn_of _ (by decide +kernel)) ggX7_directory_X7_now
set_option maxRecDepth 20000 in
theorem ggX7_directory_X7_dig : GoodIn wsX7_directory wsX7_dig := goodIn_r _ [18, 19, 20, 21, 5, 22, 23, 24, 25, 26, 27, 28, 29, 30, 1, 31, 32, 33, 34, 7, 8, 9, 10, 11, 12, 13, 14, 35, 36, 37, 38, 39, 40, 41, 42, 55, 56, 57, 58, 59, 60, 61, 62, 63, 64, 65, 66, 67] (by decide +kernel) (by decide +kernel)
set_option maxRecDepth 20000 in
theorem gX7_directory_X7_dig : GoodIn wsX7_directory (wsV RX7 96 RX7 yX7_dig wsX7_dig) := goodIn_app (goodIn_of _ (by decide +kernel)) ggX7_directory_X7_dig
set_option maxRecDepth 20000 in
theorem ggX7_directory_X7_copies : GoodIn wsX7_directory wsX7_copies := goodIn_r _ [46, 27, 28, 29, 5, 30, 1, 39, 40, 41, 42, 55, 56, 57, 58, 59, 60, 61, 62, 63, 64, 65, 66, 67] (by decide +kernel) (by decide +kernel)
set_option maxRecDepth 20000 in
theorem gX7_directory_X7_copies : GoodIn wsX7_directory (wsV RX7 99 RX7 yX7_copies wsX7_copies) := goodIn_app (goodIn_of _ (by decide +kernel)) ggX7_directory_X7_copies
set_option maxRecDepth 20000 in
theorem ggX7_directory_X7_leaves : GoodIn wsX7_directory wsX7_leaves := goodIn_r _ [50, 27, 28, 29, 5, 30, 1, 51, 52, 53, 54, 39, 40, 41, 42, 55, 56, 57, 58, 59, 60, 61, 62, 63, 64, 65, 66, 67] (by decide +kernel) (by decide +kernel)
set_option maxRecDepth 20000 in
theorem gX7_directory_X7_leaves : GoodIn wsX7_directory (wsV RX7 103 RX7 yX7_leaves wsX7_leaves) := goodIn_app (goodIn_of _ (by decide +kernel)) ggX7_directory_X7_leaves
theorem dX7_directory_0 : decode cX7_directory 0 = .ok (.aload_n 0, 1) := by decide +kernel
theorem dX7_directory_1 : decode cX7_directory 1 = .ok (.getfield 7, 3) := by decide +kernel
theorem dX7_directory_4 : decode cX7_directory 4 = .ok (.sipush 467, 3) := by decide +kernel
theorem dX7_directory_7 : decode cX7_directory 7 = .ok (.iaload, 1) := by decide +kernel
theorem dX7_directory_8 : decode cX7_directory 8 = .ok (.ifCond .ge 39, 3) := by decide +kernel
theorem dX7_directory_11 : decode cX7_directory 11 = .ok (.aload_n 0, 1) := by decide +kernel
theorem dX7_directory_12 : decode cX7_directory 12 = .ok (.invokevirtual 90, 3) := by decide +kernel
theorem dX7_directory_15 : decode cX7_directory 15 = .ok (.istore_n 1, 1) := by decide +kernel
theorem dX7_directory_16 : decode cX7_directory 16 = .ok (.aload_n 0, 1) := by decide +kernel
theorem dX7_directory_17 : decode cX7_directory 17 = .ok (.getfield 7, 3) := by decide +kernel
theorem dX7_directory_20 : decode cX7_directory 20 = .ok (.sipush 467, 3) := by decide +kernel
theorem dX7_directory_23 : decode cX7_directory 23 = .ok (.aload_n 0, 1) := by decide +kernel
theorem dX7_directory_24 : decode cX7_directory 24 = .ok (.iconst 1, 1) := by decide +kernel
theorem dX7_directory_25 : decode cX7_directory 25 = .ok (.invokevirtual 96, 3) := by decide +kernel
theorem dX7_directory_28 : decode cX7_directory 28 = .ok (.iastore, 1) := by decide +kernel
theorem dX7_directory_29 : decode cX7_directory 29 = .ok (.aload_n 0, 1) := by decide +kernel
theorem dX7_directory_30 : decode cX7_directory 30 = .ok (.iload_n 1, 1) := by decide +kernel
theorem dX7_directory_31 : decode cX7_directory 31 = .ok (.aload_n 0, 1) := by decide +kernel
theorem dX7_directory_32 : decode cX7_directory 32 = .ok (.getfield 7, 3) := by decide +kernel
theorem dX7_directory_35 : decode cX7_directory 35 = .ok (.sipush 467, 3) := by decide +kernel
theorem dX7_directory_38 : decode cX7_directory 38 = .ok (.iaload, 1) := by decide +kernel
theorem dX7_directory_39 : decode cX7_directory 39 = .ok (.invokevirtual 99, 3) := by decide +kernel
theorem dX7_directory_42 : decode cX7_directory 42 = .ok (.aload_n 0, 1) := by decide +kernel
theorem dX7_directory_43 : decode cX7_directory 43 = .ok (.iload_n 1, 1) := by decide +kernel
theorem dX7_directory_44 : decode cX7_directory 44 = .ok (.invokevirtual 103, 3) := by decide +kernel
theorem dX7_directory_47 : decode cX7_directory 47 = .ok (.aload_n 0, 1) := by decide +kernel
theorem dX7_directory_48 : decode cX7_directory 48 = .ok (.getfield 7, 3) := by decide +kernel
theorem dX7_directory_51 : decode cX7_directory 51 = .ok (.sipush 467, 3) := by decide +kernel
theorem dX7_directory_54 : decode cX7_directory 54 = .ok (.iaload, 1) := by decide +kernel
theorem dX7_directory_55 : decode cX7_directory 55 = .ok (.ireturn, 1) := by decide +kernel
set_option maxRecDepth 20000 in
theorem ggX7_ownLeaf_X7_leafAt : GoodIn wsX7_ownLeaf wsX7_leafAt := goodIn_r _ [5, 6, 7, 8, 4, 9, 10, 55, 56, 57, 58, 59, 60, 61, 62, 63, 64, 65, 66, 67] (by decide +kernel) (by decide +kernel)
set_option maxRecDepth 20000 in
theorem gX7_ownLeaf_X7_leafAt : GoodIn wsX7_ownLeaf (wsV RX7 75 RX7 yX7_leafAt wsX7_leafAt) := goodIn_app (goodIn_of _ (by decide +kernel)) ggX7_ownLeaf_X7_leafAt
set_option maxRecDepth 20000 in
theorem ggX7_ownLeaf_X7_of : GoodIn wsX7_ownLeaf wsX7_of := goodIn_r _ [9, 10, 55, 56, 57, 58, 59, 60, 61, 62, 63, 64, 65, 66, 67] (by decide +kernel) (by decide +kernel)
set_option maxRecDepth 20000 in
theorem gX7_ownLeaf_X7_of : GoodIn wsX7_ownLeaf (wsV RX7 53 RX7 yX7_of wsX7_of) := goodIn_app (goodIn_of _ (by decide +kernel)) ggX7_ownLeaf_X7_of
set_option maxRecDepth 20000 in
theorem ggX7_ownLeaf_X7_dig : GoodIn wsX7_ownLeaf wsX7_dig := goodIn_r _ [14, 15, 16, 17, 4, 18, 19, 20, 21, 22, 6, 7, 8, 9, 10, 23, 24, 25, 26, 27, 28, 29, 30, 31, 32, 33, 34, 35, 36, 37, 38, 39, 40, 41, 42, 55, 56, 57, 58, 59, 60, 61, 62, 63, 64, 65, 66, 67] (by decide +kernel) (by decide +kernel)
set_option maxRecDepth 20000 in
theorem gX7_ownLeaf_X7_dig : GoodIn wsX7_ownLeaf (wsV RX7 96 RX7 yX7_dig wsX7_dig) := goodIn_app (goodIn_of _ (by decide +kernel)) ggX7_ownLeaf_X7_dig
set_option maxRecDepth 20000 in
theorem ggX7_ownLeaf_X7_copies : GoodIn wsX7_ownLeaf wsX7_copies := goodIn_r _ [46, 6, 7, 8, 4, 9, 10, 39, 40, 41, 42, 55, 56, 57, 58, 59, 60, 61, 62, 63, 64, 65, 66, 67] (by decide +kernel) (by decide +kernel)
set_option maxRecDepth 20000 in
theorem gX7_ownLeaf_X7_copies : GoodIn wsX7_ownLeaf (wsV RX7 99 RX7 yX7_copies wsX7_copies) := goodIn_app (goodIn_of _ (by decide +kernel)) ggX7_ownLeaf_X7_copies
set_option maxRecDepth 20000 in
theorem ggX7_ownLeaf_X7_leaves : GoodIn wsX7_ownLeaf wsX7_leaves := goodIn_r _ [50, 6, 7, 8, 4, 9, 10, 51, 52, 53, 54, 39, 40, 41, 42, 55, 56, 57, 58, 59, 60, 61, 62, 63, 64, 65, 66, 67] (by decide +kernel) (by decide +kernel)
set_option maxRecDepth 20000 in
theorem gX7_ownLeaf_X7_leaves : GoodIn wsX7_ownLeaf (wsV RX7 103 RX7 yX7_leaves wsX7_leaves) := goodIn_app (goodIn_of _ (by decide +kernel)) ggX7_ownLeaf_X7_leaves
set_option maxRecDepth 20000 in
theorem ggX7_ownLeaf_X7_lay : GoodIn wsX7_ownLeaf wsX7_lay := goodIn_r _ [42, 10, 55, 56, 57, 58, 59, 60, 61, 62, 63, 64, 65, 66, 67] (by decide +kernel) (by decide +kernel)
set_option maxRecDepth 20000 in
theorem gX7_ownLeaf_X7_lay : GoodIn wsX7_ownLeaf (wsV RX7 67 RX7 yX7_lay wsX7_lay) := goodIn_app (goodIn_of _ (by decide +kernel)) ggX7_ownLeaf_X7_lay
theorem dX7_ownLeaf_0 : decode cX7_ownLeaf 0 = .ok (.aload_n 0, 1) := by decide +kernel
theorem dX7_ownLeaf_1 : decode cX7_ownLeaf 1 = .ok (.iload_n 1, 1) := by decide +kernel
theorem dX7_ownLeaf_2 : decode cX7_ownLeaf 2 = .ok (.iload_n 2, 1) := by decide +kernel
theorem dX7_ownLeaf_3 : decode cX7_ownLeaf 3 = .ok (.invokevirtual 75, 3) := by decide +kernel
theorem dX7_ownLeaf_6 : decode cX7_ownLeaf 6 = .ok (.istore_n 3, 1) := by decide +kernel
theorem dX7_ownLeaf_7 : decode cX7_ownLeaf 7 = .ok (.aload_n 0, 1) := by decide +kernel
theorem dX7_ownLeaf_8 : decode cX7_ownLeaf 8 = .ok (.iload_n 3, 1) := by decide +kernel
theorem dX7_ownLeaf_9 : decode cX7_ownLeaf 9 = .ok (.iconst 4, 1) := by decide +kernel
theorem dX7_ownLeaf_10 : decode cX7_ownLeaf 10 = .ok (.invokevirtual 53, 3) := by decide +kernel
theorem dX7_ownLeaf_13 : decode cX7_ownLeaf 13 = .ok (.iconst 1, 1) := by decide +kernel
theorem dX7_ownLeaf_14 : decode cX7_ownLeaf 14 = .ok (.if_icmp .ne 5, 3) := by decide +kernel
theorem dX7_ownLeaf_17 : decode cX7_ownLeaf 17 = .ok (.iload_n 3, 1) := by decide +kernel
theorem dX7_ownLeaf_18 : decode cX7_ownLeaf 18 = .ok (.ireturn, 1) := by decide +kernel
theorem dX7_ownLeaf_19 : decode cX7_ownLeaf 19 = .ok (.aload_n 0, 1) := by decide +kernel
theorem dX7_ownLeaf_20 : decode cX7_ownLeaf 20 = .ok (.iconst 0, 1) := by decide +kernel
theorem dX7_ownLeaf_21 : decode cX7_ownLeaf 21 = .ok (.invokevirtual 96, 3) := by decide +kernel
theorem dX7_ownLeaf_24 : decode cX7_ownLeaf 24 = .ok (.istore 4, 2) := by decide +kernel
theorem dX7_ownLeaf_26 : decode cX7_ownLeaf 26 = .ok (.aload_n 0, 1) := by decide +kernel
theorem dX7_ownLeaf_27 : decode cX7_ownLeaf 27 = .ok (.iload_n 3, 1) := by decide +kernel
theorem dX7_ownLeaf_28 : decode cX7_ownLeaf 28 = .ok (.iload 4, 2) := by decide +kernel
theorem dX7_ownLeaf_30 : decode cX7_ownLeaf 30 = .ok (.invokevirtual 99, 3) := by decide +kernel
theorem dX7_ownLeaf_33 : decode cX7_ownLeaf 33 = .ok (.aload_n 0, 1) := by decide +kernel
theorem dX7_ownLeaf_34 : decode cX7_ownLeaf 34 = .ok (.iload_n 3, 1) := by decide +kernel
theorem dX7_ownLeaf_35 : decode cX7_ownLeaf 35 = .ok (.invokevirtual 103, 3) := by decide +kernel
theorem dX7_ownLeaf_38 : decode cX7_ownLeaf 38 = .ok (.aload_n 0, 1) := by decide +kernel
theorem dX7_ownLeaf_39 : decode cX7_ownLeaf 39 = .ok (.iload_n 1, 1) := by decide +kernel
theorem dX7_ownLeaf_40 : decode cX7_ownLeaf 40 = .ok (.bipush 6, 2) := by decide +kernel
theorem dX7_ownLeaf_42 : decode cX7_ownLeaf 42 = .ok (.iload_n 2, 1) := by decide +kernel
theorem dX7_ownLeaf_43 : decode cX7_ownLeaf 43 = .ok (.iadd, 1) := by decide +kernel
theorem dX7_ownLeaf_44 : decode cX7_ownLeaf 44 = .ok (.iload 4, 2) := by decide +kernel
theorem dX7_ownLeaf_46 : decode cX7_ownLeaf 46 = .ok (.invokevirtual 67, 3) := by decide +kernel
theorem dX7_ownLeaf_49 : decode cX7_ownLeaf 49 = .ok (.iload 4, 2) := by decide +kernel
theorem dX7_ownLeaf_51 : decode cX7_ownLeaf 51 = .ok (.ireturn, 1) := by decide +kernel
set_option maxRecDepth 20000 in
theorem ggX7_insertLeaf_X7_of : GoodIn wsX7_insertLeaf wsX7_of := goodIn_r _ [5, 6, 15, 16, 17, 18, 19, 20, 21, 22, 23, 24, 25, 26, 27] (by decide +kernel) (by decide +kernel)
set_option maxRecDepth 20000 in
theorem gX7_insertLeaf_X7_of : GoodIn wsX7_insertLeaf (wsV RX7 53 RX7 yX7_of wsX7_of) := goodIn_app (goodIn_of _ (by decide +kernel)) ggX7_insertLeaf_X7_of
set_option maxRecDepth 20000 in
theorem ggX7_insertLeaf_X7_leafAt : GoodIn wsX7_insertLeaf wsX7_leafAt := goodIn_r _ [10, 1, 2, 3, 4, 5, 6, 15, 16, 17, 18, 19, 20, 21, 22, 23, 24, 25, 26, 27] (by decide +kernel) (by decide +kernel)
set_option maxRecDepth 20000 in
theorem gX7_insertLeaf_X7_leafAt : GoodIn wsX7_insertLeaf (wsV RX7 75 RX7 yX7_leafAt wsX7_leafAt) := goodIn_app (goodIn_of _ (by decide +kernel)) ggX7_insertLeaf_X7_leafAt
set_option maxRecDepth 20000 in
theorem ggX7_insertLeaf_X7_lay : GoodIn wsX7_insertLeaf wsX7_lay := goodIn_r _ [14, 6, 15, 16, 17, 18, 19, 20, 21, 22, 23, 24, 25, 26, 27] (by decide +kernel) (by decide +kernel)
set_option maxRecDepth 20000 in
theorem gX7_insertLeaf_X7_lay : GoodIn wsX7_insertLeaf (wsV RX7 67 RX7 yX7_lay wsX7_lay) := goodIn_app (goodIn_of _ (by decide +kernel)) ggX7_insertLeaf_X7_lay
theorem dX7_insertLeaf_0 : decode cX7_insertLeaf 0 = .ok (.aload_n 0, 1) := by decide +kernel
theorem dX7_insertLeaf_1 : decode cX7_insertLeaf 1 = .ok (.iload_n 1, 1) := by decide +kernel
theorem dX7_insertLeaf_2 : decode cX7_insertLeaf 2 = .ok (.iconst 2, 1) := by decide +kernel
theorem dX7_insertLeaf_3 : decode cX7_insertLeaf 3 = .ok (.invokevirtual 53, 3) := by decide +kernel
theorem dX7_insertLeaf_6 : decode cX7_insertLeaf 6 = .ok (.istore 4, 2) := by decide +kernel
theorem dX7_insertLeaf_8 : decode cX7_insertLeaf 8 = .ok (.iload 4, 2) := by decide +kernel
theorem dX7_insertLeaf_10 : decode cX7_insertLeaf 10 = .ok (.iload_n 2, 1) := by decide +kernel
theorem dX7_insertLeaf_11 : decode cX7_insertLeaf 11 = .ok (.if_icmp .le 28, 3) := by decide +kernel
theorem dX7_insertLeaf_14 : decode cX7_insertLeaf 14 = .ok (.aload_n 0, 1) := by decide +kernel
theorem dX7_insertLeaf_15 : decode cX7_insertLeaf 15 = .ok (.iload_n 1, 1) := by decide +kernel
theorem dX7_insertLeaf_16 : decode cX7_insertLeaf 16 = .ok (.bipush 6, 2) := by decide +kernel
theorem dX7_insertLeaf_18 : decode cX7_insertLeaf 18 = .ok (.iload 4, 2) := by decide +kernel
theorem dX7_insertLeaf_20 : decode cX7_insertLeaf 20 = .ok (.iadd, 1) := by decide +kernel
theorem dX7_insertLeaf_21 : decode cX7_insertLeaf 21 = .ok (.aload_n 0, 1) := by decide +kernel
theorem dX7_insertLeaf_22 : decode cX7_insertLeaf 22 = .ok (.iload_n 1, 1) := by decide +kernel
theorem dX7_insertLeaf_23 : decode cX7_insertLeaf 23 = .ok (.iload 4, 2) := by decide +kernel
theorem dX7_insertLeaf_25 : decode cX7_insertLeaf 25 = .ok (.iconst 1, 1) := by decide +kernel
theorem dX7_insertLeaf_26 : decode cX7_insertLeaf 26 = .ok (.isub, 1) := by decide +kernel
theorem dX7_insertLeaf_27 : decode cX7_insertLeaf 27 = .ok (.invokevirtual 75, 3) := by decide +kernel
theorem dX7_insertLeaf_30 : decode cX7_insertLeaf 30 = .ok (.invokevirtual 67, 3) := by decide +kernel
theorem dX7_insertLeaf_33 : decode cX7_insertLeaf 33 = .ok (.iinc 4 (-1), 3) := by decide +kernel
theorem dX7_insertLeaf_36 : decode cX7_insertLeaf 36 = .ok (.goto (-28), 3) := by decide +kernel
theorem dX7_insertLeaf_39 : decode cX7_insertLeaf 39 = .ok (.aload_n 0, 1) := by decide +kernel
theorem dX7_insertLeaf_40 : decode cX7_insertLeaf 40 = .ok (.iload_n 1, 1) := by decide +kernel
theorem dX7_insertLeaf_41 : decode cX7_insertLeaf 41 = .ok (.bipush 6, 2) := by decide +kernel
theorem dX7_insertLeaf_43 : decode cX7_insertLeaf 43 = .ok (.iload_n 2, 1) := by decide +kernel
theorem dX7_insertLeaf_44 : decode cX7_insertLeaf 44 = .ok (.iadd, 1) := by decide +kernel
theorem dX7_insertLeaf_45 : decode cX7_insertLeaf 45 = .ok (.iload_n 3, 1) := by decide +kernel
theorem dX7_insertLeaf_46 : decode cX7_insertLeaf 46 = .ok (.invokevirtual 67, 3) := by decide +kernel
theorem dX7_insertLeaf_49 : decode cX7_insertLeaf 49 = .ok (.aload_n 0, 1) := by decide +kernel
theorem dX7_insertLeaf_50 : decode cX7_insertLeaf 50 = .ok (.iload_n 1, 1) := by decide +kernel
theorem dX7_insertLeaf_51 : decode cX7_insertLeaf 51 = .ok (.iconst 2, 1) := by decide +kernel
theorem dX7_insertLeaf_52 : decode cX7_insertLeaf 52 = .ok (.aload_n 0, 1) := by decide +kernel
theorem dX7_insertLeaf_53 : decode cX7_insertLeaf 53 = .ok (.iload_n 1, 1) := by decide +kernel
theorem dX7_insertLeaf_54 : decode cX7_insertLeaf 54 = .ok (.iconst 2, 1) := by decide +kernel
theorem dX7_insertLeaf_55 : decode cX7_insertLeaf 55 = .ok (.invokevirtual 53, 3) := by decide +kernel
theorem dX7_insertLeaf_58 : decode cX7_insertLeaf 58 = .ok (.iconst 1, 1) := by decide +kernel
theorem dX7_insertLeaf_59 : decode cX7_insertLeaf 59 = .ok (.iadd, 1) := by decide +kernel
theorem dX7_insertLeaf_60 : decode cX7_insertLeaf 60 = .ok (.invokevirtual 67, 3) := by decide +kernel
theorem dX7_insertLeaf_63 : decode cX7_insertLeaf 63 = .ok (.return_, 1) := by decide +kernel
set_option maxRecDepth 20000 in
theorem ggX7_setEntry_X7_lay : GoodIn wsX7_setEntry wsX7_lay := goodIn_r _ [5, 6, 7, 8, 9, 10, 11, 12, 13, 14, 15, 16, 17, 18, 19] (by decide +kernel) (by decide +kernel)
set_option maxRecDepth 20000 in
theorem gX7_setEntry_X7_lay : GoodIn wsX7_setEntry (wsV RX7 67 RX7 yX7_lay wsX7_lay) := goodIn_app (goodIn_of _ (by decide +kernel)) ggX7_setEntry_X7_lay
theorem dX7_setEntry_0 : decode cX7_setEntry 0 = .ok (.aload_n 0, 1) := by decide +kernel
theorem dX7_setEntry_1 : decode cX7_setEntry 1 = .ok (.iload_n 1, 1) := by decide +kernel
theorem dX7_setEntry_2 : decode cX7_setEntry 2 = .ok (.bipush 6, 2) := by decide +kernel
theorem dX7_setEntry_4 : decode cX7_setEntry 4 = .ok (.iconst 2, 1) := by decide +kernel
theorem dX7_setEntry_5 : decode cX7_setEntry 5 = .ok (.iload_n 2, 1) := by decide +kernel
theorem dX7_setEntry_6 : decode cX7_setEntry 6 = .ok (.imul, 1) := by decide +kernel
theorem dX7_setEntry_7 : decode cX7_setEntry 7 = .ok (.iadd, 1) := by decide +kernel
theorem dX7_setEntry_8 : decode cX7_setEntry 8 = .ok (.iload_n 3, 1) := by decide +kernel
theorem dX7_setEntry_9 : decode cX7_setEntry 9 = .ok (.invokevirtual 67, 3) := by decide +kernel
theorem dX7_setEntry_12 : decode cX7_setEntry 12 = .ok (.aload_n 0, 1) := by decide +kernel
theorem dX7_setEntry_13 : decode cX7_setEntry 13 = .ok (.iload_n 1, 1) := by decide +kernel
theorem dX7_setEntry_14 : decode cX7_setEntry 14 = .ok (.bipush 6, 2) := by decide +kernel
theorem dX7_setEntry_16 : decode cX7_setEntry 16 = .ok (.iconst 2, 1) := by decide +kernel
theorem dX7_setEntry_17 : decode cX7_setEntry 17 = .ok (.iload_n 2, 1) := by decide +kernel
theorem dX7_setEntry_18 : decode cX7_setEntry 18 = .ok (.imul, 1) := by decide +kernel
theorem dX7_setEntry_19 : decode cX7_setEntry 19 = .ok (.iadd, 1) := by decide +kernel
theorem dX7_setEntry_20 : decode cX7_setEntry 20 = .ok (.iconst 1, 1) := by decide +kernel
theorem dX7_setEntry_21 : decode cX7_setEntry 21 = .ok (.iadd, 1) := by decide +kernel
theorem dX7_setEntry_22 : decode cX7_setEntry 22 = .ok (.iload 4, 2) := by decide +kernel
theorem dX7_setEntry_24 : decode cX7_setEntry 24 = .ok (.invokevirtual 67, 3) := by decide +kernel
theorem dX7_setEntry_27 : decode cX7_setEntry 27 = .ok (.return_, 1) := by decide +kernel
set_option maxRecDepth 20000 in
theorem ggX7_splits_X7_keyAt : GoodIn wsX7_splits wsX7_keyAt := goodIn_r _ [6, 7, 8, 9, 5, 10, 11, 60, 61, 62, 63, 64, 65, 66, 67, 68, 69, 70, 71, 72] (by decide +kernel) (by decide +kernel)
set_option maxRecDepth 20000 in
theorem gX7_splits_X7_keyAt : GoodIn wsX7_splits (wsV RX7 78 RX7 yX7_keyAt wsX7_keyAt) := goodIn_app (goodIn_of _ (by decide +kernel)) ggX7_splits_X7_keyAt
set_option maxRecDepth 20000 in
theorem ggX7_splits_X7_valueAt : GoodIn wsX7_splits wsX7_valueAt := goodIn_r _ [15, 7, 8, 9, 5, 10, 11, 60, 61, 62, 63, 64, 65, 66, 67, 68, 69, 70, 71, 72] (by decide +kernel) (by decide +kernel)
set_option maxRecDepth 20000 in
theorem gX7_splits_X7_valueAt : GoodIn wsX7_splits (wsV RX7 87 RX7 yX7_valueAt wsX7_valueAt) := goodIn_app (goodIn_of _ (by decide +kernel)) ggX7_splits_X7_valueAt
set_option maxRecDepth 20000 in
theorem ggX7_splits_X7_dig : GoodIn wsX7_splits wsX7_dig := goodIn_r _ [19, 20, 21, 22, 5, 23, 24, 25, 26, 27, 7, 8, 9, 10, 11, 28, 29, 30, 31, 32, 33, 34, 35, 36, 37, 38, 39, 40, 41, 42, 43, 44, 45, 46, 47, 60, 61, 62, 63, 64, 65, 66, 67, 68, 69, 70, 71, 72] (by decide +kernel) (by decide +kernel)
set_option maxRecDepth 20000 in
theorem gX7_splits_X7_dig : GoodIn wsX7_splits (wsV RX7 96 RX7 yX7_dig wsX7_dig) := goodIn_app (goodIn_of _ (by decide +kernel)) ggX7_splits_X7_dig
set_option maxRecDepth 20000 in
theorem ggX7_splits_X7_setEntry : GoodIn wsX7_splits wsX7_setEntry := goodIn_r _ [51, 44, 45, 46, 5, 47, 11, 60, 61, 62, 63, 64, 65, 66, 67, 68, 69, 70, 71, 72] (by decide +kernel) (by decide +kernel)
set_option maxRecDepth 20000 in
theorem gX7_splits_X7_setEntry : GoodIn wsX7_splits (wsV RX7 106 RX7 yX7_setEntry wsX7_setEntry) := goodIn_app (goodIn_of _ (by decide +kernel)) ggX7_splits_X7_setEntry
set_option maxRecDepth 20000 in
theorem ggX7_splits_X7_lay : GoodIn wsX7_splits wsX7_lay := goodIn_r _ [47, 11, 60, 61, 62, 63, 64, 65, 66, 67, 68, 69, 70, 71, 72] (by decide +kernel) (by decide +kernel)
set_option maxRecDepth 20000 in
theorem gX7_splits_X7_lay : GoodIn wsX7_splits (wsV RX7 67 RX7 yX7_lay wsX7_lay) := goodIn_app (goodIn_of _ (by decide +kernel)) ggX7_splits_X7_lay
set_option maxRecDepth 20000 in
theorem ggX7_splits_X7_insertLeaf : GoodIn wsX7_splits wsX7_insertLeaf := goodIn_r _ [55, 7, 8, 9, 5, 10, 11, 56, 57, 58, 59, 44, 45, 46, 47, 60, 61, 62, 63, 64, 65, 66, 67, 68, 69, 70, 71, 72] (by decide +kernel) (by decide +kernel)
set_option maxRecDepth 20000 in
theorem gX7_splits_X7_insertLeaf : GoodIn wsX7_splits (wsV RX7 110 RX7 yX7_insertLeaf wsX7_insertLeaf) := goodIn_app (goodIn_of _ (by decide +kernel)) ggX7_splits_X7_insertLeaf
theorem dX7_splits_0 : decode cX7_splits 0 = .ok (.iconst 0, 1) := by decide +kernel
theorem dX7_splits_1 : decode cX7_splits 1 = .ok (.istore 6, 2) := by decide +kernel
theorem dX7_splits_3 : decode cX7_splits 3 = .ok (.iconst 0, 1) := by decide +kernel
theorem dX7_splits_4 : decode cX7_splits 4 = .ok (.istore 7, 2) := by decide +kernel
theorem dX7_splits_6 : decode cX7_splits 6 = .ok (.iload 7, 2) := by decide +kernel
theorem dX7_splits_8 : decode cX7_splits 8 = .ok (.iconst 4, 1) := by decide +kernel
theorem dX7_splits_9 : decode cX7_splits 9 = .ok (.if_icmp .ge 31, 3) := by decide +kernel
theorem dX7_splits_12 : decode cX7_splits 12 = .ok (.iload 6, 2) := by decide +kernel
theorem dX7_splits_14 : decode cX7_splits 14 = .ok (.aload_n 0, 1) := by decide +kernel
theorem dX7_splits_15 : decode cX7_splits 15 = .ok (.iload_n 3, 1) := by decide +kernel
theorem dX7_splits_16 : decode cX7_splits 16 = .ok (.iload 7, 2) := by decide +kernel
theorem dX7_splits_18 : decode cX7_splits 18 = .ok (.invokevirtual 78, 3) := by decide +kernel
theorem dX7_splits_21 : decode cX7_splits 21 = .ok (.iload 4, 2) := by decide +kernel
theorem dX7_splits_23 : decode cX7_splits 23 = .ok (.if_icmp .ge 7, 3) := by decide +kernel
theorem dX7_splits_26 : decode cX7_splits 26 = .ok (.iconst 1, 1) := by decide +kernel
theorem dX7_splits_27 : decode cX7_splits 27 = .ok (.goto 4, 3) := by decide +kernel
theorem dX7_splits_30 : decode cX7_splits 30 = .ok (.iconst 0, 1) := by decide +kernel
theorem dX7_splits_31 : decode cX7_splits 31 = .ok (.iadd, 1) := by decide +kernel
theorem dX7_splits_32 : decode cX7_splits 32 = .ok (.istore 6, 2) := by decide +kernel
theorem dX7_splits_34 : decode cX7_splits 34 = .ok (.iinc 7 1, 3) := by decide +kernel
theorem dX7_splits_37 : decode cX7_splits 37 = .ok (.goto (-31), 3) := by decide +kernel
theorem dX7_splits_40 : decode cX7_splits 40 = .ok (.iconst 0, 1) := by decide +kernel
theorem dX7_splits_41 : decode cX7_splits 41 = .ok (.istore 7, 2) := by decide +kernel
theorem dX7_splits_43 : decode cX7_splits 43 = .ok (.iload 7, 2) := by decide +kernel
theorem dX7_splits_45 : decode cX7_splits 45 = .ok (.iconst 5, 1) := by decide +kernel
theorem dX7_splits_46 : decode cX7_splits 46 = .ok (.if_icmp .ge 85, 3) := by decide +kernel
theorem dX7_splits_49 : decode cX7_splits 49 = .ok (.iload 7, 2) := by decide +kernel
theorem dX7_splits_51 : decode cX7_splits 51 = .ok (.iload 6, 2) := by decide +kernel
theorem dX7_splits_53 : decode cX7_splits 53 = .ok (.if_icmp .ge 8, 3) := by decide +kernel
theorem dX7_splits_56 : decode cX7_splits 56 = .ok (.iload 7, 2) := by decide +kernel
theorem dX7_splits_58 : decode cX7_splits 58 = .ok (.goto 7, 3) := by decide +kernel
theorem dX7_splits_61 : decode cX7_splits 61 = .ok (.iload 7, 2) := by decide +kernel
theorem dX7_splits_63 : decode cX7_splits 63 = .ok (.iconst 1, 1) := by decide +kernel
theorem dX7_splits_64 : decode cX7_splits 64 = .ok (.isub, 1) := by decide +kernel
theorem dX7_splits_65 : decode cX7_splits 65 = .ok (.istore 8, 2) := by decide +kernel
theorem dX7_splits_67 : decode cX7_splits 67 = .ok (.aload_n 0, 1) := by decide +kernel
theorem dX7_splits_68 : decode cX7_splits 68 = .ok (.getfield 22, 3) := by decide +kernel
theorem dX7_splits_71 : decode cX7_splits 71 = .ok (.iconst 2, 1) := by decide +kernel
theorem dX7_splits_72 : decode cX7_splits 72 = .ok (.iload 7, 2) := by decide +kernel
theorem dX7_splits_74 : decode cX7_splits 74 = .ok (.imul, 1) := by decide +kernel
theorem dX7_splits_75 : decode cX7_splits 75 = .ok (.iload 7, 2) := by decide +kernel
theorem dX7_splits_77 : decode cX7_splits 77 = .ok (.iload 6, 2) := by decide +kernel
theorem dX7_splits_79 : decode cX7_splits 79 = .ok (.if_icmp .ne 8, 3) := by decide +kernel
theorem dX7_splits_82 : decode cX7_splits 82 = .ok (.iload 4, 2) := by decide +kernel
theorem dX7_splits_84 : decode cX7_splits 84 = .ok (.goto 10, 3) := by decide +kernel
theorem dX7_splits_87 : decode cX7_splits 87 = .ok (.aload_n 0, 1) := by decide +kernel
theorem dX7_splits_88 : decode cX7_splits 88 = .ok (.iload_n 3, 1) := by decide +kernel
theorem dX7_splits_89 : decode cX7_splits 89 = .ok (.iload 8, 2) := by decide +kernel
theorem dX7_splits_91 : decode cX7_splits 91 = .ok (.invokevirtual 78, 3) := by decide +kernel
theorem dX7_splits_94 : decode cX7_splits 94 = .ok (.iastore, 1) := by decide +kernel
theorem dX7_splits_95 : decode cX7_splits 95 = .ok (.aload_n 0, 1) := by decide +kernel
theorem dX7_splits_96 : decode cX7_splits 96 = .ok (.getfield 22, 3) := by decide +kernel
theorem dX7_splits_99 : decode cX7_splits 99 = .ok (.iconst 2, 1) := by decide +kernel
theorem dX7_splits_100 : decode cX7_splits 100 = .ok (.iload 7, 2) := by decide +kernel
theorem dX7_splits_102 : decode cX7_splits 102 = .ok (.imul, 1) := by decide +kernel
theorem dX7_splits_103 : decode cX7_splits 103 = .ok (.iconst 1, 1) := by decide +kernel
theorem dX7_splits_104 : decode cX7_splits 104 = .ok (.iadd, 1) := by decide +kernel
theorem dX7_splits_105 : decode cX7_splits 105 = .ok (.iload 7, 2) := by decide +kernel
theorem dX7_splits_107 : decode cX7_splits 107 = .ok (.iload 6, 2) := by decide +kernel
theorem dX7_splits_109 : decode cX7_splits 109 = .ok (.if_icmp .ne 8, 3) := by decide +kernel
theorem dX7_splits_112 : decode cX7_splits 112 = .ok (.iload 5, 2) := by decide +kernel
theorem dX7_splits_114 : decode cX7_splits 114 = .ok (.goto 10, 3) := by decide +kernel
theorem dX7_splits_117 : decode cX7_splits 117 = .ok (.aload_n 0, 1) := by decide +kernel
theorem dX7_splits_118 : decode cX7_splits 118 = .ok (.iload_n 3, 1) := by decide +kernel
theorem dX7_splits_119 : decode cX7_splits 119 = .ok (.iload 8, 2) := by decide +kernel
theorem dX7_splits_121 : decode cX7_splits 121 = .ok (.invokevirtual 87, 3) := by decide +kernel
theorem dX7_splits_124 : decode cX7_splits 124 = .ok (.iastore, 1) := by decide +kernel
theorem dX7_splits_125 : decode cX7_splits 125 = .ok (.iinc 7 1, 3) := by decide +kernel
theorem dX7_splits_128 : decode cX7_splits 128 = .ok (.goto (-85), 3) := by decide +kernel
theorem dX7_splits_131 : decode cX7_splits 131 = .ok (.aload_n 0, 1) := by decide +kernel
theorem dX7_splits_132 : decode cX7_splits 132 = .ok (.iconst 0, 1) := by decide +kernel
theorem dX7_splits_133 : decode cX7_splits 133 = .ok (.invokevirtual 96, 3) := by decide +kernel
theorem dX7_splits_136 : decode cX7_splits 136 = .ok (.istore 7, 2) := by decide +kernel
theorem dX7_splits_138 : decode cX7_splits 138 = .ok (.iconst 0, 1) := by decide +kernel
theorem dX7_splits_139 : decode cX7_splits 139 = .ok (.istore 8, 2) := by decide +kernel
theorem dX7_splits_141 : decode cX7_splits 141 = .ok (.iload 8, 2) := by decide +kernel
theorem dX7_splits_143 : decode cX7_splits 143 = .ok (.iconst 5, 1) := by decide +kernel
theorem dX7_splits_144 : decode cX7_splits 144 = .ok (.if_icmp .ge 60, 3) := by decide +kernel
theorem dX7_splits_147 : decode cX7_splits 147 = .ok (.aload_n 0, 1) := by decide +kernel
theorem dX7_splits_148 : decode cX7_splits 148 = .ok (.iload 8, 2) := by decide +kernel
theorem dX7_splits_150 : decode cX7_splits 150 = .ok (.iconst 3, 1) := by decide +kernel
theorem dX7_splits_151 : decode cX7_splits 151 = .ok (.if_icmp .ge 7, 3) := by decide +kernel
theorem dX7_splits_154 : decode cX7_splits 154 = .ok (.iload_n 3, 1) := by decide +kernel
theorem dX7_splits_155 : decode cX7_splits 155 = .ok (.goto 5, 3) := by decide +kernel
theorem dX7_splits_158 : decode cX7_splits 158 = .ok (.iload 7, 2) := by decide +kernel
theorem dX7_splits_160 : decode cX7_splits 160 = .ok (.iload 8, 2) := by decide +kernel
theorem dX7_splits_162 : decode cX7_splits 162 = .ok (.iconst 3, 1) := by decide +kernel
theorem dX7_splits_163 : decode cX7_splits 163 = .ok (.if_icmp .ge 8, 3) := by decide +kernel
theorem dX7_splits_166 : decode cX7_splits 166 = .ok (.iload 8, 2) := by decide +kernel
theorem dX7_splits_168 : decode cX7_splits 168 = .ok (.goto 7, 3) := by decide +kernel
theorem dX7_splits_171 : decode cX7_splits 171 = .ok (.iload 8, 2) := by decide +kernel
theorem dX7_splits_173 : decode cX7_splits 173 = .ok (.iconst 3, 1) := by decide +kernel
theorem dX7_splits_174 : decode cX7_splits 174 = .ok (.isub, 1) := by decide +kernel
theorem dX7_splits_175 : decode cX7_splits 175 = .ok (.aload_n 0, 1) := by decide +kernel
theorem dX7_splits_176 : decode cX7_splits 176 = .ok (.getfield 22, 3) := by decide +kernel
theorem dX7_splits_179 : decode cX7_splits 179 = .ok (.iconst 2, 1) := by decide +kernel
theorem dX7_splits_180 : decode cX7_splits 180 = .ok (.iload 8, 2) := by decide +kernel
theorem dX7_splits_182 : decode cX7_splits 182 = .ok (.imul, 1) := by decide +kernel
theorem dX7_splits_183 : decode cX7_splits 183 = .ok (.iaload, 1) := by decide +kernel
theorem dX7_splits_184 : decode cX7_splits 184 = .ok (.aload_n 0, 1) := by decide +kernel
theorem dX7_splits_185 : decode cX7_splits 185 = .ok (.getfield 22, 3) := by decide +kernel
theorem dX7_splits_188 : decode cX7_splits 188 = .ok (.iconst 2, 1) := by decide +kernel
theorem dX7_splits_189 : decode cX7_splits 189 = .ok (.iload 8, 2) := by decide +kernel
theorem dX7_splits_191 : decode cX7_splits 191 = .ok (.imul, 1) := by decide +kernel
theorem dX7_splits_192 : decode cX7_splits 192 = .ok (.iconst 1, 1) := by decide +kernel
theorem dX7_splits_193 : decode cX7_splits 193 = .ok (.iadd, 1) := by decide +kernel
theorem dX7_splits_194 : decode cX7_splits 194 = .ok (.iaload, 1) := by decide +kernel
theorem dX7_splits_195 : decode cX7_splits 195 = .ok (.invokevirtual 106, 3) := by decide +kernel
theorem dX7_splits_198 : decode cX7_splits 198 = .ok (.iinc 8 1, 3) := by decide +kernel
theorem dX7_splits_201 : decode cX7_splits 201 = .ok (.goto (-60), 3) := by decide +kernel
theorem dX7_splits_204 : decode cX7_splits 204 = .ok (.aload_n 0, 1) := by decide +kernel
theorem dX7_splits_205 : decode cX7_splits 205 = .ok (.iload_n 3, 1) := by decide +kernel
theorem dX7_splits_206 : decode cX7_splits 206 = .ok (.iconst 2, 1) := by decide +kernel
theorem dX7_splits_207 : decode cX7_splits 207 = .ok (.iconst 3, 1) := by decide +kernel
theorem dX7_splits_208 : decode cX7_splits 208 = .ok (.invokevirtual 67, 3) := by decide +kernel
theorem dX7_splits_211 : decode cX7_splits 211 = .ok (.aload_n 0, 1) := by decide +kernel
theorem dX7_splits_212 : decode cX7_splits 212 = .ok (.iload 7, 2) := by decide +kernel
theorem dX7_splits_214 : decode cX7_splits 214 = .ok (.iconst 2, 1) := by decide +kernel
theorem dX7_splits_215 : decode cX7_splits 215 = .ok (.iconst 2, 1) := by decide +kernel
theorem dX7_splits_216 : decode cX7_splits 216 = .ok (.invokevirtual 67, 3) := by decide +kernel
theorem dX7_splits_219 : decode cX7_splits 219 = .ok (.aload_n 0, 1) := by decide +kernel
theorem dX7_splits_220 : decode cX7_splits 220 = .ok (.iload_n 1, 1) := by decide +kernel
theorem dX7_splits_221 : decode cX7_splits 221 = .ok (.iload_n 2, 1) := by decide +kernel
theorem dX7_splits_222 : decode cX7_splits 222 = .ok (.iconst 1, 1) := by decide +kernel
theorem dX7_splits_223 : decode cX7_splits 223 = .ok (.iadd, 1) := by decide +kernel
theorem dX7_splits_224 : decode cX7_splits 224 = .ok (.iload 7, 2) := by decide +kernel
theorem dX7_splits_226 : decode cX7_splits 226 = .ok (.invokevirtual 110, 3) := by decide +kernel
theorem dX7_splits_229 : decode cX7_splits 229 = .ok (.return_, 1) := by decide +kernel
set_option maxRecDepth 20000 in
theorem ggX7_inserts_X7_of : GoodIn wsX7_inserts wsX7_of := goodIn_r _ [5, 6, 23, 24, 25, 26, 27, 28, 29, 30, 31, 32, 33, 34, 35] (by decide +kernel) (by decide +kernel)
set_option maxRecDepth 20000 in
theorem gX7_inserts_X7_of : GoodIn wsX7_inserts (wsV RX7 53 RX7 yX7_of wsX7_of) := goodIn_app (goodIn_of _ (by decide +kernel)) ggX7_inserts_X7_of
set_option maxRecDepth 20000 in
theorem ggX7_inserts_X7_keyAt : GoodIn wsX7_inserts wsX7_keyAt := goodIn_r _ [10, 1, 2, 3, 4, 5, 6, 23, 24, 25, 26, 27, 28, 29, 30, 31, 32, 33, 34, 35] (by decide +kernel) (by decide +kernel)
set_option maxRecDepth 20000 in
theorem gX7_inserts_X7_keyAt : GoodIn wsX7_inserts (wsV RX7 78 RX7 yX7_keyAt wsX7_keyAt) := goodIn_app (goodIn_of _ (by decide +kernel)) ggX7_inserts_X7_keyAt
set_option maxRecDepth 20000 in
theorem ggX7_inserts_X7_valueAt : GoodIn wsX7_inserts wsX7_valueAt := goodIn_r _ [14, 1, 2, 3, 4, 5, 6, 23, 24, 25, 26, 27, 28, 29, 30, 31, 32, 33, 34, 35] (by decide +kernel) (by decide +kernel)
set_option maxRecDepth 20000 in
theorem gX7_inserts_X7_valueAt : GoodIn wsX7_inserts (wsV RX7 87 RX7 yX7_valueAt wsX7_valueAt) := goodIn_app (goodIn_of _ (by decide +kernel)) ggX7_inserts_X7_valueAt
set_option maxRecDepth 20000 in
theorem ggX7_inserts_X7_setEntry : GoodIn wsX7_inserts wsX7_setEntry := goodIn_r _ [18, 19, 20, 21, 4, 22, 6, 23, 24, 25, 26, 27, 28, 29, 30, 31, 32, 33, 34, 35] (by decide +kernel) (by decide +kernel)
set_option maxRecDepth 20000 in
theorem gX7_inserts_X7_setEntry : GoodIn wsX7_inserts (wsV RX7 106 RX7 yX7_setEntry wsX7_setEntry) := goodIn_app (goodIn_of _ (by decide +kernel)) ggX7_inserts_X7_setEntry
set_option maxRecDepth 20000 in
theorem ggX7_inserts_X7_lay : GoodIn wsX7_inserts wsX7_lay := goodIn_r _ [22, 6, 23, 24, 25, 26, 27, 28, 29, 30, 31, 32, 33, 34, 35] (by decide +kernel) (by decide +kernel)
set_option maxRecDepth 20000 in
theorem gX7_inserts_X7_lay : GoodIn wsX7_inserts (wsV RX7 67 RX7 yX7_lay wsX7_lay) := goodIn_app (goodIn_of _ (by decide +kernel)) ggX7_inserts_X7_lay
theorem dX7_inserts_0 : decode cX7_inserts 0 = .ok (.aload_n 0, 1) := by decide +kernel
theorem dX7_inserts_1 : decode cX7_inserts 1 = .ok (.iload_n 1, 1) := by decide +kernel
theorem dX7_inserts_2 : decode cX7_inserts 2 = .ok (.iconst 2, 1) := by decide +kernel
theorem dX7_inserts_3 : decode cX7_inserts 3 = .ok (.invokevirtual 53, 3) := by decide +kernel
theorem dX7_inserts_6 : decode cX7_inserts 6 = .ok (.istore 4, 2) := by decide +kernel
theorem dX7_inserts_8 : decode cX7_inserts 8 = .ok (.iload 4, 2) := by decide +kernel
theorem dX7_inserts_10 : decode cX7_inserts 10 = .ok (.ifCond .le 47, 3) := by decide +kernel
theorem dX7_inserts_13 : decode cX7_inserts 13 = .ok (.aload_n 0, 1) := by decide +kernel
theorem dX7_inserts_14 : decode cX7_inserts 14 = .ok (.iload_n 1, 1) := by decide +kernel
theorem dX7_inserts_15 : decode cX7_inserts 15 = .ok (.iload 4, 2) := by decide +kernel
theorem dX7_inserts_17 : decode cX7_inserts 17 = .ok (.iconst 1, 1) := by decide +kernel
theorem dX7_inserts_18 : decode cX7_inserts 18 = .ok (.isub, 1) := by decide +kernel
theorem dX7_inserts_19 : decode cX7_inserts 19 = .ok (.invokevirtual 78, 3) := by decide +kernel
theorem dX7_inserts_22 : decode cX7_inserts 22 = .ok (.iload_n 2, 1) := by decide +kernel
theorem dX7_inserts_23 : decode cX7_inserts 23 = .ok (.if_icmp .le 34, 3) := by decide +kernel
theorem dX7_inserts_26 : decode cX7_inserts 26 = .ok (.aload_n 0, 1) := by decide +kernel
theorem dX7_inserts_27 : decode cX7_inserts 27 = .ok (.iload_n 1, 1) := by decide +kernel
theorem dX7_inserts_28 : decode cX7_inserts 28 = .ok (.iload 4, 2) := by decide +kernel
theorem dX7_inserts_30 : decode cX7_inserts 30 = .ok (.aload_n 0, 1) := by decide +kernel
theorem dX7_inserts_31 : decode cX7_inserts 31 = .ok (.iload_n 1, 1) := by decide +kernel
theorem dX7_inserts_32 : decode cX7_inserts 32 = .ok (.iload 4, 2) := by decide +kernel
theorem dX7_inserts_34 : decode cX7_inserts 34 = .ok (.iconst 1, 1) := by decide +kernel
theorem dX7_inserts_35 : decode cX7_inserts 35 = .ok (.isub, 1) := by decide +kernel
theorem dX7_inserts_36 : decode cX7_inserts 36 = .ok (.invokevirtual 78, 3) := by decide +kernel
theorem dX7_inserts_39 : decode cX7_inserts 39 = .ok (.aload_n 0, 1) := by decide +kernel
theorem dX7_inserts_40 : decode cX7_inserts 40 = .ok (.iload_n 1, 1) := by decide +kernel
theorem dX7_inserts_41 : decode cX7_inserts 41 = .ok (.iload 4, 2) := by decide +kernel
theorem dX7_inserts_43 : decode cX7_inserts 43 = .ok (.iconst 1, 1) := by decide +kernel
theorem dX7_inserts_44 : decode cX7_inserts 44 = .ok (.isub, 1) := by decide +kernel
theorem dX7_inserts_45 : decode cX7_inserts 45 = .ok (.invokevirtual 87, 3) := by decide +kernel
theorem dX7_inserts_48 : decode cX7_inserts 48 = .ok (.invokevirtual 106, 3) := by decide +kernel
theorem dX7_inserts_51 : decode cX7_inserts 51 = .ok (.iinc 4 (-1), 3) := by decide +kernel
theorem dX7_inserts_54 : decode cX7_inserts 54 = .ok (.goto (-46), 3) := by decide +kernel
theorem dX7_inserts_57 : decode cX7_inserts 57 = .ok (.aload_n 0, 1) := by decide +kernel
theorem dX7_inserts_58 : decode cX7_inserts 58 = .ok (.iload_n 1, 1) := by decide +kernel
theorem dX7_inserts_59 : decode cX7_inserts 59 = .ok (.iload 4, 2) := by decide +kernel
theorem dX7_inserts_61 : decode cX7_inserts 61 = .ok (.iload_n 2, 1) := by decide +kernel
theorem dX7_inserts_62 : decode cX7_inserts 62 = .ok (.iload_n 3, 1) := by decide +kernel
theorem dX7_inserts_63 : decode cX7_inserts 63 = .ok (.invokevirtual 106, 3) := by decide +kernel
theorem dX7_inserts_66 : decode cX7_inserts 66 = .ok (.aload_n 0, 1) := by decide +kernel
theorem dX7_inserts_67 : decode cX7_inserts 67 = .ok (.iload_n 1, 1) := by decide +kernel
theorem dX7_inserts_68 : decode cX7_inserts 68 = .ok (.iconst 2, 1) := by decide +kernel
theorem dX7_inserts_69 : decode cX7_inserts 69 = .ok (.aload_n 0, 1) := by decide +kernel
theorem dX7_inserts_70 : decode cX7_inserts 70 = .ok (.iload_n 1, 1) := by decide +kernel
theorem dX7_inserts_71 : decode cX7_inserts 71 = .ok (.iconst 2, 1) := by decide +kernel
theorem dX7_inserts_72 : decode cX7_inserts 72 = .ok (.invokevirtual 53, 3) := by decide +kernel
theorem dX7_inserts_75 : decode cX7_inserts 75 = .ok (.iconst 1, 1) := by decide +kernel
theorem dX7_inserts_76 : decode cX7_inserts 76 = .ok (.iadd, 1) := by decide +kernel
theorem dX7_inserts_77 : decode cX7_inserts 77 = .ok (.invokevirtual 67, 3) := by decide +kernel
theorem dX7_inserts_80 : decode cX7_inserts 80 = .ok (.return_, 1) := by decide +kernel
set_option maxRecDepth 20000 in
theorem ggX7_doPut_X7_in : GoodIn wsX7_doPut wsX7_in := goodIn_r _ [5] (by decide +kernel) (by decide +kernel)
set_option maxRecDepth 20000 in
theorem gX7_doPut_X7_in : GoodIn wsX7_doPut (va_wsS RX7 113 yX7_in wsX7_in) := goodIn_app (goodIn_of _ (by decide +kernel)) ggX7_doPut_X7_in
set_option maxRecDepth 20000 in
theorem ggX7_doPut_X7_refuse : GoodIn wsX7_doPut wsX7_refuse := goodIn_r _ [9, 10, 120, 121, 122, 123, 124, 125, 126, 127, 128, 129, 130, 131, 132] (by decide +kernel) (by decide +kernel)
set_option maxRecDepth 20000 in
theorem gX7_doPut_X7_refuse : GoodIn wsX7_doPut (wsV RX7 117 RX7 yX7_refuse wsX7_refuse) := goodIn_app (goodIn_of _ (by decide +kernel)) ggX7_doPut_X7_refuse
set_option maxRecDepth 20000 in
theorem ggX7_doPut_X7_bedsOf : GoodIn wsX7_doPut wsX7_bedsOf := goodIn_r _ [14, 1, 15, 16, 17, 4, 18, 19, 20, 21, 22, 23, 24, 25, 26, 27, 28, 29, 30, 31, 32, 33, 34, 35, 36, 37, 38, 39, 40, 41, 42, 43, 44, 45, 46, 47, 48, 49, 50, 120, 121, 122, 123, 124, 125, 126, 127, 128, 129, 130, 131, 132] (by decide +kernel) (by decide +kernel)
set_option maxRecDepth 20000 in
theorem gX7_doPut_X7_bedsOf : GoodIn wsX7_doPut (wsV RX7 120 RX7 yX7_bedsOf wsX7_bedsOf) := goodIn_app (goodIn_of _ (by decide +kernel)) ggX7_doPut_X7_bedsOf
set_option maxRecDepth 20000 in
theorem ggX7_doPut_X7_manyToDig : GoodIn wsX7_doPut wsX7_manyToDig := goodIn_r _ [54, 55, 56, 57, 4, 58, 35, 36, 37, 38, 1, 59, 60, 61, 62, 23, 24, 25, 26, 27, 28, 29, 30, 63, 64, 65, 66, 120, 121, 122, 123, 124, 125, 126, 127, 128, 129, 130, 131, 132] (by decide +kernel) (by decide +kernel)
set_option maxRecDepth 20000 in
theorem gX7_doPut_X7_manyToDig : GoodIn wsX7_doPut (wsV RX7 123 RX7 yX7_manyToDig wsX7_manyToDig) := goodIn_app (goodIn_of _ (by decide +kernel)) ggX7_doPut_X7_manyToDig
set_option maxRecDepth 20000 in
theorem ggX7_doPut_X7_directory : GoodIn wsX7_doPut wsX7_directory := goodIn_r _ [70, 1, 19, 20, 21, 4, 22, 23, 24, 25, 26, 27, 28, 29, 30, 71, 72, 73, 74, 75, 76, 77, 78, 55, 56, 57, 58, 35, 36, 37, 38, 59, 60, 61, 62, 63, 64, 65, 66, 79, 80, 81, 82, 83, 84, 85, 86, 87, 88, 89, 90, 91, 92, 93, 94, 120, 121, 122, 123, 124, 125, 126, 127, 128, 129, 130, 131, 132] (by decide +kernel) (by decide +kernel)
set_option maxRecDepth 20000 in
theorem gX7_doPut_X7_directory : GoodIn wsX7_doPut (wsV RX7 126 RX7 yX7_directory wsX7_directory) := goodIn_app (goodIn_of _ (by decide +kernel)) ggX7_doPut_X7_directory
set_option maxRecDepth 20000 in
theorem ggX7_doPut_X7_placeFor : GoodIn wsX7_doPut wsX7_placeFor := goodIn_r _ [34, 35, 36, 37, 4, 38, 1, 39, 40, 41, 42, 43, 44, 45, 46, 120, 121, 122, 123, 124, 125, 126, 127, 128, 129, 130, 131, 132] (by decide +kernel) (by decide +kernel)
set_option maxRecDepth 20000 in
theorem gX7_doPut_X7_placeFor : GoodIn wsX7_doPut (wsV RX7 81 RX7 yX7_placeFor wsX7_placeFor) := goodIn_app (goodIn_of _ (by decide +kernel)) ggX7_doPut_X7_placeFor
set_option maxRecDepth 20000 in
theorem ggX7_doPut_X7_dig : GoodIn wsX7_doPut wsX7_dig := goodIn_r _ [74, 75, 76, 77, 4, 78, 55, 56, 57, 58, 35, 36, 37, 38, 1, 59, 60, 61, 62, 23, 24, 25, 26, 27, 28, 29, 30, 63, 64, 65, 66, 79, 80, 81, 82, 120, 121, 122, 123, 124, 125, 126, 127, 128, 129, 130, 131, 132] (by decide +kernel) (by decide +kernel)
set_option maxRecDepth 20000 in
theorem gX7_doPut_X7_dig : GoodIn wsX7_doPut (wsV RX7 96 RX7 yX7_dig wsX7_dig) := goodIn_app (goodIn_of _ (by decide +kernel)) ggX7_doPut_X7_dig
set_option maxRecDepth 20000 in
theorem ggX7_doPut_X7_inserts : GoodIn wsX7_doPut wsX7_inserts := goodIn_r _ [98, 35, 36, 37, 4, 38, 1, 43, 44, 45, 46, 99, 100, 101, 102, 103, 104, 105, 106, 79, 80, 81, 82, 120, 121, 122, 123, 124, 125, 126, 127, 128, 129, 130, 131, 132] (by decide +kernel) (by decide +kernel)
set_option maxRecDepth 20000 in
theorem gX7_doPut_X7_inserts : GoodIn wsX7_doPut (wsV RX7 129 RX7 yX7_inserts wsX7_inserts) := goodIn_app (goodIn_of _ (by decide +kernel)) ggX7_doPut_X7_inserts
set_option maxRecDepth 20000 in
theorem ggX7_doPut_X7_insertLeaf : GoodIn wsX7_doPut wsX7_insertLeaf := goodIn_r _ [110, 35, 36, 37, 4, 38, 1, 39, 40, 41, 42, 79, 80, 81, 82, 120, 121, 122, 123, 124, 125, 126, 127, 128, 129, 130, 131, 132] (by decide +kernel) (by decide +kernel)
set_option maxRecDepth 20000 in
theorem gX7_doPut_X7_insertLeaf : GoodIn wsX7_doPut (wsV RX7 110 RX7 yX7_insertLeaf wsX7_insertLeaf) := goodIn_app (goodIn_of _ (by decide +kernel)) ggX7_doPut_X7_insertLeaf
set_option maxRecDepth 20000 in
theorem ggX7_doPut_X7_ownLeaf : GoodIn wsX7_doPut wsX7_ownLeaf := goodIn_r _ [114, 39, 40, 41, 4, 42, 35, 36, 37, 38, 1, 71, 72, 73, 74, 75, 76, 77, 78, 55, 56, 57, 58, 59, 60, 61, 62, 23, 24, 25, 26, 27, 28, 29, 30, 63, 64, 65, 66, 79, 80, 81, 82, 83, 84, 85, 86, 87, 88, 89, 90, 91, 92, 93, 94, 120, 121, 122, 123, 124, 125, 126, 127, 128, 129, 130, 131, 132] (by decide +kernel) (by decide +kernel)
set_option maxRecDepth 20000 in
theorem gX7_doPut_X7_ownLeaf : GoodIn wsX7_doPut (wsV RX7 132 RX7 yX7_ownLeaf wsX7_ownLeaf) := goodIn_app (goodIn_of _ (by decide +kernel)) ggX7_doPut_X7_ownLeaf
set_option maxRecDepth 20000 in
theorem ggX7_doPut_X7_placeIn : GoodIn wsX7_doPut wsX7_placeIn := goodIn_r _ [50, 35, 36, 37, 4, 38, 1, 43, 44, 45, 46, 120, 121, 122, 123, 124, 125, 126, 127, 128, 129, 130, 131, 132] (by decide +kernel) (by decide +kernel)
set_option maxRecDepth 20000 in
theorem gX7_doPut_X7_placeIn : GoodIn wsX7_doPut (wsV RX7 84 RX7 yX7_placeIn wsX7_placeIn) := goodIn_app (goodIn_of _ (by decide +kernel)) ggX7_doPut_X7_placeIn
set_option maxRecDepth 20000 in
theorem ggX7_doPut_X7_valueAt : GoodIn wsX7_doPut wsX7_valueAt := goodIn_r _ [102, 35, 36, 37, 4, 38, 1, 120, 121, 122, 123, 124, 125, 126, 127, 128, 129, 130, 131, 132] (by decide +kernel) (by decide +kernel)
set_option maxRecDepth 20000 in
theorem gX7_doPut_X7_valueAt : GoodIn wsX7_doPut (wsV RX7 87 RX7 yX7_valueAt wsX7_valueAt) := goodIn_app (goodIn_of _ (by decide +kernel)) ggX7_doPut_X7_valueAt
set_option maxRecDepth 20000 in
theorem ggX7_doPut_X7_setEntry : GoodIn wsX7_doPut wsX7_setEntry := goodIn_r _ [106, 79, 80, 81, 4, 82, 1, 120, 121, 122, 123, 124, 125, 126, 127, 128, 129, 130, 131, 132] (by decide +kernel) (by decide +kernel)
set_option maxRecDepth 20000 in
theorem gX7_doPut_X7_setEntry : GoodIn wsX7_doPut (wsV RX7 106 RX7 yX7_setEntry wsX7_setEntry) := goodIn_app (goodIn_of _ (by decide +kernel)) ggX7_doPut_X7_setEntry
set_option maxRecDepth 20000 in
theorem ggX7_doPut_X7_of : GoodIn wsX7_doPut wsX7_of := goodIn_r _ [38, 1, 120, 121, 122, 123, 124, 125, 126, 127, 128, 129, 130, 131, 132] (by decide +kernel) (by decide +kernel)
set_option maxRecDepth 20000 in
theorem gX7_doPut_X7_of : GoodIn wsX7_doPut (wsV RX7 53 RX7 yX7_of wsX7_of) := goodIn_app (goodIn_of _ (by decide +kernel)) ggX7_doPut_X7_of
set_option maxRecDepth 20000 in
theorem ggX7_doPut_X7_splits : GoodIn wsX7_doPut wsX7_splits := goodIn_r _ [118, 119, 43, 44, 45, 4, 46, 35, 36, 37, 38, 1, 99, 100, 101, 102, 71, 72, 73, 74, 75, 76, 77, 78, 55, 56, 57, 58, 59, 60, 61, 62, 23, 24, 25, 26, 27, 28, 29, 30, 63, 64, 65, 66, 79, 80, 81, 82, 103, 104, 105, 106, 107, 108, 109, 110, 39, 40, 41, 42, 120, 121, 122, 123, 124, 125, 126, 127, 128, 129, 130, 131, 132] (by decide +kernel) (by decide +kernel)
set_option maxRecDepth 20000 in
theorem gX7_doPut_X7_splits : GoodIn wsX7_doPut (wsV RX7 135 RX7 yX7_splits wsX7_splits) := goodIn_app (goodIn_of _ (by decide +kernel)) ggX7_doPut_X7_splits
theorem dX7_doPut_0 : decode cX7_doPut 0 = .ok (.iload_n 1, 1) := by decide +kernel
theorem dX7_doPut_1 : decode cX7_doPut 1 = .ok (.iconst 0, 1) := by decide +kernel
theorem dX7_doPut_2 : decode cX7_doPut 2 = .ok (.bipush 99, 2) := by decide +kernel
theorem dX7_doPut_4 : decode cX7_doPut 4 = .ok (.invokestatic 113, 3) := by decide +kernel
theorem dX7_doPut_7 : decode cX7_doPut 7 = .ok (.ifCond .eq 16, 3) := by decide +kernel
theorem dX7_doPut_10 : decode cX7_doPut 10 = .ok (.iload_n 2, 1) := by decide +kernel
theorem dX7_doPut_11 : decode cX7_doPut 11 = .ok (.sipush (-999), 3) := by decide +kernel
theorem dX7_doPut_14 : decode cX7_doPut 14 = .ok (.sipush 999, 3) := by decide +kernel
theorem dX7_doPut_17 : decode cX7_doPut 17 = .ok (.invokestatic 113, 3) := by decide +kernel
theorem dX7_doPut_20 : decode cX7_doPut 20 = .ok (.ifCond .ne 9, 3) := by decide +kernel
theorem dX7_doPut_23 : decode cX7_doPut 23 = .ok (.aload_n 0, 1) := by decide +kernel
theorem dX7_doPut_24 : decode cX7_doPut 24 = .ok (.iconst 1, 1) := by decide +kernel
theorem dX7_doPut_25 : decode cX7_doPut 25 = .ok (.invokevirtual 117, 3) := by decide +kernel
theorem dX7_doPut_28 : decode cX7_doPut 28 = .ok (.ireturn, 1) := by decide +kernel
theorem dX7_doPut_29 : decode cX7_doPut 29 = .ok (.aload_n 0, 1) := by decide +kernel
theorem dX7_doPut_30 : decode cX7_doPut 30 = .ok (.getfield 7, 3) := by decide +kernel
theorem dX7_doPut_33 : decode cX7_doPut 33 = .ok (.sipush 466, 3) := by decide +kernel
theorem dX7_doPut_36 : decode cX7_doPut 36 = .ok (.iaload, 1) := by decide +kernel
theorem dX7_doPut_37 : decode cX7_doPut 37 = .ok (.ifCond .ne 9, 3) := by decide +kernel
theorem dX7_doPut_40 : decode cX7_doPut 40 = .ok (.sipush (-1000), 3) := by decide +kernel
theorem dX7_doPut_43 : decode cX7_doPut 43 = .ok (.goto 8, 3) := by decide +kernel
theorem dX7_doPut_46 : decode cX7_doPut 46 = .ok (.aload_n 0, 1) := by decide +kernel
theorem dX7_doPut_47 : decode cX7_doPut 47 = .ok (.iload_n 1, 1) := by decide +kernel
theorem dX7_doPut_48 : decode cX7_doPut 48 = .ok (.invokevirtual 120, 3) := by decide +kernel
theorem dX7_doPut_51 : decode cX7_doPut 51 = .ok (.istore_n 3, 1) := by decide +kernel
theorem dX7_doPut_52 : decode cX7_doPut 52 = .ok (.iload_n 3, 1) := by decide +kernel
theorem dX7_doPut_53 : decode cX7_doPut 53 = .ok (.sipush (-1000), 3) := by decide +kernel
theorem dX7_doPut_56 : decode cX7_doPut 56 = .ok (.if_icmp .eq 11, 3) := by decide +kernel
theorem dX7_doPut_59 : decode cX7_doPut 59 = .ok (.iload_n 3, 1) := by decide +kernel
theorem dX7_doPut_60 : decode cX7_doPut 60 = .ok (.aload_n 0, 1) := by decide +kernel
theorem dX7_doPut_61 : decode cX7_doPut 61 = .ok (.invokevirtual 123, 3) := by decide +kernel
theorem dX7_doPut_64 : decode cX7_doPut 64 = .ok (.if_icmp .le 9, 3) := by decide +kernel
theorem dX7_doPut_67 : decode cX7_doPut 67 = .ok (.aload_n 0, 1) := by decide +kernel
theorem dX7_doPut_68 : decode cX7_doPut 68 = .ok (.iconst 2, 1) := by decide +kernel
theorem dX7_doPut_69 : decode cX7_doPut 69 = .ok (.invokevirtual 117, 3) := by decide +kernel
theorem dX7_doPut_72 : decode cX7_doPut 72 = .ok (.ireturn, 1) := by decide +kernel
theorem dX7_doPut_73 : decode cX7_doPut 73 = .ok (.aload_n 0, 1) := by decide +kernel
theorem dX7_doPut_74 : decode cX7_doPut 74 = .ok (.invokevirtual 126, 3) := by decide +kernel
theorem dX7_doPut_77 : decode cX7_doPut 77 = .ok (.istore 4, 2) := by decide +kernel
theorem dX7_doPut_79 : decode cX7_doPut 79 = .ok (.aload_n 0, 1) := by decide +kernel
theorem dX7_doPut_80 : decode cX7_doPut 80 = .ok (.iload 4, 2) := by decide +kernel
theorem dX7_doPut_82 : decode cX7_doPut 82 = .ok (.iload_n 1, 1) := by decide +kernel
theorem dX7_doPut_83 : decode cX7_doPut 83 = .ok (.invokevirtual 81, 3) := by decide +kernel
theorem dX7_doPut_86 : decode cX7_doPut 86 = .ok (.istore 5, 2) := by decide +kernel
theorem dX7_doPut_88 : decode cX7_doPut 88 = .ok (.iload 5, 2) := by decide +kernel
theorem dX7_doPut_90 : decode cX7_doPut 90 = .ok (.ifCond .ge 31, 3) := by decide +kernel
theorem dX7_doPut_93 : decode cX7_doPut 93 = .ok (.aload_n 0, 1) := by decide +kernel
theorem dX7_doPut_94 : decode cX7_doPut 94 = .ok (.iconst 0, 1) := by decide +kernel
theorem dX7_doPut_95 : decode cX7_doPut 95 = .ok (.invokevirtual 96, 3) := by decide +kernel
theorem dX7_doPut_98 : decode cX7_doPut 98 = .ok (.istore 6, 2) := by decide +kernel
theorem dX7_doPut_100 : decode cX7_doPut 100 = .ok (.aload_n 0, 1) := by decide +kernel
theorem dX7_doPut_101 : decode cX7_doPut 101 = .ok (.iload 6, 2) := by decide +kernel
theorem dX7_doPut_103 : decode cX7_doPut 103 = .ok (.iload_n 1, 1) := by decide +kernel
theorem dX7_doPut_104 : decode cX7_doPut 104 = .ok (.iload_n 2, 1) := by decide +kernel
theorem dX7_doPut_105 : decode cX7_doPut 105 = .ok (.invokevirtual 129, 3) := by decide +kernel
theorem dX7_doPut_108 : decode cX7_doPut 108 = .ok (.aload_n 0, 1) := by decide +kernel
theorem dX7_doPut_109 : decode cX7_doPut 109 = .ok (.iload 4, 2) := by decide +kernel
theorem dX7_doPut_111 : decode cX7_doPut 111 = .ok (.iconst 0, 1) := by decide +kernel
theorem dX7_doPut_112 : decode cX7_doPut 112 = .ok (.iload 6, 2) := by decide +kernel
theorem dX7_doPut_114 : decode cX7_doPut 114 = .ok (.invokevirtual 110, 3) := by decide +kernel
theorem dX7_doPut_117 : decode cX7_doPut 117 = .ok (.sipush (-1000), 3) := by decide +kernel
theorem dX7_doPut_120 : decode cX7_doPut 120 = .ok (.ireturn, 1) := by decide +kernel
theorem dX7_doPut_121 : decode cX7_doPut 121 = .ok (.aload_n 0, 1) := by decide +kernel
theorem dX7_doPut_122 : decode cX7_doPut 122 = .ok (.iload 4, 2) := by decide +kernel
theorem dX7_doPut_124 : decode cX7_doPut 124 = .ok (.iload 5, 2) := by decide +kernel
theorem dX7_doPut_126 : decode cX7_doPut 126 = .ok (.invokevirtual 132, 3) := by decide +kernel
theorem dX7_doPut_129 : decode cX7_doPut 129 = .ok (.istore 6, 2) := by decide +kernel
theorem dX7_doPut_131 : decode cX7_doPut 131 = .ok (.aload_n 0, 1) := by decide +kernel
theorem dX7_doPut_132 : decode cX7_doPut 132 = .ok (.iload 6, 2) := by decide +kernel
theorem dX7_doPut_134 : decode cX7_doPut 134 = .ok (.iload_n 1, 1) := by decide +kernel
theorem dX7_doPut_135 : decode cX7_doPut 135 = .ok (.invokevirtual 84, 3) := by decide +kernel
theorem dX7_doPut_138 : decode cX7_doPut 138 = .ok (.istore 7, 2) := by decide +kernel
theorem dX7_doPut_140 : decode cX7_doPut 140 = .ok (.iload 7, 2) := by decide +kernel
theorem dX7_doPut_142 : decode cX7_doPut 142 = .ok (.ifCond .lt 26, 3) := by decide +kernel
theorem dX7_doPut_145 : decode cX7_doPut 145 = .ok (.aload_n 0, 1) := by decide +kernel
theorem dX7_doPut_146 : decode cX7_doPut 146 = .ok (.iload 6, 2) := by decide +kernel
theorem dX7_doPut_148 : decode cX7_doPut 148 = .ok (.iload 7, 2) := by decide +kernel
theorem dX7_doPut_150 : decode cX7_doPut 150 = .ok (.invokevirtual 87, 3) := by decide +kernel
theorem dX7_doPut_153 : decode cX7_doPut 153 = .ok (.istore 8, 2) := by decide +kernel
theorem dX7_doPut_155 : decode cX7_doPut 155 = .ok (.aload_n 0, 1) := by decide +kernel
theorem dX7_doPut_156 : decode cX7_doPut 156 = .ok (.iload 6, 2) := by decide +kernel
theorem dX7_doPut_158 : decode cX7_doPut 158 = .ok (.iload 7, 2) := by decide +kernel
theorem dX7_doPut_160 : decode cX7_doPut 160 = .ok (.iload_n 1, 1) := by decide +kernel
theorem dX7_doPut_161 : decode cX7_doPut 161 = .ok (.iload_n 2, 1) := by decide +kernel
theorem dX7_doPut_162 : decode cX7_doPut 162 = .ok (.invokevirtual 106, 3) := by decide +kernel
theorem dX7_doPut_165 : decode cX7_doPut 165 = .ok (.iload 8, 2) := by decide +kernel
theorem dX7_doPut_167 : decode cX7_doPut 167 = .ok (.ireturn, 1) := by decide +kernel
