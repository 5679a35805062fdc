theorem dX7_readCommand_0 : decode cX7_readCommand 0 = .ok (.aload_n 0, 1) := by decide +kernel
theorem dX7_readCommand_1 : decode cX7_readCommand 1 = .ok (.invokevirtual 254, 3) := by decide +kernel
theorem dX7_readCommand_4 : decode cX7_readCommand 4 = .ok (.ifCond .ne 5, 3) := by decide +kernel
theorem dX7_readCommand_7 : decode cX7_readCommand 7 = .ok (.iconst 0, 1) := by decide +kernel
theorem dX7_readCommand_8 : decode cX7_readCommand 8 = .ok (.ireturn, 1) := by decide +kernel
theorem dX7_readCommand_9 : decode cX7_readCommand 9 = .ok (.aload_n 0, 1) := by decide +kernel
theorem dX7_readCommand_10 : decode cX7_readCommand 10 = .ok (.getfield 248, 3) := by decide +kernel
theorem dX7_readCommand_13 : decode cX7_readCommand 13 = .ok (.iconst 2, 1) := by decide +kernel
theorem dX7_readCommand_14 : decode cX7_readCommand 14 = .ok (.if_icmp .ne 7, 3) := by decide +kernel
theorem dX7_readCommand_17 : decode cX7_readCommand 17 = .ok (.iconst 2, 1) := by decide +kernel
theorem dX7_readCommand_18 : decode cX7_readCommand 18 = .ok (.goto 33, 3) := by decide +kernel
theorem dX7_readCommand_21 : decode cX7_readCommand 21 = .ok (.aload_n 0, 1) := by decide +kernel
theorem dX7_readCommand_22 : decode cX7_readCommand 22 = .ok (.getfield 248, 3) := by decide +kernel
theorem dX7_readCommand_25 : decode cX7_readCommand 25 = .ok (.iconst 3, 1) := by decide +kernel
theorem dX7_readCommand_26 : decode cX7_readCommand 26 = .ok (.if_icmp .eq 20, 3) := by decide +kernel
theorem dX7_readCommand_29 : decode cX7_readCommand 29 = .ok (.aload_n 0, 1) := by decide +kernel
theorem dX7_readCommand_30 : decode cX7_readCommand 30 = .ok (.getfield 248, 3) := by decide +kernel
theorem dX7_readCommand_33 : decode cX7_readCommand 33 = .ok (.iconst 4, 1) := by decide +kernel
theorem dX7_readCommand_34 : decode cX7_readCommand 34 = .ok (.if_icmp .eq 12, 3) := by decide +kernel
theorem dX7_readCommand_37 : decode cX7_readCommand 37 = .ok (.aload_n 0, 1) := by decide +kernel
theorem dX7_readCommand_38 : decode cX7_readCommand 38 = .ok (.getfield 248, 3) := by decide +kernel
theorem dX7_readCommand_41 : decode cX7_readCommand 41 = .ok (.bipush 7, 2) := by decide +kernel
theorem dX7_readCommand_43 : decode cX7_readCommand 43 = .ok (.if_icmp .ne 7, 3) := by decide +kernel
theorem dX7_readCommand_46 : decode cX7_readCommand 46 = .ok (.iconst 1, 1) := by decide +kernel
theorem dX7_readCommand_47 : decode cX7_readCommand 47 = .ok (.goto 4, 3) := by decide +kernel
theorem dX7_readCommand_50 : decode cX7_readCommand 50 = .ok (.iconst 0, 1) := by decide +kernel
theorem dX7_readCommand_51 : decode cX7_readCommand 51 = .ok (.istore_n 1, 1) := by decide +kernel
theorem dX7_readCommand_52 : decode cX7_readCommand 52 = .ok (.iconst 0, 1) := by decide +kernel
theorem dX7_readCommand_53 : decode cX7_readCommand 53 = .ok (.istore_n 2, 1) := by decide +kernel
theorem dX7_readCommand_54 : decode cX7_readCommand 54 = .ok (.iload_n 2, 1) := by decide +kernel
theorem dX7_readCommand_55 : decode cX7_readCommand 55 = .ok (.iload_n 1, 1) := by decide +kernel
theorem dX7_readCommand_56 : decode cX7_readCommand 56 = .ok (.if_icmp .ge 19, 3) := by decide +kernel
theorem dX7_readCommand_59 : decode cX7_readCommand 59 = .ok (.aload_n 0, 1) := by decide +kernel
theorem dX7_readCommand_60 : decode cX7_readCommand 60 = .ok (.iload_n 2, 1) := by decide +kernel
theorem dX7_readCommand_61 : decode cX7_readCommand 61 = .ok (.invokevirtual 258, 3) := by decide +kernel
theorem dX7_readCommand_64 : decode cX7_readCommand 64 = .ok (.ifCond .ne 5, 3) := by decide +kernel
theorem dX7_readCommand_67 : decode cX7_readCommand 67 = .ok (.iconst 0, 1) := by decide +kernel
theorem dX7_readCommand_68 : decode cX7_readCommand 68 = .ok (.ireturn, 1) := by decide +kernel
theorem dX7_readCommand_69 : decode cX7_readCommand 69 = .ok (.iinc 2 1, 3) := by decide +kernel
theorem dX7_readCommand_72 : decode cX7_readCommand 72 = .ok (.goto (-18), 3) := by decide +kernel
theorem dX7_readCommand_75 : decode cX7_readCommand 75 = .ok (.aload_n 0, 1) := by decide +kernel
theorem dX7_readCommand_76 : decode cX7_readCommand 76 = .ok (.invokevirtual 251, 3) := by decide +kernel
theorem dX7_readCommand_79 : decode cX7_readCommand 79 = .ok (.aload_n 0, 1) := by decide +kernel
theorem dX7_readCommand_80 : decode cX7_readCommand 80 = .ok (.invokevirtual 223, 3) := by decide +kernel
theorem dX7_readCommand_83 : decode cX7_readCommand 83 = .ok (.bipush 59, 2) := by decide +kernel
theorem dX7_readCommand_85 : decode cX7_readCommand 85 = .ok (.if_icmp .ne 7, 3) := by decide +kernel
theorem dX7_readCommand_88 : decode cX7_readCommand 88 = .ok (.iconst 1, 1) := by decide +kernel
theorem dX7_readCommand_89 : decode cX7_readCommand 89 = .ok (.goto 4, 3) := by decide +kernel
theorem dX7_readCommand_92 : decode cX7_readCommand 92 = .ok (.iconst 0, 1) := by decide +kernel
theorem dX7_readCommand_93 : decode cX7_readCommand 93 = .ok (.istore_n 2, 1) := by decide +kernel
theorem dX7_readCommand_94 : decode cX7_readCommand 94 = .ok (.aload_n 0, 1) := by decide +kernel
theorem dX7_readCommand_95 : decode cX7_readCommand 95 = .ok (.dup, 1) := by decide +kernel
theorem dX7_readCommand_96 : decode cX7_readCommand 96 = .ok (.getfield 220, 3) := by decide +kernel
theorem dX7_readCommand_99 : decode cX7_readCommand 99 = .ok (.iload_n 2, 1) := by decide +kernel
theorem dX7_readCommand_100 : decode cX7_readCommand 100 = .ok (.ifCond .eq 7, 3) := by decide +kernel
theorem dX7_readCommand_103 : decode cX7_readCommand 103 = .ok (.iconst 1, 1) := by decide +kernel
theorem dX7_readCommand_104 : decode cX7_readCommand 104 = .ok (.goto 4, 3) := by decide +kernel
theorem dX7_readCommand_107 : decode cX7_readCommand 107 = .ok (.iconst 0, 1) := by decide +kernel
theorem dX7_readCommand_108 : decode cX7_readCommand 108 = .ok (.iadd, 1) := by decide +kernel
theorem dX7_readCommand_109 : decode cX7_readCommand 109 = .ok (.putfield 220, 3) := by decide +kernel
theorem dX7_readCommand_112 : decode cX7_readCommand 112 = .ok (.iload_n 2, 1) := by decide +kernel
theorem dX7_readCommand_113 : decode cX7_readCommand 113 = .ok (.ireturn, 1) := by decide +kernel
set_option maxRecDepth 20000 in
theorem ggX7_does_X7_doBegin : GoodIn wsX7_does wsX7_doBegin := goodIn_r _ [7, 8, 9, 10, 11, 6, 12, 13, 14, 15, 16, 17, 18, 19, 20, 21, 166, 167, 168, 169, 170, 171, 172, 173, 174, 175, 176, 177, 178] (by decide +kernel) (by decide +kernel)
set_option maxRecDepth 20000 in
theorem gX7_does_X7_doBegin : GoodIn wsX7_does (wsV RX7 145 RX7 yX7_doBegin wsX7_doBegin) := goodIn_app (goodIn_of _ (by decide +kernel)) ggX7_does_X7_doBegin
set_option maxRecDepth 20000 in
theorem ggX7_does_X7_doPut : GoodIn wsX7_does wsX7_doPut := goodIn_r _ [25, 8, 26, 27, 6, 28, 9, 10, 11, 12, 13, 29, 30, 31, 32, 33, 34, 35, 36, 37, 38, 39, 40, 14, 15, 16, 17, 18, 19, 20, 21, 41, 42, 43, 44, 45, 46, 47, 48, 49, 50, 51, 52, 53, 54, 55, 56, 57, 58, 59, 60, 61, 62, 63, 64, 65, 66, 67, 68, 69, 70, 71, 72, 73, 74, 75, 76, 77, 78, 79, 80, 81, 82, 83, 84, 85, 86, 87, 88, 89, 90, 91, 92, 93, 94, 95, 96, 97, 98, 99, 100, 101, 102, 103, 104, 105, 106, 107, 108, 109, 110, 111, 112, 113, 114, 115, 116, 117, 118, 119, 120, 121, 122, 123, 124, 125, 126, 127, 128, 129, 166, 167, 168, 169, 170, 171, 172, 173, 174, 175, 176, 177, 178] (by decide +kernel) (by decide +kernel)
set_option maxRecDepth 20000 in
theorem gX7_does_X7_doPut : GoodIn wsX7_does (wsV RX7 151 RX7 yX7_doPut wsX7_doPut) := goodIn_app (goodIn_of _ (by decide +kernel)) ggX7_does_X7_doPut
set_option maxRecDepth 20000 in
theorem ggX7_does_X7_doRemove : GoodIn wsX7_does wsX7_doRemove := goodIn_r _ [133, 8, 26, 27, 6, 28, 9, 10, 11, 12, 13, 33, 34, 35, 36, 37, 38, 39, 40, 14, 15, 16, 17, 18, 19, 20, 21, 134, 135, 136, 137, 41, 42, 43, 44, 45, 46, 47, 48, 49, 50, 51, 52, 53, 54, 55, 56, 57, 58, 59, 60, 109, 110, 111, 112, 61, 62, 63, 64, 65, 66, 67, 68, 69, 70, 71, 72, 73, 74, 75, 76, 77, 78, 79, 80, 81, 82, 83, 84, 85, 86, 87, 88, 89, 90, 91, 92, 93, 94, 95, 96, 97, 98, 99, 100, 101, 102, 103, 104, 121, 122, 123, 124, 113, 114, 115, 116, 166, 167, 168, 169, 170, 171, 172, 173, 174, 175, 176, 177, 178] (by decide +kernel) (by decide +kernel)
set_option maxRecDepth 20000 in
theorem gX7_does_X7_doRemove : GoodIn wsX7_does (wsV RX7 154 RX7 yX7_doRemove wsX7_doRemove) := goodIn_app (goodIn_of _ (by decide +kernel)) ggX7_does_X7_doRemove
set_option maxRecDepth 20000 in
theorem ggX7_does_X7_doCommit : GoodIn wsX7_does wsX7_doCommit := goodIn_r _ [141, 8, 26, 27, 6, 28, 9, 10, 11, 12, 13, 142, 143, 144, 145, 89, 90, 91, 92, 45, 46, 47, 48, 101, 102, 103, 104, 14, 15, 16, 17, 18, 19, 20, 21, 146, 147, 148, 149, 166, 167, 168, 169, 170, 171, 172, 173, 174, 175, 176, 177, 178] (by decide +kernel) (by decide +kernel)
set_option maxRecDepth 20000 in
theorem gX7_does_X7_doCommit : GoodIn wsX7_does (wsV RX7 163 RX7 yX7_doCommit wsX7_doCommit) := goodIn_app (goodIn_of _ (by decide +kernel)) ggX7_does_X7_doCommit
set_option maxRecDepth 20000 in
theorem ggX7_does_X7_doAbort : GoodIn wsX7_does wsX7_doAbort := goodIn_r _ [153, 8, 9, 10, 11, 6, 12, 13, 142, 143, 144, 145, 89, 90, 91, 92, 45, 46, 47, 48, 101, 102, 103, 104, 166, 167, 168, 169, 170, 171, 172, 173, 174, 175, 176, 177, 178] (by decide +kernel) (by decide +kernel)
set_option maxRecDepth 20000 in
theorem gX7_does_X7_doAbort : GoodIn wsX7_does (wsV RX7 166 RX7 yX7_doAbort wsX7_doAbort) := goodIn_app (goodIn_of _ (by decide +kernel)) ggX7_does_X7_doAbort
set_option maxRecDepth 20000 in
theorem ggX7_does_X7_doOpen : GoodIn wsX7_does wsX7_doOpen := goodIn_r _ [157, 8, 73, 74, 75, 6, 76, 9, 10, 11, 12, 13, 14, 15, 16, 17, 18, 19, 20, 21, 37, 38, 39, 40, 166, 167, 168, 169, 170, 171, 172, 173, 174, 175, 176, 177, 178] (by decide +kernel) (by decide +kernel)
set_option maxRecDepth 20000 in
theorem gX7_does_X7_doOpen : GoodIn wsX7_does (wsV RX7 169 RX7 yX7_doOpen wsX7_doOpen) := goodIn_app (goodIn_of _ (by decide +kernel)) ggX7_does_X7_doOpen
set_option maxRecDepth 20000 in
theorem ggX7_does_X7_doClose : GoodIn wsX7_does wsX7_doClose := goodIn_r _ [161, 8, 26, 27, 6, 28, 9, 10, 11, 12, 13, 73, 74, 75, 76, 162, 163, 164, 165, 65, 66, 67, 68, 45, 46, 47, 48, 69, 70, 71, 72, 14, 15, 16, 17, 18, 19, 20, 21, 166, 167, 168, 169, 170, 171, 172, 173, 174, 175, 176, 177, 178] (by decide +kernel) (by decide +kernel)
set_option maxRecDepth 20000 in
theorem gX7_does_X7_doClose : GoodIn wsX7_does (wsV RX7 175 RX7 yX7_doClose wsX7_doClose) := goodIn_app (goodIn_of _ (by decide +kernel)) ggX7_does_X7_doClose
theorem dX7_does_0 : decode cX7_does 0 = .ok (.aload_n 0, 1) := by decide +kernel
theorem dX7_does_1 : decode cX7_does 1 = .ok (.getfield 248, 3) := by decide +kernel
theorem dX7_does_4 : decode cX7_does 4 = .ok (.tableswitch 94 1 6 #[40, 45, 62, 73, 84, 89], 40) := by decide +kernel
theorem dX7_does_44 : decode cX7_does 44 = .ok (.aload_n 0, 1) := by decide +kernel
theorem dX7_does_45 : decode cX7_does 45 = .ok (.invokevirtual 145, 3) := by decide +kernel
theorem dX7_does_48 : decode cX7_does 48 = .ok (.ireturn, 1) := by decide +kernel
theorem dX7_does_49 : decode cX7_does 49 = .ok (.aload_n 0, 1) := by decide +kernel
theorem dX7_does_50 : decode cX7_does 50 = .ok (.aload_n 0, 1) := by decide +kernel
theorem dX7_does_51 : decode cX7_does 51 = .ok (.getfield 25, 3) := by decide +kernel
theorem dX7_does_54 : decode cX7_does 54 = .ok (.iconst 0, 1) := by decide +kernel
theorem dX7_does_55 : decode cX7_does 55 = .ok (.iaload, 1) := by decide +kernel
theorem dX7_does_56 : decode cX7_does 56 = .ok (.aload_n 0, 1) := by decide +kernel
theorem dX7_does_57 : decode cX7_does 57 = .ok (.getfield 25, 3) := by decide +kernel
theorem dX7_does_60 : decode cX7_does 60 = .ok (.iconst 1, 1) := by decide +kernel
theorem dX7_does_61 : decode cX7_does 61 = .ok (.iaload, 1) := by decide +kernel
theorem dX7_does_62 : decode cX7_does 62 = .ok (.invokevirtual 151, 3) := by decide +kernel
theorem dX7_does_65 : decode cX7_does 65 = .ok (.ireturn, 1) := by decide +kernel
theorem dX7_does_66 : decode cX7_does 66 = .ok (.aload_n 0, 1) := by decide +kernel
theorem dX7_does_67 : decode cX7_does 67 = .ok (.aload_n 0, 1) := by decide +kernel
theorem dX7_does_68 : decode cX7_does 68 = .ok (.getfield 25, 3) := by decide +kernel
theorem dX7_does_71 : decode cX7_does 71 = .ok (.iconst 0, 1) := by decide +kernel
theorem dX7_does_72 : decode cX7_does 72 = .ok (.iaload, 1) := by decide +kernel
theorem dX7_does_73 : decode cX7_does 73 = .ok (.invokevirtual 154, 3) := by decide +kernel
theorem dX7_does_76 : decode cX7_does 76 = .ok (.ireturn, 1) := by decide +kernel
theorem dX7_does_77 : decode cX7_does 77 = .ok (.aload_n 0, 1) := by decide +kernel
theorem dX7_does_78 : decode cX7_does 78 = .ok (.aload_n 0, 1) := by decide +kernel
theorem dX7_does_79 : decode cX7_does 79 = .ok (.getfield 25, 3) := by decide +kernel
theorem dX7_does_82 : decode cX7_does 82 = .ok (.iconst 0, 1) := by decide +kernel
theorem dX7_does_83 : decode cX7_does 83 = .ok (.iaload, 1) := by decide +kernel
theorem dX7_does_84 : decode cX7_does 84 = .ok (.invokevirtual 163, 3) := by decide +kernel
theorem dX7_does_87 : decode cX7_does 87 = .ok (.ireturn, 1) := by decide +kernel
theorem dX7_does_88 : decode cX7_does 88 = .ok (.aload_n 0, 1) := by decide +kernel
theorem dX7_does_89 : decode cX7_does 89 = .ok (.invokevirtual 166, 3) := by decide +kernel
theorem dX7_does_92 : decode cX7_does 92 = .ok (.ireturn, 1) := by decide +kernel
theorem dX7_does_93 : decode cX7_does 93 = .ok (.aload_n 0, 1) := by decide +kernel
theorem dX7_does_94 : decode cX7_does 94 = .ok (.invokevirtual 169, 3) := by decide +kernel
theorem dX7_does_97 : decode cX7_does 97 = .ok (.ireturn, 1) := by decide +kernel
theorem dX7_does_98 : decode cX7_does 98 = .ok (.aload_n 0, 1) := by decide +kernel
theorem dX7_does_99 : decode cX7_does 99 = .ok (.aload_n 0, 1) := by decide +kernel
theorem dX7_does_100 : decode cX7_does 100 = .ok (.getfield 25, 3) := by decide +kernel
theorem dX7_does_103 : decode cX7_does 103 = .ok (.iconst 0, 1) := by decide +kernel
theorem dX7_does_104 : decode cX7_does 104 = .ok (.iaload, 1) := by decide +kernel
theorem dX7_does_105 : decode cX7_does 105 = .ok (.invokevirtual 175, 3) := by decide +kernel
theorem dX7_does_108 : decode cX7_does 108 = .ok (.ireturn, 1) := by decide +kernel
set_option maxRecDepth 20000 in
theorem ggX7_runCommands_X7_spaces : GoodIn wsX7_runCommands wsX7_spaces := goodIn_r _ [9, 2, 10, 11, 12, 8, 13, 3, 14, 220, 221, 222, 223, 224, 225, 226, 227, 228, 229, 230, 231, 232] (by decide +kernel) (by decide +kernel)
set_option maxRecDepth 20000 in
theorem gX7_runCommands_X7_spaces : GoodIn wsX7_runCommands (wsV RX7 251 RX7 yX7_spaces wsX7_spaces) := goodIn_app (goodIn_of _ (by decide +kernel)) ggX7_runCommands_X7_spaces
set_option maxRecDepth 20000 in
theorem ggX7_runCommands_X7_readCommand : GoodIn wsX7_runCommands wsX7_readCommand := goodIn_r _ [18, 19, 2, 20, 21, 22, 8, 23, 24, 25, 10, 11, 12, 13, 3, 14, 26, 27, 28, 29, 30, 31, 32, 33, 34, 35, 36, 37, 38, 39, 40, 41, 42, 43, 5, 6, 7, 9, 220, 221, 222, 223, 224, 225, 226, 227, 228, 229, 230, 231, 232] (by decide +kernel) (by decide +kernel)
set_option maxRecDepth 20000 in
theorem gX7_runCommands_X7_readCommand : GoodIn wsX7_runCommands (wsV RX7 261 RX7 yX7_readCommand wsX7_readCommand) := goodIn_app (goodIn_of _ (by decide +kernel)) ggX7_runCommands_X7_readCommand
set_option maxRecDepth 20000 in
theorem ggX7_runCommands_X7_hold : GoodIn wsX7_runCommands wsX7_hold := goodIn_r _ [47, 4, 48, 49, 50, 51, 8, 52, 220, 221, 222, 223, 224, 225, 226, 227, 228, 229, 230, 231, 232] (by decide +kernel) (by decide +kernel)
set_option maxRecDepth 20000 in
theorem gX7_runCommands_X7_hold : GoodIn wsX7_runCommands (wsV RX7 142 RX7 yX7_hold wsX7_hold) := goodIn_app (goodIn_of _ (by decide +kernel)) ggX7_runCommands_X7_hold
set_option maxRecDepth 20000 in
theorem ggX7_runCommands_X7_does : GoodIn wsX7_runCommands wsX7_does := goodIn_r _ [56, 19, 43, 57, 58, 59, 8, 60, 48, 61, 62, 63, 64, 4, 65, 66, 67, 68, 69, 70, 71, 72, 73, 74, 75, 76, 26, 27, 28, 77, 78, 79, 80, 81, 82, 83, 84, 85, 86, 87, 88, 89, 90, 91, 92, 93, 94, 95, 96, 97, 98, 99, 100, 101, 102, 103, 104, 105, 106, 107, 108, 109, 110, 111, 112, 113, 114, 115, 116, 117, 118, 119, 120, 121, 122, 123, 124, 125, 126, 127, 128, 129, 130, 131, 132, 133, 134, 135, 136, 137, 138, 139, 140, 141, 142, 143, 144, 145, 146, 147, 148, 149, 150, 151, 152, 153, 154, 155, 156, 157, 158, 159, 160, 161, 162, 163, 164, 165, 166, 167, 168, 169, 170, 171, 172, 173, 174, 175, 176, 177, 178, 179, 180, 181, 182, 183, 184, 185, 186, 187, 188, 189, 190, 191, 192, 193, 194, 195, 196, 197, 198, 199, 200, 201, 202, 203, 204, 205, 206, 207, 208, 209, 210, 211, 212, 213, 220, 221, 222, 223, 224, 225, 226, 227, 228, 229, 230, 231, 232] (by decide +kernel) (by decide +kernel)
set_option maxRecDepth 20000 in
theorem gX7_runCommands_X7_does : GoodIn wsX7_runCommands (wsV RX7 264 RX7 yX7_does wsX7_does) := goodIn_app (goodIn_of _ (by decide +kernel)) ggX7_runCommands_X7_does
set_option maxRecDepth 20000 in
theorem ggX7_runCommands_X7_ends : GoodIn wsX7_runCommands wsX7_ends := goodIn_r _ [217, 4, 1, 218, 219, 49, 50, 51, 8, 52, 220, 221, 222, 223, 224, 225, 226, 227, 228, 229, 230, 231, 232] (by decide +kernel) (by decide +kernel)
set_option maxRecDepth 20000 in
theorem gX7_runCommands_X7_ends : GoodIn wsX7_runCommands (wsV RX7 148 RX7 yX7_ends wsX7_ends) := goodIn_app (goodIn_of _ (by decide +kernel)) ggX7_runCommands_X7_ends
theorem dX7_runCommands_0 : decode cX7_runCommands 0 = .ok (.aload_n 0, 1) := by decide +kernel
theorem dX7_runCommands_1 : decode cX7_runCommands 1 = .ok (.iconst 0, 1) := by decide +kernel
theorem dX7_runCommands_2 : decode cX7_runCommands 2 = .ok (.putfield 28, 3) := by decide +kernel
theorem dX7_runCommands_5 : decode cX7_runCommands 5 = .ok (.aload_n 0, 1) := by decide +kernel
theorem dX7_runCommands_6 : decode cX7_runCommands 6 = .ok (.iconst 0, 1) := by decide +kernel
theorem dX7_runCommands_7 : decode cX7_runCommands 7 = .ok (.putfield 220, 3) := by decide +kernel
theorem dX7_runCommands_10 : decode cX7_runCommands 10 = .ok (.aload_n 0, 1) := by decide +kernel
theorem dX7_runCommands_11 : decode cX7_runCommands 11 = .ok (.invokevirtual 251, 3) := by decide +kernel
theorem dX7_runCommands_14 : decode cX7_runCommands 14 = .ok (.aload_n 0, 1) := by decide +kernel
theorem dX7_runCommands_15 : decode cX7_runCommands 15 = .ok (.getfield 220, 3) := by decide +kernel
theorem dX7_runCommands_18 : decode cX7_runCommands 18 = .ok (.aload_n 0, 1) := by decide +kernel
theorem dX7_runCommands_19 : decode cX7_runCommands 19 = .ok (.getfield 211, 3) := by decide +kernel
theorem dX7_runCommands_22 : decode cX7_runCommands 22 = .ok (.if_icmp .ge 25, 3) := by decide +kernel
theorem dX7_runCommands_25 : decode cX7_runCommands 25 = .ok (.aload_n 0, 1) := by decide +kernel
theorem dX7_runCommands_26 : decode cX7_runCommands 26 = .ok (.invokevirtual 261, 3) := by decide +kernel
theorem dX7_runCommands_29 : decode cX7_runCommands 29 = .ok (.ifCond .ne 11, 3) := by decide +kernel
theorem dX7_runCommands_32 : decode cX7_runCommands 32 = .ok (.bipush (-10), 2) := by decide +kernel
theorem dX7_runCommands_34 : decode cX7_runCommands 34 = .ok (.aload_n 0, 1) := by decide +kernel
theorem dX7_runCommands_35 : decode cX7_runCommands 35 = .ok (.getfield 220, 3) := by decide +kernel
theorem dX7_runCommands_38 : decode cX7_runCommands 38 = .ok (.isub, 1) := by decide +kernel
theorem dX7_runCommands_39 : decode cX7_runCommands 39 = .ok (.ireturn, 1) := by decide +kernel
theorem dX7_runCommands_40 : decode cX7_runCommands 40 = .ok (.aload_n 0, 1) := by decide +kernel
theorem dX7_runCommands_41 : decode cX7_runCommands 41 = .ok (.invokevirtual 251, 3) := by decide +kernel
theorem dX7_runCommands_44 : decode cX7_runCommands 44 = .ok (.goto (-30), 3) := by decide +kernel
theorem dX7_runCommands_47 : decode cX7_runCommands 47 = .ok (.aload_n 0, 1) := by decide +kernel
theorem dX7_runCommands_48 : decode cX7_runCommands 48 = .ok (.invokevirtual 142, 3) := by decide +kernel
theorem dX7_runCommands_51 : decode cX7_runCommands 51 = .ok (.aload_n 0, 1) := by decide +kernel
theorem dX7_runCommands_52 : decode cX7_runCommands 52 = .ok (.iconst 0, 1) := by decide +kernel
theorem dX7_runCommands_53 : decode cX7_runCommands 53 = .ok (.putfield 220, 3) := by decide +kernel
theorem dX7_runCommands_56 : decode cX7_runCommands 56 = .ok (.iconst 0, 1) := by decide +kernel
theorem dX7_runCommands_57 : decode cX7_runCommands 57 = .ok (.istore_n 1, 1) := by decide +kernel
theorem dX7_runCommands_58 : decode cX7_runCommands 58 = .ok (.aload_n 0, 1) := by decide +kernel
theorem dX7_runCommands_59 : decode cX7_runCommands 59 = .ok (.invokevirtual 251, 3) := by decide +kernel
theorem dX7_runCommands_62 : decode cX7_runCommands 62 = .ok (.aload_n 0, 1) := by decide +kernel
theorem dX7_runCommands_63 : decode cX7_runCommands 63 = .ok (.getfield 220, 3) := by decide +kernel
theorem dX7_runCommands_66 : decode cX7_runCommands 66 = .ok (.aload_n 0, 1) := by decide +kernel
theorem dX7_runCommands_67 : decode cX7_runCommands 67 = .ok (.getfield 211, 3) := by decide +kernel
theorem dX7_runCommands_70 : decode cX7_runCommands 70 = .ok (.if_icmp .ge 46, 3) := by decide +kernel
theorem dX7_runCommands_73 : decode cX7_runCommands 73 = .ok (.aload_n 0, 1) := by decide +kernel
theorem dX7_runCommands_74 : decode cX7_runCommands 74 = .ok (.getfield 32, 3) := by decide +kernel
theorem dX7_runCommands_77 : decode cX7_runCommands 77 = .ok (.ifCond .ne 39, 3) := by decide +kernel
theorem dX7_runCommands_80 : decode cX7_runCommands 80 = .ok (.aload_n 0, 1) := by decide +kernel
theorem dX7_runCommands_81 : decode cX7_runCommands 81 = .ok (.invokevirtual 261, 3) := by decide +kernel
theorem dX7_runCommands_84 : decode cX7_runCommands 84 = .ok (.istore_n 2, 1) := by decide +kernel
theorem dX7_runCommands_85 : decode cX7_runCommands 85 = .ok (.aload_n 0, 1) := by decide +kernel
theorem dX7_runCommands_86 : decode cX7_runCommands 86 = .ok (.invokevirtual 264, 3) := by decide +kernel
theorem dX7_runCommands_89 : decode cX7_runCommands 89 = .ok (.istore_n 3, 1) := by decide +kernel
theorem dX7_runCommands_90 : decode cX7_runCommands 90 = .ok (.iload_n 1, 1) := by decide +kernel
theorem dX7_runCommands_91 : decode cX7_runCommands 91 = .ok (.iload_n 2, 1) := by decide +kernel
theorem dX7_runCommands_92 : decode cX7_runCommands 92 = .ok (.ifCond .eq 14, 3) := by decide +kernel
theorem dX7_runCommands_95 : decode cX7_runCommands 95 = .ok (.aload_n 0, 1) := by decide +kernel
theorem dX7_runCommands_96 : decode cX7_runCommands 96 = .ok (.getfield 32, 3) := by decide +kernel
theorem dX7_runCommands_99 : decode cX7_runCommands 99 = .ok (.ifCond .ne 7, 3) := by decide +kernel
theorem dX7_runCommands_102 : decode cX7_runCommands 102 = .ok (.iconst 1, 1) := by decide +kernel
theorem dX7_runCommands_103 : decode cX7_runCommands 103 = .ok (.goto 4, 3) := by decide +kernel
theorem dX7_runCommands_106 : decode cX7_runCommands 106 = .ok (.iconst 0, 1) := by decide +kernel
theorem dX7_runCommands_107 : decode cX7_runCommands 107 = .ok (.iadd, 1) := by decide +kernel
theorem dX7_runCommands_108 : decode cX7_runCommands 108 = .ok (.istore_n 1, 1) := by decide +kernel
theorem dX7_runCommands_109 : decode cX7_runCommands 109 = .ok (.aload_n 0, 1) := by decide +kernel
theorem dX7_runCommands_110 : decode cX7_runCommands 110 = .ok (.invokevirtual 251, 3) := by decide +kernel
theorem dX7_runCommands_113 : decode cX7_runCommands 113 = .ok (.goto (-51), 3) := by decide +kernel
theorem dX7_runCommands_116 : decode cX7_runCommands 116 = .ok (.aload_n 0, 1) := by decide +kernel
theorem dX7_runCommands_117 : decode cX7_runCommands 117 = .ok (.iconst 0, 1) := by decide +kernel
theorem dX7_runCommands_118 : decode cX7_runCommands 118 = .ok (.putfield 32, 3) := by decide +kernel
theorem dX7_runCommands_121 : decode cX7_runCommands 121 = .ok (.aload_n 0, 1) := by decide +kernel
theorem dX7_runCommands_122 : decode cX7_runCommands 122 = .ok (.iload_n 1, 1) := by decide +kernel
theorem dX7_runCommands_123 : decode cX7_runCommands 123 = .ok (.invokevirtual 148, 3) := by decide +kernel
theorem dX7_runCommands_126 : decode cX7_runCommands 126 = .ok (.ireturn, 1) := by decide +kernel
set_option maxRecDepth 20000 in
theorem ggX7_undo_X7_fails : GoodIn wsX7_undo wsX7_fails := goodIn_r _ [9, 1, 13, 14, 15, 16, 17, 18, 19, 20, 21, 22, 23, 24, 25] (by decide +kernel) (by decide +kernel)
set_option maxRecDepth 20000 in
theorem gX7_undo_X7_fails : GoodIn wsX7_undo (wsV RX7 181 RX7 yX7_fails wsX7_fails) := goodIn_app (goodIn_of _ (by decide +kernel)) ggX7_undo_X7_fails
set_option maxRecDepth 20000 in
theorem ggX7_undo_X7_bring : GoodIn wsX7_undo wsX7_bring := goodIn_r _ [12] (by decide +kernel) (by decide +kernel)
set_option maxRecDepth 20000 in
theorem gX7_undo_X7_bring : GoodIn wsX7_undo (va_wsS RX7 35 yX7_bring wsX7_bring) := goodIn_app (goodIn_of _ (by decide +kernel)) ggX7_undo_X7_bring
theorem dX7_undo_0 : decode cX7_undo 0 = .ok (.aload_n 0, 1) := by decide +kernel
theorem dX7_undo_1 : decode cX7_undo 1 = .ok (.iconst 0, 1) := by decide +kernel
theorem dX7_undo_2 : decode cX7_undo 2 = .ok (.putfield 28, 3) := by decide +kernel
theorem dX7_undo_5 : decode cX7_undo 5 = .ok (.aload_n 0, 1) := by decide +kernel
theorem dX7_undo_6 : decode cX7_undo 6 = .ok (.getfield 39, 3) := by decide +kernel
theorem dX7_undo_9 : decode cX7_undo 9 = .ok (.ifCond .ne 9, 3) := by decide +kernel
theorem dX7_undo_12 : decode cX7_undo 12 = .ok (.aload_n 0, 1) := by decide +kernel
theorem dX7_undo_13 : decode cX7_undo 13 = .ok (.iconst 1, 1) := by decide +kernel
theorem dX7_undo_14 : decode cX7_undo 14 = .ok (.invokevirtual 181, 3) := by decide +kernel
theorem dX7_undo_17 : decode cX7_undo 17 = .ok (.ireturn, 1) := by decide +kernel
theorem dX7_undo_18 : decode cX7_undo 18 = .ok (.aload_n 0, 1) := by decide +kernel
theorem dX7_undo_19 : decode cX7_undo 19 = .ok (.dup, 1) := by decide +kernel
theorem dX7_undo_20 : decode cX7_undo 20 = .ok (.getfield 39, 3) := by decide +kernel
theorem dX7_undo_23 : decode cX7_undo 23 = .ok (.iconst 1, 1) := by decide +kernel
theorem dX7_undo_24 : decode cX7_undo 24 = .ok (.isub, 1) := by decide +kernel
theorem dX7_undo_25 : decode cX7_undo 25 = .ok (.putfield 39, 3) := by decide +kernel
theorem dX7_undo_28 : decode cX7_undo 28 = .ok (.aload_n 0, 1) := by decide +kernel
theorem dX7_undo_29 : decode cX7_undo 29 = .ok (.getfield 16, 3) := by decide +kernel
theorem dX7_undo_32 : decode cX7_undo 32 = .ok (.sipush 470, 3) := by decide +kernel
theorem dX7_undo_35 : decode cX7_undo 35 = .ok (.aload_n 0, 1) := by decide +kernel
theorem dX7_undo_36 : decode cX7_undo 36 = .ok (.getfield 39, 3) := by decide +kernel
theorem dX7_undo_39 : decode cX7_undo 39 = .ok (.imul, 1) := by decide +kernel
theorem dX7_undo_40 : decode cX7_undo 40 = .ok (.aload_n 0, 1) := by decide +kernel
theorem dX7_undo_41 : decode cX7_undo 41 = .ok (.getfield 7, 3) := by decide +kernel
theorem dX7_undo_44 : decode cX7_undo 44 = .ok (.iconst 0, 1) := by decide +kernel
theorem dX7_undo_45 : decode cX7_undo 45 = .ok (.invokestatic 35, 3) := by decide +kernel
theorem dX7_undo_48 : decode cX7_undo 48 = .ok (.aload_n 0, 1) := by decide +kernel
theorem dX7_undo_49 : decode cX7_undo 49 = .ok (.getfield 39, 3) := by decide +kernel
theorem dX7_undo_52 : decode cX7_undo 52 = .ok (.ireturn, 1) := by decide +kernel
theorem dX7_mix_0 : decode cX7_mix 0 = .ok (.aload_n 0, 1) := by decide +kernel
theorem dX7_mix_1 : decode cX7_mix 1 = .ok (.ldc2_w 267, 3) := by decide +kernel
theorem dX7_mix_4 : decode cX7_mix 4 = .ok (.aload_n 0, 1) := by decide +kernel
theorem dX7_mix_5 : decode cX7_mix 5 = .ok (.getfield 269, 3) := by decide +kernel
theorem dX7_mix_8 : decode cX7_mix 8 = .ok (.lmul, 1) := by decide +kernel
theorem dX7_mix_9 : decode cX7_mix 9 = .ok (.iload_n 1, 1) := by decide +kernel
theorem dX7_mix_10 : decode cX7_mix 10 = .ok (.i2l, 1) := by decide +kernel
theorem dX7_mix_11 : decode cX7_mix 11 = .ok (.ladd, 1) := by decide +kernel
theorem dX7_mix_12 : decode cX7_mix 12 = .ok (.putfield 269, 3) := by decide +kernel
theorem dX7_mix_15 : decode cX7_mix 15 = .ok (.return_, 1) := by decide +kernel
set_option maxRecDepth 20000 in
theorem ggX7_mixRest_X7_tellBed : GoodIn wsX7_mixRest wsX7_tellBed := goodIn_r _ [6, 7, 8, 9, 5, 10, 1, 11, 12, 13, 14, 15, 16, 17, 18, 19, 20, 21, 22, 23, 24, 25, 26, 27, 28, 29, 30, 85, 86, 87, 88, 89, 90, 91, 92, 93, 94, 95, 96, 97] (by decide +kernel) (by decide +kernel)
set_option maxRecDepth 20000 in
theorem gX7_mixRest_X7_tellBed : GoodIn wsX7_mixRest (wsV RX7 199 RX7 yX7_tellBed wsX7_tellBed) := goodIn_app (goodIn_of _ (by decide +kernel)) ggX7_mixRest_X7_tellBed
set_option maxRecDepth 20000 in
theorem ggX7_mixRest_X7_mix : GoodIn wsX7_mixRest wsX7_mix := goodIn_r _ [34, 35, 36, 85, 86, 87, 88, 89, 90, 91, 92, 93, 94, 95, 96, 97] (by decide +kernel) (by decide +kernel)
set_option maxRecDepth 20000 in
theorem gX7_mixRest_X7_mix : GoodIn wsX7_mixRest (wsV RX7 273 RX7 yX7_mix wsX7_mix) := goodIn_app (goodIn_of _ (by decide +kernel)) ggX7_mixRest_X7_mix
set_option maxRecDepth 20000 in
theorem ggX7_mixRest_X7_now : GoodIn wsX7_mixRest wsX7_now := goodIn_r _ [40, 19, 20, 21, 5, 22, 1, 23, 24, 25, 26, 85, 86, 87, 88, 89, 90, 91, 92, 93, 94, 95, 96, 97] (by decide +kernel) (by decide +kernel)
set_option maxRecDepth 20000 in
theorem gX7_mixRest_X7_now : GoodIn wsX7_mixRest (wsV RX7 90 RX7 yX7_now wsX7_now) := goodIn_app (goodIn_of _ (by decide +kernel)) ggX7_mixRest_X7_now
set_option maxRecDepth 20000 in
theorem ggX7_mixRest_X7_entriesBy : GoodIn wsX7_mixRest wsX7_entriesBy := goodIn_r _ [44, 7, 8, 9, 5, 10, 1, 45, 46, 47, 48, 85, 86, 87, 88, 89, 90, 91, 92, 93, 94, 95, 96, 97] (by decide +kernel) (by decide +kernel)
set_option maxRecDepth 20000 in
theorem gX7_mixRest_X7_entriesBy : GoodIn wsX7_mixRest (wsV RX7 187 RX7 yX7_entriesBy wsX7_entriesBy) := goodIn_app (goodIn_of _ (by decide +kernel)) ggX7_mixRest_X7_entriesBy
set_option maxRecDepth 20000 in
theorem ggX7_mixRest_X7_tellEntry : GoodIn wsX7_mixRest wsX7_tellEntry := goodIn_r _ [52, 37, 38, 39, 5, 40, 19, 20, 21, 22, 1, 23, 24, 25, 26, 45, 46, 47, 48, 7, 8, 9, 10, 53, 54, 55, 56, 57, 58, 59, 60, 85, 86, 87, 88, 89, 90, 91, 92, 93, 94, 95, 96, 97] (by decide +kernel) (by decide +kernel)
set_option maxRecDepth 20000 in
theorem gX7_mixRest_X7_tellEntry : GoodIn wsX7_mixRest (wsV RX7 190 RX7 yX7_tellEntry wsX7_tellEntry) := goodIn_app (goodIn_of _ (by decide +kernel)) ggX7_mixRest_X7_tellEntry
set_option maxRecDepth 20000 in
theorem ggX7_mixRest_X7_tellNext : GoodIn wsX7_mixRest wsX7_tellNext := goodIn_r _ [64, 65, 66, 67, 5, 68, 11, 12, 13, 14, 7, 8, 9, 10, 1, 15, 16, 17, 18, 19, 20, 21, 22, 23, 24, 25, 26, 27, 28, 29, 30, 85, 86, 87, 88, 89, 90, 91, 92, 93, 94, 95, 96, 97] (by decide +kernel) (by decide +kernel)
set_option maxRecDepth 20000 in
theorem gX7_mixRest_X7_tellNext : GoodIn wsX7_mixRest (wsV RX7 217 RX7 yX7_tellNext wsX7_tellNext) := goodIn_app (goodIn_of _ (by decide +kernel)) ggX7_mixRest_X7_tellNext
set_option maxRecDepth 20000 in
theorem ggX7_mixRest_X7_drafts : GoodIn wsX7_mixRest wsX7_drafts := goodIn_r _ [72, 1, 37, 38, 39, 5, 40, 19, 20, 21, 22, 23, 24, 25, 26, 85, 86, 87, 88, 89, 90, 91, 92, 93, 94, 95, 96, 97] (by decide +kernel) (by decide +kernel)
set_option maxRecDepth 20000 in
theorem gX7_mixRest_X7_drafts : GoodIn wsX7_mixRest (wsV RX7 93 RX7 yX7_drafts wsX7_drafts) := goodIn_app (goodIn_of _ (by decide +kernel)) ggX7_mixRest_X7_drafts
set_option maxRecDepth 20000 in
theorem ggX7_mixRest_X7_valueBy : GoodIn wsX7_mixRest wsX7_valueBy := goodIn_r _ [76, 77, 78, 79, 5, 80, 7, 8, 9, 10, 1, 45, 46, 47, 48, 53, 54, 55, 56, 81, 82, 83, 84, 57, 58, 59, 60, 85, 86, 87, 88, 89, 90, 91, 92, 93, 94, 95, 96, 97] (by decide +kernel) (by decide +kernel)
set_option maxRecDepth 20000 in
theorem gX7_mixRest_X7_valueBy : GoodIn wsX7_mixRest (wsV RX7 139 RX7 yX7_valueBy wsX7_valueBy) := goodIn_app (goodIn_of _ (by decide +kernel)) ggX7_mixRest_X7_valueBy
theorem dX7_mixRest_0 : decode cX7_mixRest 0 = .ok (.iconst 0, 1) := by decide +kernel
theorem dX7_mixRest_1 : decode cX7_mixRest 1 = .ok (.istore_n 1, 1) := by decide +kernel
theorem dX7_mixRest_2 : decode cX7_mixRest 2 = .ok (.iload_n 1, 1) := by decide +kernel
theorem dX7_mixRest_3 : decode cX7_mixRest 3 = .ok (.bipush 32, 2) := by decide +kernel
theorem dX7_mixRest_5 : decode cX7_mixRest 5 = .ok (.if_icmp .ge 33, 3) := by decide +kernel
theorem dX7_mixRest_8 : decode cX7_mixRest 8 = .ok (.iconst 0, 1) := by decide +kernel
theorem dX7_mixRest_9 : decode cX7_mixRest 9 = .ok (.istore_n 2, 1) := by decide +kernel
theorem dX7_mixRest_10 : decode cX7_mixRest 10 = .ok (.iload_n 2, 1) := by decide +kernel
theorem dX7_mixRest_11 : decode cX7_mixRest 11 = .ok (.bipush 6, 2) := by decide +kernel
theorem dX7_mixRest_13 : decode cX7_mixRest 13 = .ok (.if_icmp .ge 19, 3) := by decide +kernel
theorem dX7_mixRest_16 : decode cX7_mixRest 16 = .ok (.aload_n 0, 1) := by decide +kernel
theorem dX7_mixRest_17 : decode cX7_mixRest 17 = .ok (.aload_n 0, 1) := by decide +kernel
theorem dX7_mixRest_18 : decode cX7_mixRest 18 = .ok (.iload_n 1, 1) := by decide +kernel
theorem dX7_mixRest_19 : decode cX7_mixRest 19 = .ok (.iload_n 2, 1) := by decide +kernel
theorem dX7_mixRest_20 : decode cX7_mixRest 20 = .ok (.invokevirtual 199, 3) := by decide +kernel
theorem dX7_mixRest_23 : decode cX7_mixRest 23 = .ok (.invokevirtual 273, 3) := by decide +kernel
theorem dX7_mixRest_26 : decode cX7_mixRest 26 = .ok (.iinc 2 1, 3) := by decide +kernel
theorem dX7_mixRest_29 : decode cX7_mixRest 29 = .ok (.goto (-19), 3) := by decide +kernel
theorem dX7_mixRest_32 : decode cX7_mixRest 32 = .ok (.iinc 1 1, 3) := by decide +kernel
theorem dX7_mixRest_35 : decode cX7_mixRest 35 = .ok (.goto (-33), 3) := by decide +kernel
theorem dX7_mixRest_38 : decode cX7_mixRest 38 = .ok (.iconst 0, 1) := by decide +kernel
theorem dX7_mixRest_39 : decode cX7_mixRest 39 = .ok (.istore_n 1, 1) := by decide +kernel
theorem dX7_mixRest_40 : decode cX7_mixRest 40 = .ok (.iload_n 1, 1) := by decide +kernel
theorem dX7_mixRest_41 : decode cX7_mixRest 41 = .ok (.aload_n 0, 1) := by decide +kernel
theorem dX7_mixRest_42 : decode cX7_mixRest 42 = .ok (.aload_n 0, 1) := by decide +kernel
theorem dX7_mixRest_43 : decode cX7_mixRest 43 = .ok (.invokevirtual 90, 3) := by decide +kernel
theorem dX7_mixRest_46 : decode cX7_mixRest 46 = .ok (.invokevirtual 187, 3) := by decide +kernel
theorem dX7_mixRest_49 : decode cX7_mixRest 49 = .ok (.if_icmp .ge 32, 3) := by decide +kernel
theorem dX7_mixRest_52 : decode cX7_mixRest 52 = .ok (.iconst 0, 1) := by decide +kernel
theorem dX7_mixRest_53 : decode cX7_mixRest 53 = .ok (.istore_n 2, 1) := by decide +kernel
theorem dX7_mixRest_54 : decode cX7_mixRest 54 = .ok (.iload_n 2, 1) := by decide +kernel
theorem dX7_mixRest_55 : decode cX7_mixRest 55 = .ok (.iconst 4, 1) := by decide +kernel
theorem dX7_mixRest_56 : decode cX7_mixRest 56 = .ok (.if_icmp .ge 19, 3) := by decide +kernel
theorem dX7_mixRest_59 : decode cX7_mixRest 59 = .ok (.aload_n 0, 1) := by decide +kernel
theorem dX7_mixRest_60 : decode cX7_mixRest 60 = .ok (.aload_n 0, 1) := by decide +kernel
theorem dX7_mixRest_61 : decode cX7_mixRest 61 = .ok (.iload_n 1, 1) := by decide +kernel
theorem dX7_mixRest_62 : decode cX7_mixRest 62 = .ok (.iload_n 2, 1) := by decide +kernel
theorem dX7_mixRest_63 : decode cX7_mixRest 63 = .ok (.invokevirtual 190, 3) := by decide +kernel
theorem dX7_mixRest_66 : decode cX7_mixRest 66 = .ok (.invokevirtual 273, 3) := by decide +kernel
theorem dX7_mixRest_69 : decode cX7_mixRest 69 = .ok (.iinc 2 1, 3) := by decide +kernel
theorem dX7_mixRest_72 : decode cX7_mixRest 72 = .ok (.goto (-18), 3) := by decide +kernel
theorem dX7_mixRest_75 : decode cX7_mixRest 75 = .ok (.iinc 1 1, 3) := by decide +kernel
theorem dX7_mixRest_78 : decode cX7_mixRest 78 = .ok (.goto (-38), 3) := by decide +kernel
theorem dX7_mixRest_81 : decode cX7_mixRest 81 = .ok (.aload_n 0, 1) := by decide +kernel
theorem dX7_mixRest_82 : decode cX7_mixRest 82 = .ok (.aload_n 0, 1) := by decide +kernel
theorem dX7_mixRest_83 : decode cX7_mixRest 83 = .ok (.invokevirtual 217, 3) := by decide +kernel
theorem dX7_mixRest_86 : decode cX7_mixRest 86 = .ok (.invokevirtual 273, 3) := by decide +kernel
theorem dX7_mixRest_89 : decode cX7_mixRest 89 = .ok (.iconst 0, 1) := by decide +kernel
theorem dX7_mixRest_90 : decode cX7_mixRest 90 = .ok (.istore_n 1, 1) := by decide +kernel
theorem dX7_mixRest_91 : decode cX7_mixRest 91 = .ok (.iload_n 1, 1) := by decide +kernel
theorem dX7_mixRest_92 : decode cX7_mixRest 92 = .ok (.bipush 100, 2) := by decide +kernel
theorem dX7_mixRest_94 : decode cX7_mixRest 94 = .ok (.if_icmp .ge 34, 3) := by decide +kernel
theorem dX7_mixRest_97 : decode cX7_mixRest 97 = .ok (.aload_n 0, 1) := by decide +kernel
theorem dX7_mixRest_98 : decode cX7_mixRest 98 = .ok (.getfield 7, 3) := by decide +kernel
theorem dX7_mixRest_101 : decode cX7_mixRest 101 = .ok (.sipush 466, 3) := by decide +kernel
theorem dX7_mixRest_104 : decode cX7_mixRest 104 = .ok (.iaload, 1) := by decide +kernel
theorem dX7_mixRest_105 : decode cX7_mixRest 105 = .ok (.iconst 1, 1) := by decide +kernel
theorem dX7_mixRest_106 : decode cX7_mixRest 106 = .ok (.if_icmp .ne 22, 3) := by decide +kernel
theorem dX7_mixRest_109 : decode cX7_mixRest 109 = .ok (.aload_n 0, 1) := by decide +kernel
theorem dX7_mixRest_110 : decode cX7_mixRest 110 = .ok (.aload_n 0, 1) := by decide +kernel
theorem dX7_mixRest_111 : decode cX7_mixRest 111 = .ok (.aload_n 0, 1) := by decide +kernel
theorem dX7_mixRest_112 : decode cX7_mixRest 112 = .ok (.invokevirtual 93, 3) := by decide +kernel
theorem dX7_mixRest_115 : decode cX7_mixRest 115 = .ok (.iload_n 1, 1) := by decide +kernel
theorem dX7_mixRest_116 : decode cX7_mixRest 116 = .ok (.invokevirtual 139, 3) := by decide +kernel
theorem dX7_mixRest_119 : decode cX7_mixRest 119 = .ok (.invokevirtual 273, 3) := by decide +kernel
theorem dX7_mixRest_122 : decode cX7_mixRest 122 = .ok (.iinc 1 1, 3) := by decide +kernel
theorem dX7_mixRest_125 : decode cX7_mixRest 125 = .ok (.goto (-34), 3) := by decide +kernel
theorem dX7_mixRest_128 : decode cX7_mixRest 128 = .ok (.return_, 1) := by decide +kernel
set_option maxRecDepth 20000 in
theorem ggX7_digest_X7_mix : GoodIn wsX7_digest wsX7_mix := goodIn_r _ [9, 10, 3, 121, 122, 123, 124, 125, 126, 127, 128, 129, 130, 131, 132, 133] (by decide +kernel) (by decide +kernel)
set_option maxRecDepth 20000 in
theorem gX7_digest_X7_mix : GoodIn wsX7_digest (wsV RX7 273 RX7 yX7_mix wsX7_mix) := goodIn_app (goodIn_of _ (by decide +kernel)) ggX7_digest_X7_mix
set_option maxRecDepth 20000 in
theorem ggX7_digest_X7_tell : GoodIn wsX7_digest wsX7_tell := goodIn_r _ [14, 15, 16, 17, 18, 19, 8, 20, 21, 22, 23, 24, 25, 26, 27, 28, 29, 30, 31, 32, 33, 34, 35, 36, 37, 38, 39, 40, 41, 42, 43, 44, 45, 46, 47, 48, 49, 50, 51, 52, 53, 54, 55, 56, 57, 58, 59, 60, 61, 62, 63, 64, 65, 66, 67, 68, 69, 70, 71, 72, 73, 74, 75, 76, 77, 78, 79, 80, 121, 122, 123, 124, 125, 126, 127, 128, 129, 130, 131, 132, 133] (by decide +kernel) (by decide +kernel)
set_option maxRecDepth 20000 in
theorem gX7_digest_X7_tell : GoodIn wsX7_digest (wsV RX7 214 RX7 yX7_tell wsX7_tell) := goodIn_app (goodIn_of _ (by decide +kernel)) ggX7_digest_X7_tell
set_option maxRecDepth 20000 in
theorem ggX7_digest_X7_tellRoot : GoodIn wsX7_digest wsX7_tellRoot := goodIn_r _ [84, 37, 38, 39, 8, 40, 15, 41, 42, 43, 44, 121, 122, 123, 124, 125, 126, 127, 128, 129, 130, 131, 132, 133] (by decide +kernel) (by decide +kernel)
set_option maxRecDepth 20000 in
theorem gX7_digest_X7_tellRoot : GoodIn wsX7_digest (wsV RX7 193 RX7 yX7_tellRoot wsX7_tellRoot) := goodIn_app (goodIn_of _ (by decide +kernel)) ggX7_digest_X7_tellRoot
set_option maxRecDepth 20000 in
theorem ggX7_digest_X7_tellReader : GoodIn wsX7_digest wsX7_tellReader := goodIn_r _ [88, 45, 46, 47, 8, 48, 15, 53, 54, 55, 56, 21, 22, 23, 24, 57, 58, 59, 60, 121, 122, 123, 124, 125, 126, 127, 128, 129, 130, 131, 132, 133] (by decide +kernel) (by decide +kernel)
set_option maxRecDepth 20000 in
theorem gX7_digest_X7_tellReader : GoodIn wsX7_digest (wsV RX7 196 RX7 yX7_tellReader wsX7_tellReader) := goodIn_app (goodIn_of _ (by decide +kernel)) ggX7_digest_X7_tellReader
set_option maxRecDepth 20000 in
theorem ggX7_digest_X7_mixRest : GoodIn wsX7_digest wsX7_mixRest := goodIn_r _ [92, 15, 93, 94, 95, 8, 96, 21, 22, 23, 24, 29, 30, 31, 32, 33, 34, 35, 36, 37, 38, 39, 40, 41, 42, 43, 44, 45, 46, 47, 48, 5, 6, 7, 9, 10, 3, 49, 50, 51, 52, 53, 54, 55, 56, 57, 58, 59, 60, 69, 70, 71, 72, 73, 74, 75, 76, 77, 78, 79, 80, 97, 98, 99, 100, 101, 102, 103, 104, 105, 106, 107, 108, 109, 110, 111, 112, 113, 114, 115, 116, 117, 118, 119, 120, 121, 122, 123, 124, 125, 126, 127, 128, 129, 130, 131, 132, 133] (by decide +kernel) (by decide +kernel)
set_option maxRecDepth 20000 in
theorem gX7_digest_X7_mixRest : GoodIn wsX7_digest (wsV RX7 278 RX7 yX7_mixRest wsX7_mixRest) := goodIn_app (goodIn_of _ (by decide +kernel)) ggX7_digest_X7_mixRest
theorem dX7_digest_0 : decode cX7_digest 0 = .ok (.aload_n 0, 1) := by decide +kernel
theorem dX7_digest_1 : decode cX7_digest 1 = .ok (.iconst 0, 1) := by decide +kernel
theorem dX7_digest_2 : decode cX7_digest 2 = .ok (.putfield 28, 3) := by decide +kernel
theorem dX7_digest_5 : decode cX7_digest 5 = .ok (.aload_n 0, 1) := by decide +kernel
theorem dX7_digest_6 : decode cX7_digest 6 = .ok (.ldc2_w 276, 3) := by decide +kernel
theorem dX7_digest_9 : decode cX7_digest 9 = .ok (.putfield 269, 3) := by decide +kernel
theorem dX7_digest_12 : decode cX7_digest 12 = .ok (.aload_n 0, 1) := by decide +kernel
theorem dX7_digest_13 : decode cX7_digest 13 = .ok (.aload_n 0, 1) := by decide +kernel
theorem dX7_digest_14 : decode cX7_digest 14 = .ok (.getfield 39, 3) := by decide +kernel
theorem dX7_digest_17 : decode cX7_digest 17 = .ok (.invokevirtual 273, 3) := by decide +kernel
theorem dX7_digest_20 : decode cX7_digest 20 = .ok (.iconst 0, 1) := by decide +kernel
theorem dX7_digest_21 : decode cX7_digest 21 = .ok (.istore_n 1, 1) := by decide +kernel
theorem dX7_digest_22 : decode cX7_digest 22 = .ok (.iload_n 1, 1) := by decide +kernel
theorem dX7_digest_23 : decode cX7_digest 23 = .ok (.bipush 15, 2) := by decide +kernel
theorem dX7_digest_25 : decode cX7_digest 25 = .ok (.if_icmp .ge 18, 3) := by decide +kernel
theorem dX7_digest_28 : decode cX7_digest 28 = .ok (.aload_n 0, 1) := by decide +kernel
theorem dX7_digest_29 : decode cX7_digest 29 = .ok (.aload_n 0, 1) := by decide +kernel
theorem dX7_digest_30 : decode cX7_digest 30 = .ok (.iload_n 1, 1) := by decide +kernel
theorem dX7_digest_31 : decode cX7_digest 31 = .ok (.invokevirtual 214, 3) := by decide +kernel
theorem dX7_digest_34 : decode cX7_digest 34 = .ok (.invokevirtual 273, 3) := by decide +kernel
theorem dX7_digest_37 : decode cX7_digest 37 = .ok (.iinc 1 1, 3) := by decide +kernel
theorem dX7_digest_40 : decode cX7_digest 40 = .ok (.goto (-18), 3) := by decide +kernel
theorem dX7_digest_43 : decode cX7_digest 43 = .ok (.iconst 0, 1) := by decide +kernel
theorem dX7_digest_44 : decode cX7_digest 44 = .ok (.istore_n 1, 1) := by decide +kernel
theorem dX7_digest_45 : decode cX7_digest 45 = .ok (.iload_n 1, 1) := by decide +kernel
theorem dX7_digest_46 : decode cX7_digest 46 = .ok (.iconst 2, 1) := by decide +kernel
theorem dX7_digest_47 : decode cX7_digest 47 = .ok (.if_icmp .ge 32, 3) := by decide +kernel
theorem dX7_digest_50 : decode cX7_digest 50 = .ok (.iconst 0, 1) := by decide +kernel
theorem dX7_digest_51 : decode cX7_digest 51 = .ok (.istore_n 2, 1) := by decide +kernel
theorem dX7_digest_52 : decode cX7_digest 52 = .ok (.iload_n 2, 1) := by decide +kernel
theorem dX7_digest_53 : decode cX7_digest 53 = .ok (.iconst 4, 1) := by decide +kernel
theorem dX7_digest_54 : decode cX7_digest 54 = .ok (.if_icmp .ge 19, 3) := by decide +kernel
theorem dX7_digest_57 : decode cX7_digest 57 = .ok (.aload_n 0, 1) := by decide +kernel
theorem dX7_digest_58 : decode cX7_digest 58 = .ok (.aload_n 0, 1) := by decide +kernel
theorem dX7_digest_59 : decode cX7_digest 59 = .ok (.iload_n 1, 1) := by decide +kernel
theorem dX7_digest_60 : decode cX7_digest 60 = .ok (.iload_n 2, 1) := by decide +kernel
theorem dX7_digest_61 : decode cX7_digest 61 = .ok (.invokevirtual 193, 3) := by decide +kernel
theorem dX7_digest_64 : decode cX7_digest 64 = .ok (.invokevirtual 273, 3) := by decide +kernel
theorem dX7_digest_67 : decode cX7_digest 67 = .ok (.iinc 2 1, 3) := by decide +kernel
theorem dX7_digest_70 : decode cX7_digest 70 = .ok (.goto (-18), 3) := by decide +kernel
theorem dX7_digest_73 : decode cX7_digest 73 = .ok (.iinc 1 1, 3) := by decide +kernel
theorem dX7_digest_76 : decode cX7_digest 76 = .ok (.goto (-31), 3) := by decide +kernel
theorem dX7_digest_79 : decode cX7_digest 79 = .ok (.iconst 0, 1) := by decide +kernel
theorem dX7_digest_80 : decode cX7_digest 80 = .ok (.istore_n 1, 1) := by decide +kernel
theorem dX7_digest_81 : decode cX7_digest 81 = .ok (.iload_n 1, 1) := by decide +kernel
theorem dX7_digest_82 : decode cX7_digest 82 = .ok (.iconst 4, 1) := by decide +kernel
theorem dX7_digest_83 : decode cX7_digest 83 = .ok (.if_icmp .ge 32, 3) := by decide +kernel
theorem dX7_digest_86 : decode cX7_digest 86 = .ok (.iconst 0, 1) := by decide +kernel
theorem dX7_digest_87 : decode cX7_digest 87 = .ok (.istore_n 2, 1) := by decide +kernel
theorem dX7_digest_88 : decode cX7_digest 88 = .ok (.iload_n 2, 1) := by decide +kernel
theorem dX7_digest_89 : decode cX7_digest 89 = .ok (.iconst 3, 1) := by decide +kernel
theorem dX7_digest_90 : decode cX7_digest 90 = .ok (.if_icmp .ge 19, 3) := by decide +kernel
theorem dX7_digest_93 : decode cX7_digest 93 = .ok (.aload_n 0, 1) := by decide +kernel
theorem dX7_digest_94 : decode cX7_digest 94 = .ok (.aload_n 0, 1) := by decide +kernel
theorem dX7_digest_95 : decode cX7_digest 95 = .ok (.iload_n 1, 1) := by decide +kernel
theorem dX7_digest_96 : decode cX7_digest 96 = .ok (.iload_n 2, 1) := by decide +kernel
theorem dX7_digest_97 : decode cX7_digest 97 = .ok (.invokevirtual 196, 3) := by decide +kernel
theorem dX7_digest_100 : decode cX7_digest 100 = .ok (.invokevirtual 273, 3) := by decide +kernel
theorem dX7_digest_103 : decode cX7_digest 103 = .ok (.iinc 2 1, 3) := by decide +kernel
theorem dX7_digest_106 : decode cX7_digest 106 = .ok (.goto (-18), 3) := by decide +kernel
theorem dX7_digest_109 : decode cX7_digest 109 = .ok (.iinc 1 1, 3) := by decide +kernel
theorem dX7_digest_112 : decode cX7_digest 112 = .ok (.goto (-31), 3) := by decide +kernel
theorem dX7_digest_115 : decode cX7_digest 115 = .ok (.aload_n 0, 1) := by decide +kernel
theorem dX7_digest_116 : decode cX7_digest 116 = .ok (.invokevirtual 278, 3) := by decide +kernel
theorem dX7_digest_119 : decode cX7_digest 119 = .ok (.aload_n 0, 1) := by decide +kernel
theorem dX7_digest_120 : decode cX7_digest 120 = .ok (.getfield 269, 3) := by decide +kernel
theorem dX7_digest_123 : decode cX7_digest 123 = .ok (.lreturn, 1) := by decide +kernel
theorem dJx29ce0_ordinal_8abf5_0 : decode cJx29ce0_ordinal_8abf5 0 = .ok (.aload_n 0, 1) := by decide +kernel
theorem dJx29ce0_ordinal_8abf5_1 : decode cJx29ce0_ordinal_8abf5 1 = .ok (.getfield 7, 3) := by decide +kernel
theorem dJx29ce0_ordinal_8abf5_4 : decode cJx29ce0_ordinal_8abf5 4 = .ok (.ireturn, 1) := by decide +kernel
theorem dJ9_min_7cf53_0 : decode cJ9_min_7cf53 0 = .ok (.iload_n 0, 1) := by decide +kernel
theorem dJ9_min_7cf53_1 : decode cJ9_min_7cf53 1 = .ok (.iload_n 1, 1) := by decide +kernel
theorem dJ9_min_7cf53_2 : decode cJ9_min_7cf53 2 = .ok (.if_icmp .gt 7, 3) := by decide +kernel
theorem dJ9_min_7cf53_5 : decode cJ9_min_7cf53 5 = .ok (.iload_n 0, 1) := by decide +kernel
theorem dJ9_min_7cf53_6 : decode cJ9_min_7cf53 6 = .ok (.goto 4, 3) := by decide +kernel
theorem dJ9_min_7cf53_9 : decode cJ9_min_7cf53 9 = .ok (.iload_n 1, 1) := by decide +kernel
theorem dJ9_min_7cf53_10 : decode cJ9_min_7cf53 10 = .ok (.ireturn, 1) := by decide +kernel
set_option maxRecDepth 20000 in
theorem ggJ0_length_8abf5_J0_coder_7d493 : GoodIn wsJ0_length_8abf5 wsJ0_coder_7d493 := goodIn_r _ [6, 7, 8] (by decide +kernel) (by decide +kernel)
set_option maxRecDepth 20000 in
theorem gJ0_length_8abf5_J0_coder_7d493 : GoodIn wsJ0_length_8abf5 (wsV RJ0 335 RJ0 yJ0_coder_7d493 wsJ0_coder_7d493) := goodIn_app (goodIn_of _ (by decide +kernel)) ggJ0_length_8abf5_J0_coder_7d493
theorem dJ0_length_8abf5_0 : decode cJ0_length_8abf5 0 = .ok (.aload_n 0, 1) := by decide +kernel
theorem dJ0_length_8abf5_1 : decode cJ0_length_8abf5 1 = .ok (.getfield 9, 3) := by decide +kernel
theorem dJ0_length_8abf5_4 : decode cJ0_length_8abf5 4 = .ok (.arraylength, 1) := by decide +kernel
theorem dJ0_length_8abf5_5 : decode cJ0_length_8abf5 5 = .ok (.aload_n 0, 1) := by decide +kernel
theorem dJ0_length_8abf5_6 : decode cJ0_length_8abf5 6 = .ok (.invokevirtual 335, 3) := by decide +kernel
theorem dJ0_length_8abf5_9 : decode cJ0_length_8abf5 9 = .ok (.ishr, 1) := by decide +kernel
theorem dJ0_length_8abf5_10 : decode cJ0_length_8abf5 10 = .ok (.ireturn, 1) := by decide +kernel
set_option maxRecDepth 20000 in
theorem ggJ0_charAt_5068e_J0_isLatin1_aae02 : GoodIn wsJ0_charAt_5068e wsJ0_isLatin1_aae02 := goodIn_r _ [6, 7, 8] (by decide +kernel) (by decide +kernel)
set_option maxRecDepth 20000 in
theorem gJ0_charAt_5068e_J0_isLatin1_aae02 : GoodIn wsJ0_charAt_5068e (wsV RJ0 492 RJ0 yJ0_isLatin1_aae02 wsJ0_isLatin1_aae02) := goodIn_app (goodIn_of _ (by decide +kernel)) ggJ0_charAt_5068e_J0_isLatin1_aae02
set_option maxRecDepth 20000 in
theorem ggJ0_charAt_5068e_J1_charAt_3b067 : GoodIn wsJ0_charAt_5068e wsJ1_charAt_3b067 := goodIn_r _ [12, 13, 14, 5, 15, 16, 17, 18, 19, 20] (by decide +kernel) (by decide +kernel)
set_option maxRecDepth 20000 in
theorem gJ0_charAt_5068e_J1_charAt_3b067 : GoodIn wsJ0_charAt_5068e (va_wsS RJ0 495 yJ1_charAt_3b067 wsJ1_charAt_3b067) := goodIn_app (goodIn_of _ (by decide +kernel)) ggJ0_charAt_5068e_J1_charAt_3b067
set_option maxRecDepth 20000 in
theorem ggJ0_charAt_5068e_J2_charAt_3b067 : GoodIn wsJ0_charAt_5068e wsJ2_charAt_3b067 := goodIn_r _ [24, 25, 26, 23, 27, 28, 29, 30, 31, 14, 5, 15, 16, 17, 18, 19, 20, 32, 33, 34, 35, 36, 37] (by decide +kernel) (by decide +kernel)
set_option maxRecDepth 20000 in
theorem gJ0_charAt_5068e_J2_charAt_3b067 : GoodIn wsJ0_charAt_5068e (va_wsS RJ0 498 yJ2_charAt_3b067 wsJ2_charAt_3b067) := goodIn_app (goodIn_of _ (by decide +kernel)) ggJ0_charAt_5068e_J2_charAt_3b067
theorem dJ0_charAt_5068e_0 : decode cJ0_charAt_5068e 0 = .ok (.aload_n 0, 1) := by decide +kernel
theorem dJ0_charAt_5068e_1 : decode cJ0_charAt_5068e 1 = .ok (.invokevirtual 492, 3) := by decide +kernel
theorem dJ0_charAt_5068e_4 : decode cJ0_charAt_5068e 4 = .ok (.ifCond .eq 12, 3) := by decide +kernel
theorem dJ0_charAt_5068e_7 : decode cJ0_charAt_5068e 7 = .ok (.aload_n 0, 1) := by decide +kernel
theorem dJ0_charAt_5068e_8 : decode cJ0_charAt_5068e 8 = .ok (.getfield 9, 3) := by decide +kernel
theorem dJ0_charAt_5068e_11 : decode cJ0_charAt_5068e 11 = .ok (.iload_n 1, 1) := by decide +kernel
theorem dJ0_charAt_5068e_12 : decode cJ0_charAt_5068e 12 = .ok (.invokestatic 495, 3) := by decide +kernel
theorem dJ0_charAt_5068e_15 : decode cJ0_charAt_5068e 15 = .ok (.ireturn, 1) := by decide +kernel
theorem dJ0_charAt_5068e_16 : decode cJ0_charAt_5068e 16 = .ok (.aload_n 0, 1) := by decide +kernel
theorem dJ0_charAt_5068e_17 : decode cJ0_charAt_5068e 17 = .ok (.getfield 9, 3) := by decide +kernel
theorem dJ0_charAt_5068e_20 : decode cJ0_charAt_5068e 20 = .ok (.iload_n 1, 1) := by decide +kernel
theorem dJ0_charAt_5068e_21 : decode cJ0_charAt_5068e 21 = .ok (.invokestatic 498, 3) := by decide +kernel
theorem dJ0_charAt_5068e_24 : decode cJ0_charAt_5068e 24 = .ok (.ireturn, 1) := by decide +kernel
theorem dJ0_coder_7d493_0 : decode cJ0_coder_7d493 0 = .ok (.getstatic 38, 3) := by decide +kernel
theorem dJ0_coder_7d493_3 : decode cJ0_coder_7d493 3 = .ok (.ifCond .eq 10, 3) := by decide +kernel
theorem dJ0_coder_7d493_6 : decode cJ0_coder_7d493 6 = .ok (.aload_n 0, 1) := by decide +kernel
theorem dJ0_coder_7d493_7 : decode cJ0_coder_7d493 7 = .ok (.getfield 15, 3) := by decide +kernel
theorem dJ0_coder_7d493_10 : decode cJ0_coder_7d493 10 = .ok (.goto 4, 3) := by decide +kernel
theorem dJ0_coder_7d493_13 : decode cJ0_coder_7d493 13 = .ok (.iconst 1, 1) := by decide +kernel
theorem dJ0_coder_7d493_14 : decode cJ0_coder_7d493 14 = .ok (.ireturn, 1) := by decide +kernel
theorem dJ0_isLatin1_aae02_0 : decode cJ0_isLatin1_aae02 0 = .ok (.getstatic 38, 3) := by decide +kernel
theorem dJ0_isLatin1_aae02_3 : decode cJ0_isLatin1_aae02 3 = .ok (.ifCond .eq 14, 3) := by decide +kernel
theorem dJ0_isLatin1_aae02_6 : decode cJ0_isLatin1_aae02 6 = .ok (.aload_n 0, 1) := by decide +kernel
theorem dJ0_isLatin1_aae02_7 : decode cJ0_isLatin1_aae02 7 = .ok (.getfield 15, 3) := by decide +kernel
theorem dJ0_isLatin1_aae02_10 : decode cJ0_isLatin1_aae02 10 = .ok (.ifCond .ne 7, 3) := by decide +kernel
theorem dJ0_isLatin1_aae02_13 : decode cJ0_isLatin1_aae02 13 = .ok (.iconst 1, 1) := by decide +kernel
theorem dJ0_isLatin1_aae02_14 : decode cJ0_isLatin1_aae02 14 = .ok (.goto 4, 3) := by decide +kernel
theorem dJ0_isLatin1_aae02_17 : decode cJ0_isLatin1_aae02 17 = .ok (.iconst 0, 1) := by decide +kernel
theorem dJ0_isLatin1_aae02_18 : decode cJ0_isLatin1_aae02 18 = .ok (.ireturn, 1) := by decide +kernel
set_option maxRecDepth 20000 in
theorem ggJ0_checkIndex_df160_J3_checkIndex_8e157 : GoodIn wsJ0_checkIndex_df160 wsJ3_checkIndex_8e157 := goodIn_r _ [5] (by decide +kernel) (by decide +kernel)
set_option maxRecDepth 20000 in
theorem gJ0_checkIndex_df160_J3_checkIndex_8e157 : GoodIn wsJ0_checkIndex_df160 (va_wsS RJ0 1059 yJ3_checkIndex_8e157 wsJ3_checkIndex_8e157) := goodIn_app (goodIn_of _ (by decide +kernel)) ggJ0_checkIndex_df160_J3_checkIndex_8e157
theorem dJ0_checkIndex_df160_0 : decode cJ0_checkIndex_df160 0 = .ok (.iload_n 0, 1) := by decide +kernel
theorem dJ0_checkIndex_df160_1 : decode cJ0_checkIndex_df160 1 = .ok (.iload_n 1, 1) := by decide +kernel
theorem dJ0_checkIndex_df160_2 : decode cJ0_checkIndex_df160 2 = .ok (.getstatic 1053, 3) := by decide +kernel
theorem dJ0_checkIndex_df160_5 : decode cJ0_checkIndex_df160 5 = .ok (.invokestatic 1059, 3) := by decide +kernel
theorem dJ0_checkIndex_df160_8 : decode cJ0_checkIndex_df160 8 = .ok (.pop, 1) := by decide +kernel
theorem dJ0_checkIndex_df160_9 : decode cJ0_checkIndex_df160 9 = .ok (.return_, 1) := by decide +kernel
set_option maxRecDepth 20000 in
theorem ggJ1_charAt_3b067_J0_checkIndex_df160 : GoodIn wsJ1_charAt_3b067 wsJ0_checkIndex_df160 := goodIn_r _ [4, 5, 6, 7, 8, 9] (by decide +kernel) (by decide +kernel)
set_option maxRecDepth 20000 in
theorem gJ1_charAt_3b067_J0_checkIndex_df160 : GoodIn wsJ1_charAt_3b067 (va_wsS RJ1 9 yJ0_checkIndex_df160 wsJ0_checkIndex_df160) := goodIn_app (goodIn_of _ (by decide +kernel)) ggJ1_charAt_3b067_J0_checkIndex_df160
theorem dJ1_charAt_3b067_0 : decode cJ1_charAt_3b067 0 = .ok (.iload_n 1, 1) := by decide +kernel
theorem dJ1_charAt_3b067_1 : decode cJ1_charAt_3b067 1 = .ok (.aload_n 0, 1) := by decide +kernel
theorem dJ1_charAt_3b067_2 : decode cJ1_charAt_3b067 2 = .ok (.arraylength, 1) := by decide +kernel
theorem dJ1_charAt_3b067_3 : decode cJ1_charAt_3b067 3 = .ok (.invokestatic 9, 3) := by decide +kernel
theorem dJ1_charAt_3b067_6 : decode cJ1_charAt_3b067 6 = .ok (.aload_n 0, 1) := by decide +kernel
theorem dJ1_charAt_3b067_7 : decode cJ1_charAt_3b067 7 = .ok (.iload_n 1, 1) := by decide +kernel
theorem dJ1_charAt_3b067_8 : decode cJ1_charAt_3b067 8 = .ok (.baload, 1) := by decide +kernel
theorem dJ1_charAt_3b067_9 : decode cJ1_charAt_3b067 9 = .ok (.sipush 255, 3) := by decide +kernel
theorem dJ1_charAt_3b067_12 : decode cJ1_charAt_3b067 12 = .ok (.iand, 1) := by decide +kernel
theorem dJ1_charAt_3b067_13 : decode cJ1_charAt_3b067 13 = .ok (.i2c, 1) := by decide +kernel
theorem dJ1_charAt_3b067_14 : decode cJ1_charAt_3b067 14 = .ok (.ireturn, 1) := by decide +kernel
set_option maxRecDepth 20000 in
theorem ggJ2_getChar_3b067_J2_length_9d52b : GoodIn wsJ2_getChar_3b067 wsJ2_length_9d52b := goodIn_r _ [7] (by decide +kernel) (by decide +kernel)
set_option maxRecDepth 20000 in
theorem gJ2_getChar_3b067_J2_length_9d52b : GoodIn wsJ2_getChar_3b067 (va_wsS RJ2 48 yJ2_length_9d52b wsJ2_length_9d52b) := goodIn_app (goodIn_of _ (by decide +kernel)) ggJ2_getChar_3b067_J2_length_9d52b
theorem dJ2_getChar_3b067_0 : decode cJ2_getChar_3b067 0 = .ok (.getstatic 44, 3) := by decide +kernel
theorem dJ2_getChar_3b067_3 : decode cJ2_getChar_3b067 3 = .ok (.ifCond .ne 25, 3) := by decide +kernel
theorem dJ2_getChar_3b067_6 : decode cJ2_getChar_3b067 6 = .ok (.iload_n 1, 1) := by decide +kernel
theorem dJ2_getChar_3b067_7 : decode cJ2_getChar_3b067 7 = .ok (.ifCond .lt 11, 3) := by decide +kernel
theorem dJ2_getChar_3b067_10 : decode cJ2_getChar_3b067 10 = .ok (.iload_n 1, 1) := by decide +kernel
theorem dJ2_getChar_3b067_11 : decode cJ2_getChar_3b067 11 = .ok (.aload_n 0, 1) := by decide +kernel
theorem dJ2_getChar_3b067_12 : decode cJ2_getChar_3b067 12 = .ok (.invokestatic 48, 3) := by decide +kernel
theorem dJ2_getChar_3b067_15 : decode cJ2_getChar_3b067 15 = .ok (.if_icmp .lt 13, 3) := by decide +kernel
theorem dJ2_getChar_3b067_18 : decode cJ2_getChar_3b067 18 = .ok (.new 52, 3) := by decide +kernel
theorem dJ2_getChar_3b067_21 : decode cJ2_getChar_3b067 21 = .ok (.dup, 1) := by decide +kernel
theorem dJ2_getChar_3b067_22 : decode cJ2_getChar_3b067 22 = .ok (.ldc 54, 2) := by decide +kernel
theorem dJ2_getChar_3b067_24 : decode cJ2_getChar_3b067 24 = .ok (.invokespecial 56, 3) := by decide +kernel
theorem dJ2_getChar_3b067_27 : decode cJ2_getChar_3b067 27 = .ok (.athrow, 1) := by decide +kernel
theorem dJ2_getChar_3b067_28 : decode cJ2_getChar_3b067 28 = .ok (.iload_n 1, 1) := by decide +kernel
theorem dJ2_getChar_3b067_29 : decode cJ2_getChar_3b067 29 = .ok (.iconst 1, 1) := by decide +kernel
theorem dJ2_getChar_3b067_30 : decode cJ2_getChar_3b067 30 = .ok (.ishl, 1) := by decide +kernel
theorem dJ2_getChar_3b067_31 : decode cJ2_getChar_3b067 31 = .ok (.istore_n 1, 1) := by decide +kernel
theorem dJ2_getChar_3b067_32 : decode cJ2_getChar_3b067 32 = .ok (.aload_n 0, 1) := by decide +kernel
theorem dJ2_getChar_3b067_33 : decode cJ2_getChar_3b067 33 = .ok (.iload_n 1, 1) := by decide +kernel
theorem dJ2_getChar_3b067_34 : decode cJ2_getChar_3b067 34 = .ok (.iinc 1 1, 3) := by decide +kernel
theorem dJ2_getChar_3b067_37 : decode cJ2_getChar_3b067 37 = .ok (.baload, 1) := by decide +kernel
theorem dJ2_getChar_3b067_38 : decode cJ2_getChar_3b067 38 = .ok (.sipush 255, 3) := by decide +kernel
theorem dJ2_getChar_3b067_41 : decode cJ2_getChar_3b067 41 = .ok (.iand, 1) := by decide +kernel
theorem dJ2_getChar_3b067_42 : decode cJ2_getChar_3b067 42 = .ok (.getstatic 59, 3) := by decide +kernel
theorem dJ2_getChar_3b067_45 : decode cJ2_getChar_3b067 45 = .ok (.ishl, 1) := by decide +kernel
theorem dJ2_getChar_3b067_46 : decode cJ2_getChar_3b067 46 = .ok (.aload_n 0, 1) := by decide +kernel
theorem dJ2_getChar_3b067_47 : decode cJ2_getChar_3b067 47 = .ok (.iload_n 1, 1) := by decide +kernel
theorem dJ2_getChar_3b067_48 : decode cJ2_getChar_3b067 48 = .ok (.baload, 1) := by decide +kernel
theorem dJ2_getChar_3b067_49 : decode cJ2_getChar_3b067 49 = .ok (.sipush 255, 3) := by decide +kernel
theorem dJ2_getChar_3b067_52 : decode cJ2_getChar_3b067 52 = .ok (.iand, 1) := by decide +kernel
theorem dJ2_getChar_3b067_53 : decode cJ2_getChar_3b067 53 = .ok (.getstatic 63, 3) := by decide +kernel
theorem dJ2_getChar_3b067_56 : decode cJ2_getChar_3b067 56 = .ok (.ishl, 1) := by decide +kernel
theorem dJ2_getChar_3b067_57 : decode cJ2_getChar_3b067 57 = .ok (.ior, 1) := by decide +kernel
theorem dJ2_getChar_3b067_58 : decode cJ2_getChar_3b067 58 = .ok (.i2c, 1) := by decide +kernel
theorem dJ2_getChar_3b067_59 : decode cJ2_getChar_3b067 59 = .ok (.ireturn, 1) := by decide +kernel
theorem dJ2_length_9d52b_0 : decode cJ2_length_9d52b 0 = .ok (.aload_n 0, 1) := by decide +kernel
theorem dJ2_length_9d52b_1 : decode cJ2_length_9d52b 1 = .ok (.arraylength, 1) := by decide +kernel
theorem dJ2_length_9d52b_2 : decode cJ2_length_9d52b 2 = .ok (.iconst 1, 1) := by decide +kernel
theorem dJ2_length_9d52b_3 : decode cJ2_length_9d52b 3 = .ok (.ishr, 1) := by decide +kernel
theorem dJ2_length_9d52b_4 : decode cJ2_length_9d52b 4 = .ok (.ireturn, 1) := by decide +kernel
set_option maxRecDepth 20000 in
theorem ggJ2_charAt_3b067_J2_checkIndex_2214a : GoodIn wsJ2_charAt_3b067 wsJ2_checkIndex_2214a := goodIn_r _ [4, 5, 6, 3, 7, 8, 9, 10, 11, 12, 13, 14, 15, 16] (by decide +kernel) (by decide +kernel)
set_option maxRecDepth 20000 in
theorem gJ2_charAt_3b067_J2_checkIndex_2214a : GoodIn wsJ2_charAt_3b067 (va_wsS RJ2 67 yJ2_checkIndex_2214a wsJ2_checkIndex_2214a) := goodIn_app (goodIn_of _ (by decide +kernel)) ggJ2_charAt_3b067_J2_checkIndex_2214a
set_option maxRecDepth 20000 in
theorem ggJ2_charAt_3b067_J2_getChar_3b067 : GoodIn wsJ2_charAt_3b067 wsJ2_getChar_3b067 := goodIn_r _ [19, 20, 21, 22, 5, 6, 3, 7] (by decide +kernel) (by decide +kernel)
set_option maxRecDepth 20000 in
theorem gJ2_charAt_3b067_J2_getChar_3b067 : GoodIn wsJ2_charAt_3b067 (va_wsS RJ2 71 yJ2_getChar_3b067 wsJ2_getChar_3b067) := goodIn_app (goodIn_of _ (by decide +kernel)) ggJ2_charAt_3b067_J2_getChar_3b067
theorem dJ2_charAt_3b067_0 : decode cJ2_charAt_3b067 0 = .ok (.iload_n 1, 1) := by decide +kernel
theorem dJ2_charAt_3b067_1 : decode cJ2_charAt_3b067 1 = .ok (.aload_n 0, 1) := by decide +kernel
theorem dJ2_charAt_3b067_2 : decode cJ2_charAt_3b067 2 = .ok (.invokestatic 67, 3) := by decide +kernel
theorem dJ2_charAt_3b067_5 : decode cJ2_charAt_3b067 5 = .ok (.aload_n 0, 1) := by decide +kernel
theorem dJ2_charAt_3b067_6 : decode cJ2_charAt_3b067 6 = .ok (.iload_n 1, 1) := by decide +kernel
theorem dJ2_charAt_3b067_7 : decode cJ2_charAt_3b067 7 = .ok (.invokestatic 71, 3) := by decide +kernel
theorem dJ2_charAt_3b067_10 : decode cJ2_charAt_3b067 10 = .ok (.ireturn, 1) := by decide +kernel
set_option maxRecDepth 20000 in
theorem ggJ2_checkIndex_2214a_J2_length_9d52b : GoodIn wsJ2_checkIndex_2214a wsJ2_length_9d52b := goodIn_r _ [4] (by decide +kernel) (by decide +kernel)
set_option maxRecDepth 20000 in
theorem gJ2_checkIndex_2214a_J2_length_9d52b : GoodIn wsJ2_checkIndex_2214a (va_wsS RJ2 48 yJ2_length_9d52b wsJ2_length_9d52b) := goodIn_app (goodIn_of _ (by decide +kernel)) ggJ2_checkIndex_2214a_J2_length_9d52b
set_option maxRecDepth 20000 in
theorem ggJ2_checkIndex_2214a_J0_checkIndex_df160 : GoodIn wsJ2_checkIndex_2214a wsJ0_checkIndex_df160 := goodIn_r _ [8, 9, 10, 11, 12, 13] (by decide +kernel) (by decide +kernel)
set_option maxRecDepth 20000 in
theorem gJ2_checkIndex_2214a_J0_checkIndex_df160 : GoodIn wsJ2_checkIndex_2214a (va_wsS RJ2 414 yJ0_checkIndex_df160 wsJ0_checkIndex_df160) := goodIn_app (goodIn_of _ (by decide +kernel)) ggJ2_checkIndex_2214a_J0_checkIndex_df160
theorem dJ2_checkIndex_2214a_0 : decode cJ2_checkIndex_2214a 0 = .ok (.iload_n 0, 1) := by decide +kernel
theorem dJ2_checkIndex_2214a_1 : decode cJ2_checkIndex_2214a 1 = .ok (.aload_n 1, 1) := by decide +kernel
theorem dJ2_checkIndex_2214a_2 : decode cJ2_checkIndex_2214a 2 = .ok (.invokestatic 48, 3) := by decide +kernel
theorem dJ2_checkIndex_2214a_5 : decode cJ2_checkIndex_2214a 5 = .ok (.invokestatic 414, 3) := by decide +kernel
theorem dJ2_checkIndex_2214a_8 : decode cJ2_checkIndex_2214a 8 = .ok (.return_, 1) := by decide +kernel
theorem dJ3_checkIndex_8e157_0 : decode cJ3_checkIndex_8e157 0 = .ok (.iload_n 0, 1) := by decide +kernel
theorem dJ3_checkIndex_8e157_1 : decode cJ3_checkIndex_8e157 1 = .ok (.ifCond .lt 8, 3) := by decide +kernel
theorem dJ3_checkIndex_8e157_4 : decode cJ3_checkIndex_8e157 4 = .ok (.iload_n 0, 1) := by decide +kernel
theorem dJ3_checkIndex_8e157_5 : decode cJ3_checkIndex_8e157 5 = .ok (.iload_n 1, 1) := by decide +kernel
theorem dJ3_checkIndex_8e157_6 : decode cJ3_checkIndex_8e157 6 = .ok (.if_icmp .lt 10, 3) := by decide +kernel
theorem dJ3_checkIndex_8e157_9 : decode cJ3_checkIndex_8e157 9 = .ok (.aload_n 2, 1) := by decide +kernel
theorem dJ3_checkIndex_8e157_10 : decode cJ3_checkIndex_8e157 10 = .ok (.iload_n 0, 1) := by decide +kernel
theorem dJ3_checkIndex_8e157_11 : decode cJ3_checkIndex_8e157 11 = .ok (.iload_n 1, 1) := by decide +kernel
theorem dJ3_checkIndex_8e157_12 : decode cJ3_checkIndex_8e157 12 = .ok (.invokestatic 95, 3) := by decide +kernel
theorem dJ3_checkIndex_8e157_15 : decode cJ3_checkIndex_8e157 15 = .ok (.athrow, 1) := by decide +kernel
theorem dJ3_checkIndex_8e157_16 : decode cJ3_checkIndex_8e157 16 = .ok (.iload_n 0, 1) := by decide +kernel
theorem dJ3_checkIndex_8e157_17 : decode cJ3_checkIndex_8e157 17 = .ok (.ireturn, 1) := by decide +kernel
