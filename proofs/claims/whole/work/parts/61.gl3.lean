theorem goodIn_td {big ws : List Cond} {m : Nat} (n : Nat) (h1 : GoodIn big ((ws.drop m).take n)) (h2 : GoodIn big (ws.drop (m + n))) : GoodIn big (ws.drop m) := by
  intro w hw
  rw [← List.take_append_drop n (ws.drop m), List.drop_drop] at hw
  exact (List.mem_append.mp hw).elim (h1 w) (h2 w)
set_option maxRecDepth 20000 in
theorem ggL_law_L_bedsFor : GoodIn wsL_law wsL_bedsFor := goodIn_ca (goodIn_ca (goodIn_ca (goodIn_r _ [877, 200, 101, 878, 879, 880, 2, 881, 16, 672, 673, 674, 15, 675, 39, 209, 210, 110, 111, 112, 113, 114, 115, 116, 117, 118, 882, 216, 217, 218, 32, 40, 219, 220, 221, 31, 222, 223, 224, 225, 226, 49, 227, 228, 229, 230, 55, 231, 232, 233, 234, 53, 235, 236, 237, 238, 239, 240, 241, 242, 51, 243, 244, 245, 246, 247, 248, 249, 250, 1187, 1188, 1189, 1203, 1204, 1205, 1206, 1207, 1208, 1209, 1210, 1211, 1212, 1223, 1224, 1225, 1226, 1227, 1228, 1229, 1230, 1231] (by decide +kernel) (by decide +kernel)) (goodIn_sub (fun _ h => List.mem_append_left _ (List.mem_append_left _ (List.mem_append_right _ h))) (by decide +kernel))) (goodIn_sub (fun _ h => List.mem_append_left _ (List.mem_append_right _ h)) (by decide +kernel))) (goodIn_sub (fun _ h => List.mem_append_right _ h) (by decide +kernel))
set_option maxRecDepth 20000 in
theorem gL_law_L_bedsFor : GoodIn wsL_law (va_wsS RL 142 yL_bedsFor wsL_bedsFor) := goodIn_app (goodIn_of _ (by decide +kernel)) ggL_law_L_bedsFor
theorem hL_L_bedsFor : GoodIn vsL_law (va_wsS RL 142 yL_bedsFor wsL_bedsFor) := goodIn_vsL gL_law_L_bedsFor (by decide +kernel)
set_option maxRecDepth 20000 in
theorem ggL_law_X7_bedsFor : GoodIn wsL_law wsX7_bedsFor := goodIn_r _ [886, 91, 191, 658, 659, 5, 660, 357, 358, 359, 360, 361, 362, 363, 364, 365, 366, 367, 368, 369, 370, 371, 179, 180, 181, 182, 183, 184, 185, 186, 372, 373, 374, 375, 376, 377, 378, 379, 380, 381, 382, 383, 384, 385, 386, 387, 388, 389, 390, 391, 1190, 1191, 1192, 1193, 1194, 1195, 1196, 1197, 1198, 1199, 1200, 1201, 1202] (by decide +kernel) (by decide +kernel)
set_option maxRecDepth 20000 in
theorem gL_law_X7_bedsFor : GoodIn wsL_law (wsV RL 144 RX7 yX7_bedsFor wsX7_bedsFor) := goodIn_app (goodIn_of _ (by decide +kernel)) ggL_law_X7_bedsFor
theorem hL_X7_bedsFor : GoodIn vsL_law (wsV RL 144 RX7 yX7_bedsFor wsX7_bedsFor) := goodIn_vsL gL_law_X7_bedsFor (by decide +kernel)
set_option maxRecDepth 20000 in
theorem ggL_law_L_reason : GoodIn wsL_law wsL_reason := goodIn_ca (goodIn_ca (goodIn_ca (goodIn_r _ [889, 200, 101, 890, 891, 892, 2, 893, 16, 672, 673, 674, 15, 675, 39, 209, 210, 110, 111, 112, 113, 114, 115, 116, 117, 118, 894, 212, 213, 214, 215, 216, 217, 218, 32, 40, 219, 220, 221, 31, 222, 223, 224, 225, 226, 49, 227, 228, 229, 230, 55, 231, 232, 233, 234, 53, 235, 236, 237, 238, 239, 240, 241, 242, 51, 243, 244, 245, 246, 247, 248, 249, 250, 251, 252, 253, 254, 255, 256, 257, 258, 259, 260, 261, 262, 263, 36, 34, 264, 124, 125, 126, 37, 265, 266, 267, 268, 269, 270, 271, 272, 47, 50, 273, 274, 275, 276, 1187, 1188, 1189, 1203, 1204, 1205, 1206, 1207, 1208, 1209, 1210, 1211, 1212, 1223, 1224, 1225, 1226, 1227, 1228, 1229, 1230, 1231] (by decide +kernel) (by decide +kernel)) (goodIn_sub (fun _ h => List.mem_append_left _ (List.mem_append_left _ (List.mem_append_right _ h))) (by decide +kernel))) (goodIn_sub (fun _ h => List.mem_append_left _ (List.mem_append_right _ h)) (by decide +kernel))) (goodIn_sub (fun _ h => List.mem_append_right _ h) (by decide +kernel))
set_option maxRecDepth 20000 in
theorem gL_law_L_reason : GoodIn wsL_law (va_wsS RL 145 yL_reason wsL_reason) := goodIn_app (goodIn_of _ (by decide +kernel)) ggL_law_L_reason
theorem hL_L_reason : GoodIn vsL_law (va_wsS RL 145 yL_reason wsL_reason) := goodIn_vsL gL_law_L_reason (by decide +kernel)
set_option maxRecDepth 20000 in
theorem ggL_law_X7_reason : GoodIn wsL_law wsX7_reason := goodIn_r _ [898, 91, 191, 658, 659, 5, 660, 357, 358, 359, 360, 361, 362, 363, 364, 365, 366, 367, 368, 369, 370, 371, 179, 180, 181, 182, 183, 184, 185, 186, 372, 373, 374, 375, 376, 377, 378, 379, 380, 381, 382, 383, 384, 385, 386, 387, 388, 389, 390, 391, 392, 393, 394, 395, 396, 397, 398, 399, 400, 401, 402, 403, 404, 405, 406, 407, 1190, 1191, 1192, 1193, 1194, 1195, 1196, 1197, 1198, 1199, 1200, 1201, 1202] (by decide +kernel) (by decide +kernel)
set_option maxRecDepth 20000 in
theorem gL_law_X7_reason : GoodIn wsL_law (wsV RL 147 RX7 yX7_reason wsX7_reason) := goodIn_app (goodIn_of _ (by decide +kernel)) ggL_law_X7_reason
theorem hL_X7_reason : GoodIn vsL_law (wsV RL 147 RX7 yX7_reason wsX7_reason) := goodIn_vsL gL_law_X7_reason (by decide +kernel)
set_option maxRecDepth 20000 in
theorem ggL_law_L_neededWithout : GoodIn wsL_law wsL_neededWithout := goodIn_ca (goodIn_ca (goodIn_ca (goodIn_r _ [901, 614, 101, 902, 903, 904, 2, 905, 16, 619, 620, 621, 15, 622, 209, 210, 595, 596, 597, 598, 37, 153, 154, 110, 111, 112, 113, 114, 115, 116, 117, 118, 906, 260, 261, 262, 263, 36, 34, 264, 124, 125, 126, 1187, 1188, 1189, 1203, 1204, 1205, 1206, 1207, 1208, 1209, 1210, 1211, 1212] (by decide +kernel) (by decide +kernel)) (goodIn_sub (fun _ h => List.mem_append_left _ (List.mem_append_left _ (List.mem_append_right _ h))) (by decide +kernel))) (goodIn_sub (fun _ h => List.mem_append_left _ (List.mem_append_right _ h)) (by decide +kernel))) (goodIn_sub (fun _ h => List.mem_append_right _ h) (by decide +kernel))
set_option maxRecDepth 20000 in
theorem gL_law_L_neededWithout : GoodIn wsL_law (va_wsS RL 148 yL_neededWithout wsL_neededWithout) := goodIn_app (goodIn_of _ (by decide +kernel)) ggL_law_L_neededWithout
theorem hL_L_neededWithout : GoodIn vsL_law (va_wsS RL 148 yL_neededWithout wsL_neededWithout) := goodIn_vsL gL_law_L_neededWithout (by decide +kernel)
set_option maxRecDepth 20000 in
theorem ggL_law_X7_neededWithout : GoodIn wsL_law wsX7_neededWithout := goodIn_r _ [910, 191, 700, 701, 5, 702, 357, 358, 359, 404, 405, 406, 407, 91, 400, 401, 402, 403, 179, 180, 181, 182, 183, 184, 185, 186, 1190, 1191, 1192, 1193, 1194, 1195, 1196, 1197, 1198, 1199, 1200, 1201, 1202] (by decide +kernel) (by decide +kernel)
set_option maxRecDepth 20000 in
theorem gL_law_X7_neededWithout : GoodIn wsL_law (wsV RL 150 RX7 yX7_neededWithout wsX7_neededWithout) := goodIn_app (goodIn_of _ (by decide +kernel)) ggL_law_X7_neededWithout
theorem hL_X7_neededWithout : GoodIn vsL_law (wsV RL 150 RX7 yX7_neededWithout wsX7_neededWithout) := goodIn_vsL gL_law_X7_neededWithout (by decide +kernel)
set_option maxRecDepth 20000 in
theorem ggL_law_L_changedSince : GoodIn wsL_law wsL_changedSince := goodIn_ca (goodIn_ca (goodIn_ca (goodIn_r _ [913, 614, 101, 914, 915, 916, 2, 917, 16, 619, 620, 621, 15, 622, 209, 210, 595, 596, 597, 598, 37, 153, 154, 110, 111, 112, 113, 114, 115, 116, 117, 118, 918, 919, 920, 921, 922, 693, 694, 695, 32, 38, 475, 476, 477, 31, 478, 479, 220, 221, 222, 223, 224, 225, 226, 49, 227, 228, 229, 230, 55, 231, 232, 233, 234, 53, 480, 247, 248, 249, 322, 323, 324, 325, 54, 923, 651, 652, 653, 145, 146, 147, 148, 35, 149, 150, 151, 152, 36, 34, 243, 244, 1187, 1188, 1189, 1203, 1204, 1205, 1206, 1207, 1208, 1209, 1210, 1211, 1212, 1223, 1224, 1225, 1226, 1227, 1228, 1229, 1230, 1231] (by decide +kernel) (by decide +kernel)) (goodIn_sub (fun _ h => List.mem_append_left _ (List.mem_append_left _ (List.mem_append_right _ h))) (by decide +kernel))) (goodIn_sub (fun _ h => List.mem_append_left _ (List.mem_append_right _ h)) (by decide +kernel))) (goodIn_sub (fun _ h => List.mem_append_right _ h) (by decide +kernel))
set_option maxRecDepth 20000 in
theorem gL_law_L_changedSince : GoodIn wsL_law (va_wsS RL 151 yL_changedSince wsL_changedSince) := goodIn_app (goodIn_of _ (by decide +kernel)) ggL_law_L_changedSince
theorem hL_L_changedSince : GoodIn vsL_law (va_wsS RL 151 yL_changedSince wsL_changedSince) := goodIn_vsL gL_law_L_changedSince (by decide +kernel)
set_option maxRecDepth 20000 in
theorem ggL_law_X7_changedSince : GoodIn wsL_law wsX7_changedSince := goodIn_r _ [927, 191, 700, 701, 5, 702, 357, 358, 359, 404, 405, 406, 407, 91, 368, 369, 370, 371, 179, 180, 181, 182, 183, 184, 185, 186, 505, 506, 507, 508, 372, 373, 374, 375, 376, 377, 378, 379, 380, 381, 382, 383, 384, 385, 386, 387, 388, 389, 390, 391, 440, 441, 442, 443, 1190, 1191, 1192, 1193, 1194, 1195, 1196, 1197, 1198, 1199, 1200, 1201, 1202] (by decide +kernel) (by decide +kernel)
set_option maxRecDepth 20000 in
theorem gL_law_X7_changedSince : GoodIn wsL_law (wsV RL 153 RX7 yX7_changedSince wsX7_changedSince) := goodIn_app (goodIn_of _ (by decide +kernel)) ggL_law_X7_changedSince
theorem hL_X7_changedSince : GoodIn vsL_law (wsV RL 153 RX7 yX7_changedSince wsX7_changedSince) := goodIn_vsL gL_law_X7_changedSince (by decide +kernel)
set_option maxRecDepth 20000 in
theorem ggL_law_L_type : GoodIn wsL_law wsL_type := goodIn_ca (goodIn_ca (goodIn_ca (goodIn_r _ [930, 200, 101, 931, 932, 933, 2, 934, 24, 935, 936, 937, 23, 938, 81, 110, 111, 112, 113, 114, 115, 116, 117, 118, 939, 940, 941, 942, 80, 62, 63, 1187, 1188, 1189, 1216, 1217, 1218, 1219, 1220, 1221, 1222] (by decide +kernel) (by decide +kernel)) (goodIn_sub (fun _ h => List.mem_append_left _ (List.mem_append_left _ (List.mem_append_right _ h))) (by decide +kernel))) (goodIn_sub (fun _ h => List.mem_append_left _ (List.mem_append_right _ h)) (by decide +kernel))) (goodIn_sub (fun _ h => List.mem_append_right _ h) (by decide +kernel))
set_option maxRecDepth 20000 in
theorem gL_law_L_type : GoodIn wsL_law (va_wsS RL 154 yL_type wsL_type) := goodIn_app (goodIn_of _ (by decide +kernel)) ggL_law_L_type
theorem hL_L_type : GoodIn vsL_law (va_wsS RL 154 yL_type wsL_type) := goodIn_vsL gL_law_L_type (by decide +kernel)
set_option maxRecDepth 20000 in
theorem ggL_law_X7_type : GoodIn wsL_law wsX7_type := goodIn_r _ [946, 191, 846, 94, 357, 358, 5, 359, 661, 662, 663, 664, 1190, 1191, 1192, 1193, 1194, 1195, 1196, 1197, 1198, 1199, 1200, 1201, 1202] (by decide +kernel) (by decide +kernel)
set_option maxRecDepth 20000 in
theorem gL_law_X7_type : GoodIn wsL_law (wsV RL 156 RX7 yX7_type wsX7_type) := goodIn_app (goodIn_of _ (by decide +kernel)) ggL_law_X7_type
theorem hL_X7_type : GoodIn vsL_law (wsV RL 156 RX7 yX7_type wsX7_type) := goodIn_vsL gL_law_X7_type (by decide +kernel)
