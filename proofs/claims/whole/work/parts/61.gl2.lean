set_option maxRecDepth 20000 in
theorem ggL_law_X7_get : GoodIn wsL_law wsX7_get := goodIn_r _ [657, 191, 658, 659, 5, 660, 357, 358, 359, 368, 369, 370, 371, 179, 180, 181, 182, 91, 183, 184, 185, 186, 505, 506, 507, 508, 372, 373, 374, 375, 376, 377, 378, 379, 380, 381, 382, 383, 384, 385, 386, 387, 388, 389, 390, 391, 440, 441, 442, 443, 661, 662, 663, 664, 1190, 1191, 1192, 1193, 1194, 1195, 1196, 1197, 1198, 1199, 1200, 1201, 1202] (by decide +kernel) (by decide +kernel)
set_option maxRecDepth 20000 in
theorem gL_law_X7_get : GoodIn wsL_law (wsV RL 116 RX7 yX7_get wsX7_get) := goodIn_app (goodIn_of _ (by decide +kernel)) ggL_law_X7_get
theorem hL_X7_get : GoodIn vsL_law (wsV RL 116 RX7 yX7_get wsX7_get) := goodIn_vsL gL_law_X7_get (by decide +kernel)
set_option maxRecDepth 20000 in
theorem ggL_law_L_drafted : GoodIn wsL_law wsL_drafted := goodIn_ca (goodIn_ca (goodIn_ca (goodIn_r _ [667, 200, 101, 668, 669, 670, 2, 671, 16, 672, 673, 674, 15, 675, 39, 209, 210, 110, 111, 112, 113, 114, 115, 116, 117, 118, 676, 472, 473, 474, 32, 40, 475, 476, 477, 31, 478, 479, 220, 221, 222, 223, 224, 225, 226, 49, 227, 228, 229, 230, 55, 231, 232, 233, 234, 53, 480, 247, 248, 249, 322, 323, 324, 325, 54, 1187, 1188, 1189, 1203, 1204, 1205, 1206, 1207, 1208, 1209, 1210, 1211, 1212, 1223, 1224, 1225, 1226, 1227, 1228, 1229, 1230, 1231] (by decide +kernel) (by decide +kernel)) (goodIn_sub (fun _ h => List.mem_append_left _ (List.mem_append_left _ (List.mem_append_right _ h))) (by decide +kernel))) (goodIn_sub (fun _ h => List.mem_append_left _ (List.mem_append_right _ h)) (by decide +kernel))) (goodIn_sub (fun _ h => List.mem_append_right _ h) (by decide +kernel))
set_option maxRecDepth 20000 in
theorem gL_law_L_drafted : GoodIn wsL_law (va_wsS RL 117 yL_drafted wsL_drafted) := goodIn_app (goodIn_of _ (by decide +kernel)) ggL_law_L_drafted
theorem hL_L_drafted : GoodIn vsL_law (va_wsS RL 117 yL_drafted wsL_drafted) := goodIn_vsL gL_law_L_drafted (by decide +kernel)
set_option maxRecDepth 20000 in
theorem ggL_law_X7_drafted : GoodIn wsL_law wsX7_drafted := goodIn_r _ [680, 91, 191, 658, 659, 5, 660, 357, 358, 359, 364, 365, 366, 367, 368, 369, 370, 371, 179, 180, 181, 182, 183, 184, 185, 186, 505, 506, 507, 508, 372, 373, 374, 375, 376, 377, 378, 379, 380, 381, 382, 383, 384, 385, 386, 387, 388, 389, 390, 391, 440, 441, 442, 443, 1190, 1191, 1192, 1193, 1194, 1195, 1196, 1197, 1198, 1199, 1200, 1201, 1202] (by decide +kernel) (by decide +kernel)
set_option maxRecDepth 20000 in
theorem gL_law_X7_drafted : GoodIn wsL_law (wsV RL 119 RX7 yX7_drafted wsX7_drafted) := goodIn_app (goodIn_of _ (by decide +kernel)) ggL_law_X7_drafted
theorem hL_X7_drafted : GoodIn vsL_law (wsV RL 119 RX7 yX7_drafted wsX7_drafted) := goodIn_vsL gL_law_X7_drafted (by decide +kernel)
set_option maxRecDepth 20000 in
theorem ggL_law_L_read : GoodIn wsL_law wsL_read := goodIn_ca (goodIn_ca (goodIn_ca (goodIn_r _ [683, 614, 200, 101, 684, 685, 686, 2, 687, 16, 688, 689, 690, 15, 691, 209, 210, 595, 596, 597, 598, 37, 153, 154, 110, 111, 112, 113, 114, 115, 116, 117, 118, 692, 693, 694, 695, 32, 38, 475, 476, 477, 31, 478, 479, 220, 221, 222, 223, 224, 225, 226, 49, 227, 228, 229, 230, 55, 231, 232, 233, 234, 53, 480, 247, 248, 249, 322, 323, 324, 325, 54, 1187, 1188, 1189, 1203, 1204, 1205, 1206, 1207, 1208, 1209, 1210, 1211, 1212, 1223, 1224, 1225, 1226, 1227, 1228, 1229, 1230, 1231] (by decide +kernel) (by decide +kernel)) (goodIn_sub (fun _ h => List.mem_append_left _ (List.mem_append_left _ (List.mem_append_right _ h))) (by decide +kernel))) (goodIn_sub (fun _ h => List.mem_append_left _ (List.mem_append_right _ h)) (by decide +kernel))) (goodIn_sub (fun _ h => List.mem_append_right _ h) (by decide +kernel))
set_option maxRecDepth 20000 in
theorem gL_law_L_read : GoodIn wsL_law (va_wsS RL 120 yL_read wsL_read) := goodIn_app (goodIn_of _ (by decide +kernel)) ggL_law_L_read
theorem hL_L_read : GoodIn vsL_law (va_wsS RL 120 yL_read wsL_read) := goodIn_vsL gL_law_L_read (by decide +kernel)
set_option maxRecDepth 20000 in
theorem ggL_law_X7_read : GoodIn wsL_law wsX7_read := goodIn_r _ [699, 191, 700, 701, 5, 702, 357, 358, 359, 658, 659, 660, 404, 405, 406, 407, 91, 505, 506, 507, 508, 372, 373, 374, 375, 376, 377, 378, 379, 380, 381, 382, 383, 384, 385, 386, 387, 388, 389, 390, 391, 440, 441, 442, 443, 1190, 1191, 1192, 1193, 1194, 1195, 1196, 1197, 1198, 1199, 1200, 1201, 1202] (by decide +kernel) (by decide +kernel)
set_option maxRecDepth 20000 in
theorem gL_law_X7_read : GoodIn wsL_law (wsV RL 122 RX7 yX7_read wsX7_read) := goodIn_app (goodIn_of _ (by decide +kernel)) ggL_law_X7_read
theorem hL_X7_read : GoodIn vsL_law (wsV RL 122 RX7 yX7_read wsX7_read) := goodIn_vsL gL_law_X7_read (by decide +kernel)
set_option maxRecDepth 20000 in
theorem ggL_law_L_entry : GoodIn wsL_law wsL_entry := goodIn_ca (goodIn_ca (goodIn_ca (goodIn_r _ [705, 614, 200, 706, 707, 708, 2, 709, 16, 710, 711, 712, 15, 713, 32, 145, 146, 147, 148, 35, 149, 150, 151, 152, 36, 34, 153, 154, 714, 715, 716, 31, 717, 223, 224, 225, 226, 49, 227, 228, 229, 230, 55, 718, 719, 720, 649, 209, 210, 110, 111, 112, 113, 114, 115, 116, 117, 118, 721, 722, 723, 724, 725, 726, 727, 728, 729, 730, 731, 732, 231, 232, 233, 234, 53, 322, 323, 324, 325, 54, 1187, 1188, 1189, 1203, 1204, 1205, 1206, 1207, 1208, 1209, 1210, 1211, 1212, 1223, 1224, 1225, 1226, 1227, 1228, 1229, 1230, 1231] (by decide +kernel) (by decide +kernel)) (goodIn_sub (fun _ h => List.mem_append_left _ (List.mem_append_left _ (List.mem_append_right _ h))) (by decide +kernel))) (goodIn_sub (fun _ h => List.mem_append_left _ (List.mem_append_right _ h)) (by decide +kernel))) (goodIn_sub (fun _ h => List.mem_append_right _ h) (by decide +kernel))
set_option maxRecDepth 20000 in
theorem gL_law_L_entry : GoodIn wsL_law (va_wsS RL 123 yL_entry wsL_entry) := goodIn_app (goodIn_of _ (by decide +kernel)) ggL_law_L_entry
theorem hL_L_entry : GoodIn vsL_law (va_wsS RL 123 yL_entry wsL_entry) := goodIn_vsL gL_law_L_entry (by decide +kernel)
set_option maxRecDepth 20000 in
theorem ggL_law_X7_entry : GoodIn wsL_law wsX7_entry := goodIn_r _ [736, 191, 368, 369, 370, 5, 371, 179, 180, 181, 182, 91, 183, 184, 185, 186, 737, 738, 739, 740, 376, 377, 378, 379, 380, 381, 382, 383, 357, 358, 359, 741, 742, 743, 744, 384, 385, 386, 387, 440, 441, 442, 443, 1190, 1191, 1192, 1193, 1194, 1195, 1196, 1197, 1198, 1199, 1200, 1201, 1202] (by decide +kernel) (by decide +kernel)
set_option maxRecDepth 20000 in
theorem gL_law_X7_entry : GoodIn wsL_law (wsV RL 125 RX7 yX7_entry wsX7_entry) := goodIn_app (goodIn_of _ (by decide +kernel)) ggL_law_X7_entry
theorem hL_X7_entry : GoodIn vsL_law (wsV RL 125 RX7 yX7_entry wsX7_entry) := goodIn_vsL gL_law_X7_entry (by decide +kernel)
set_option maxRecDepth 20000 in
theorem ggL_law_L_root : GoodIn wsL_law wsL_root := goodIn_ca (goodIn_ca (goodIn_ca (goodIn_r _ [747, 614, 200, 748, 749, 750, 2, 751, 16, 718, 719, 720, 649, 209, 210, 110, 111, 112, 113, 114, 115, 116, 117, 118, 752, 753, 754, 15, 755, 34, 35, 36, 153, 154, 149, 150, 151, 152, 243, 244, 1187, 1188, 1189, 1203, 1204, 1205, 1206, 1207, 1208, 1209, 1210, 1211, 1212] (by decide +kernel) (by decide +kernel)) (goodIn_sub (fun _ h => List.mem_append_left _ (List.mem_append_left _ (List.mem_append_right _ h))) (by decide +kernel))) (goodIn_sub (fun _ h => List.mem_append_left _ (List.mem_append_right _ h)) (by decide +kernel))) (goodIn_sub (fun _ h => List.mem_append_right _ h) (by decide +kernel))
set_option maxRecDepth 20000 in
theorem gL_law_L_root : GoodIn wsL_law (va_wsS RL 126 yL_root wsL_root) := goodIn_app (goodIn_of _ (by decide +kernel)) ggL_law_L_root
theorem hL_L_root : GoodIn vsL_law (va_wsS RL 126 yL_root wsL_root) := goodIn_vsL gL_law_L_root (by decide +kernel)
set_option maxRecDepth 20000 in
theorem ggL_law_X7_root : GoodIn wsL_law wsX7_root := goodIn_r _ [759, 191, 357, 358, 5, 359, 760, 761, 762, 763, 179, 180, 181, 182, 91, 183, 184, 185, 186, 1190, 1191, 1192, 1193, 1194, 1195, 1196, 1197, 1198, 1199, 1200, 1201, 1202] (by decide +kernel) (by decide +kernel)
set_option maxRecDepth 20000 in
theorem gL_law_X7_root : GoodIn wsL_law (wsV RL 128 RX7 yX7_root wsX7_root) := goodIn_app (goodIn_of _ (by decide +kernel)) ggL_law_X7_root
theorem hL_X7_root : GoodIn vsL_law (wsV RL 128 RX7 yX7_root wsX7_root) := goodIn_vsL gL_law_X7_root (by decide +kernel)
set_option maxRecDepth 20000 in
theorem ggL_law_L_reader : GoodIn wsL_law wsL_reader := goodIn_ca (goodIn_ca (goodIn_ca (goodIn_r _ [766, 614, 200, 767, 768, 769, 2, 770, 16, 718, 719, 720, 649, 209, 210, 110, 111, 112, 113, 114, 115, 116, 117, 118, 771, 772, 773, 15, 774, 37, 38, 32, 595, 596, 597, 598, 153, 154, 714, 715, 716, 31, 717, 223, 224, 225, 226, 49, 227, 228, 229, 230, 55, 1187, 1188, 1189, 1203, 1204, 1205, 1206, 1207, 1208, 1209, 1210, 1211, 1212, 1223, 1224, 1225, 1226, 1227, 1228, 1229, 1230, 1231] (by decide +kernel) (by decide +kernel)) (goodIn_sub (fun _ h => List.mem_append_left _ (List.mem_append_left _ (List.mem_append_right _ h))) (by decide +kernel))) (goodIn_sub (fun _ h => List.mem_append_left _ (List.mem_append_right _ h)) (by decide +kernel))) (goodIn_sub (fun _ h => List.mem_append_right _ h) (by decide +kernel))
set_option maxRecDepth 20000 in
theorem gL_law_L_reader : GoodIn wsL_law (va_wsS RL 129 yL_reader wsL_reader) := goodIn_app (goodIn_of _ (by decide +kernel)) ggL_law_L_reader
theorem hL_L_reader : GoodIn vsL_law (va_wsS RL 129 yL_reader wsL_reader) := goodIn_vsL gL_law_L_reader (by decide +kernel)
set_option maxRecDepth 20000 in
theorem ggL_law_X7_reader : GoodIn wsL_law wsX7_reader := goodIn_r _ [778, 191, 700, 701, 5, 702, 357, 358, 359, 779, 780, 781, 782, 404, 405, 406, 407, 91, 737, 738, 739, 740, 376, 377, 378, 379, 380, 381, 382, 383, 1190, 1191, 1192, 1193, 1194, 1195, 1196, 1197, 1198, 1199, 1200, 1201, 1202] (by decide +kernel) (by decide +kernel)
set_option maxRecDepth 20000 in
theorem gL_law_X7_reader : GoodIn wsL_law (wsV RL 131 RX7 yX7_reader wsX7_reader) := goodIn_app (goodIn_of _ (by decide +kernel)) ggL_law_X7_reader
theorem hL_X7_reader : GoodIn vsL_law (wsV RL 131 RX7 yX7_reader wsX7_reader) := goodIn_vsL gL_law_X7_reader (by decide +kernel)
set_option maxRecDepth 20000 in
theorem ggL_law_L_bed : GoodIn wsL_law wsL_bed := goodIn_ca (goodIn_ca (goodIn_ca (goodIn_r _ [785, 614, 200, 786, 787, 788, 2, 789, 16, 718, 719, 720, 649, 209, 210, 110, 111, 112, 113, 114, 115, 116, 117, 118, 790, 791, 792, 15, 793, 32, 255, 256, 257, 258, 259, 260, 261, 262, 263, 36, 34, 264, 124, 125, 126, 37, 794, 795, 796, 31, 797, 47, 48, 49, 50, 51, 153, 154, 269, 270, 271, 272, 243, 244, 1187, 1188, 1189, 1203, 1204, 1205, 1206, 1207, 1208, 1209, 1210, 1211, 1212, 1223, 1224, 1225, 1226, 1227, 1228, 1229, 1230, 1231] (by decide +kernel) (by decide +kernel)) (goodIn_sub (fun _ h => List.mem_append_left _ (List.mem_append_left _ (List.mem_append_right _ h))) (by decide +kernel))) (goodIn_sub (fun _ h => List.mem_append_left _ (List.mem_append_right _ h)) (by decide +kernel))) (goodIn_sub (fun _ h => List.mem_append_right _ h) (by decide +kernel))
set_option maxRecDepth 20000 in
theorem gL_law_L_bed : GoodIn wsL_law (va_wsS RL 132 yL_bed wsL_bed) := goodIn_app (goodIn_of _ (by decide +kernel)) ggL_law_L_bed
theorem hL_L_bed : GoodIn vsL_law (va_wsS RL 132 yL_bed wsL_bed) := goodIn_vsL gL_law_L_bed (by decide +kernel)
set_option maxRecDepth 20000 in
theorem ggL_law_X7_bed : GoodIn wsL_law wsX7_bed := goodIn_r _ [801, 191, 357, 358, 5, 359, 802, 803, 804, 805, 376, 377, 378, 379, 91, 396, 397, 398, 399, 400, 401, 402, 403, 179, 180, 181, 182, 183, 184, 185, 186, 404, 405, 406, 407, 1190, 1191, 1192, 1193, 1194, 1195, 1196, 1197, 1198, 1199, 1200, 1201, 1202] (by decide +kernel) (by decide +kernel)
set_option maxRecDepth 20000 in
theorem gL_law_X7_bed : GoodIn wsL_law (wsV RL 134 RX7 yX7_bed wsX7_bed) := goodIn_app (goodIn_of _ (by decide +kernel)) ggL_law_X7_bed
theorem hL_X7_bed : GoodIn vsL_law (wsV RL 134 RX7 yX7_bed wsX7_bed) := goodIn_vsL gL_law_X7_bed (by decide +kernel)
set_option maxRecDepth 20000 in
theorem ggL_law_L_whole : GoodIn wsL_law wsL_whole := goodIn_ca (goodIn_ca (goodIn_ca (goodIn_r _ [808, 200, 809, 810, 811, 2, 812, 24, 16, 649, 209, 210, 110, 111, 112, 113, 114, 115, 116, 117, 118, 813, 814, 815, 15, 816, 32, 39, 41, 42, 273, 274, 275, 31, 276, 47, 243, 244, 255, 256, 257, 258, 259, 260, 261, 262, 263, 36, 34, 264, 124, 125, 126, 37, 265, 266, 267, 268, 269, 270, 271, 272, 50, 817, 711, 712, 713, 145, 146, 147, 148, 35, 149, 150, 151, 152, 153, 154, 714, 715, 716, 717, 223, 224, 225, 226, 49, 227, 228, 229, 230, 55, 250, 818, 819, 820, 821, 595, 596, 597, 598, 822, 823, 824, 825, 51, 826, 827, 828, 829, 52, 830, 831, 832, 833, 834, 835, 836, 837, 322, 323, 324, 325, 54, 1187, 1188, 1189, 1216, 1217, 1218, 1219, 1220, 1221, 1222, 1203, 1204, 1205, 1206, 1207, 1208, 1209, 1210, 1211, 1212, 1223, 1224, 1225, 1226, 1227, 1228, 1229, 1230, 1231] (by decide +kernel) (by decide +kernel)) (goodIn_sub (fun _ h => List.mem_append_left _ (List.mem_append_left _ (List.mem_append_right _ h))) (by decide +kernel))) (goodIn_sub (fun _ h => List.mem_append_left _ (List.mem_append_right _ h)) (by decide +kernel))) (goodIn_sub (fun _ h => List.mem_append_right _ h) (by decide +kernel))
set_option maxRecDepth 20000 in
theorem gL_law_L_whole : GoodIn wsL_law (va_wsS RL 135 yL_whole wsL_whole) := goodIn_app (goodIn_of _ (by decide +kernel)) ggL_law_L_whole
theorem hL_L_whole : GoodIn vsL_law (va_wsS RL 135 yL_whole wsL_whole) := goodIn_vsL gL_law_L_whole (by decide +kernel)
set_option maxRecDepth 20000 in
theorem ggL_law_X7_whole : GoodIn wsL_law wsX7_whole := goodIn_r _ [841, 191, 357, 358, 5, 359, 842, 843, 844, 845, 91, 846, 847, 848, 849, 850, 376, 377, 378, 379, 635, 636, 637, 638, 396, 397, 398, 399, 400, 401, 402, 403, 179, 180, 181, 182, 183, 184, 185, 186, 404, 405, 406, 407, 368, 369, 370, 371, 737, 738, 739, 740, 380, 381, 382, 383, 851, 852, 853, 854, 855, 856, 857, 858, 741, 742, 743, 744, 384, 385, 386, 387, 440, 441, 442, 443, 661, 662, 663, 664, 1190, 1191, 1192, 1193, 1194, 1195, 1196, 1197, 1198, 1199, 1200, 1201, 1202] (by decide +kernel) (by decide +kernel)
set_option maxRecDepth 20000 in
theorem gL_law_X7_whole : GoodIn wsL_law (wsV RL 137 RX7 yX7_whole wsX7_whole) := goodIn_app (goodIn_of _ (by decide +kernel)) ggL_law_X7_whole
theorem hL_X7_whole : GoodIn vsL_law (wsV RL 137 RX7 yX7_whole wsX7_whole) := goodIn_vsL gL_law_X7_whole (by decide +kernel)
set_option maxRecDepth 20000 in
theorem ggL_law_X6_nextBed : GoodIn wsL_law wsX6_nextBed := goodIn_r _ [862, 16, 863, 864, 865, 15, 866, 32, 255, 256, 257, 258, 259, 260, 261, 262, 263, 36, 34, 264, 124, 125, 126, 37, 289, 290, 291, 31, 292, 50, 269, 270, 271, 272, 47, 293, 294, 295, 296, 1187, 1188, 1189, 1203, 1204, 1205, 1206, 1207, 1208, 1209, 1210, 1211, 1212, 1223, 1224, 1225, 1226, 1227, 1228, 1229, 1230, 1231] (by decide +kernel) (by decide +kernel)
set_option maxRecDepth 20000 in
theorem gL_law_X6_nextBed : GoodIn wsL_law (wsV RL 138 RX6 yX6_nextBed wsX6_nextBed) := goodIn_app (goodIn_of _ (by decide +kernel)) ggL_law_X6_nextBed
theorem hL_X6_nextBed : GoodIn vsL_law (wsV RL 138 RX6 yX6_nextBed wsX6_nextBed) := goodIn_vsL gL_law_X6_nextBed (by decide +kernel)
set_option maxRecDepth 20000 in
theorem ggL_law_X7_nextBed : GoodIn wsL_law wsX7_nextBed := goodIn_r _ [870, 191, 871, 872, 873, 5, 874, 416, 417, 418, 419, 396, 397, 398, 399, 376, 377, 378, 379, 91, 400, 401, 402, 403, 179, 180, 181, 182, 183, 184, 185, 186, 404, 405, 406, 407, 1190, 1191, 1192, 1193, 1194, 1195, 1196, 1197, 1198, 1199, 1200, 1201, 1202] (by decide +kernel) (by decide +kernel)
set_option maxRecDepth 20000 in
theorem gL_law_X7_nextBed : GoodIn wsL_law (wsV RL 141 RX7 yX7_nextBed wsX7_nextBed) := goodIn_app (goodIn_of _ (by decide +kernel)) ggL_law_X7_nextBed
theorem hL_X7_nextBed : GoodIn vsL_law (wsV RL 141 RX7 yX7_nextBed wsX7_nextBed) := goodIn_vsL gL_law_X7_nextBed (by decide +kernel)
