theorem memapp {a b big : List Cond} (h1 : ∀ w ∈ a, w ∈ big) (h2 : ∀ w ∈ b, w ∈ big) : ∀ w ∈ a ++ b, w ∈ big := fun w h => (List.mem_append.mp h).elim (fun h => h1 w h) (fun h => h2 w h)
set_option maxRecDepth 20000 in
theorem wf_wsL_law0_r1 : ∀ w ∈ wsL_law0_r1, w ∈ lw_tbl := fun w h => (goodIn_r (wsL_law0_r1) [29, 30, 17, 344, 31, 32, 33, 34, 35, 36, 37, 38, 18, 174, 125, 126, 20, 175, 145, 146, 21, 176, 39, 40] (by decide +kernel) (by decide +kernel) w h).1
set_option maxRecDepth 20000 in
theorem wf_wsL_law0_r2 : ∀ w ∈ wsL_law0_r2, w ∈ lw_tbl := fun w h => (goodIn_r (wsL_law0_r2) [41, 42, 43, 44, 19, 94, 80, 95, 96, 97, 98, 99, 100, 101, 102, 103, 45, 46, 47, 48, 52, 53, 54, 55] (by decide +kernel) (by decide +kernel) w h).1
set_option maxRecDepth 20000 in
theorem wf_wsL_law0_r3 : ∀ w ∈ wsL_law0_r3, w ∈ lw_tbl := fun w h => (goodIn_r (wsL_law0_r3) [56, 57, 58, 59, 60, 50, 51, 82, 83, 84, 85, 87, 88, 89, 90, 91, 92, 127, 128, 129, 130, 131, 134, 135] (by decide +kernel) (by decide +kernel) w h).1
set_option maxRecDepth 20000 in
theorem wf_wsL_law0_r4 : ∀ w ∈ wsL_law0_r4, w ∈ lw_tbl := fun w h => (goodIn_r (wsL_law0_r4) [137, 133, 148, 149, 150, 151, 152, 154, 155, 156, 157, 158, 384, 385, 16, 386, 387, 388, 389, 390, 391, 392, 393, 394] (by decide +kernel) (by decide +kernel) w h).1
set_option maxRecDepth 20000 in
theorem wf_wsL_law0_r5 : ∀ w ∈ wsL_law0_r5, w ∈ lw_tbl := fun w h => (goodIn_r (wsL_law0_r5) [395, 396, 192, 193, 194, 195, 25, 263, 26, 279, 27, 397, 398, 399, 400, 401, 402, 403, 404, 405, 406, 407, 408, 409] (by decide +kernel) (by decide +kernel) w h).1
set_option maxRecDepth 20000 in
theorem wf_wsL_law0_r6 : ∀ w ∈ wsL_law0_r6, w ∈ lw_tbl := fun w h => (goodIn_r (wsL_law0_r6) [410, 316, 28, 317, 411, 412, 413, 414, 331, 332, 416, 417, 418, 419, 421, 422, 423, 424, 425, 426, 427, 428, 429, 430] (by decide +kernel) (by decide +kernel) w h).1
set_option maxRecDepth 20000 in
theorem wf_wsL_law0_r7 : ∀ w ∈ wsL_law0_r7, w ∈ lw_tbl := fun w h => (goodIn_r (wsL_law0_r7) [431, 432, 433, 434, 435, 436, 437, 438, 439, 440, 441, 442, 322, 323, 324, 325, 326, 327, 328, 329, 443, 444, 445, 446] (by decide +kernel) (by decide +kernel) w h).1
set_option maxRecDepth 20000 in
theorem wf_wsL_law0_r8 : ∀ w ∈ wsL_law0_r8, w ∈ lw_tbl := fun w h => (goodIn_r (wsL_law0_r8) [447, 448, 449, 450, 451, 452, 453, 454, 455, 456, 458, 4, 459, 460, 461, 462, 463, 465, 466, 467, 468, 469, 470, 471] (by decide +kernel) (by decide +kernel) w h).1
set_option maxRecDepth 20000 in
theorem wf_wsL_law0_r9 : ∀ w ∈ wsL_law0_r9, w ∈ lw_tbl := fun w h => (goodIn_r (wsL_law0_r9) [472, 473, 474, 475, 476, 477, 478, 479, 480, 481, 482, 483, 484, 485, 486, 487, 488, 489, 490, 491, 492, 493, 494, 495] (by decide +kernel) (by decide +kernel) w h).1
set_option maxRecDepth 20000 in
theorem wf_wsL_law0_r10 : ∀ w ∈ wsL_law0_r10, w ∈ lw_tbl := fun w h => (goodIn_r (wsL_law0_r10) [496, 497, 499, 5, 500, 501, 502, 503, 504, 505, 506, 507, 508, 509, 510, 511, 512, 513, 514, 515, 516, 517, 518, 519] (by decide +kernel) (by decide +kernel) w h).1
set_option maxRecDepth 20000 in
theorem wf_wsL_law0_r11 : ∀ w ∈ wsL_law0_r11, w ∈ lw_tbl := fun w h => (goodIn_r (wsL_law0_r11) [520, 521, 522, 523, 524, 525, 526, 527, 529, 530, 531, 532, 533, 534, 535, 536, 537, 538, 539, 540, 541, 542, 543, 544] (by decide +kernel) (by decide +kernel) w h).1
set_option maxRecDepth 20000 in
theorem wf_wsL_law0_r12 : ∀ w ∈ wsL_law0_r12, w ∈ lw_tbl := fun w h => (goodIn_r (wsL_law0_r12) [545, 546, 547, 548, 549, 550, 551, 552, 553, 554, 555, 556, 557, 558, 559, 560, 561, 562, 563, 564, 565, 348, 566, 567] (by decide +kernel) (by decide +kernel) w h).1
set_option maxRecDepth 20000 in
theorem wf_wsL_law0_r13 : ∀ w ∈ wsL_law0_r13, w ∈ lw_tbl := fun w h => (goodIn_r (wsL_law0_r13) [568, 569, 570, 571, 572, 573, 574, 575, 576, 577, 578, 579, 580, 581, 582, 583, 584, 585, 586, 587, 588, 589, 590, 591] (by decide +kernel) (by decide +kernel) w h).1
set_option maxRecDepth 20000 in
theorem wf_wsL_law0_r14 : ∀ w ∈ wsL_law0_r14, w ∈ lw_tbl := fun w h => (goodIn_r (wsL_law0_r14) [592, 593, 594, 595, 596, 597, 598, 599, 600, 601, 602, 603, 605, 6, 606, 373, 374, 375, 376, 377, 378, 379, 380, 381] (by decide +kernel) (by decide +kernel) w h).1
set_option maxRecDepth 20000 in
theorem wf_wsL_law0_r15 : ∀ w ∈ wsL_law0_r15, w ∈ lw_tbl := fun w h => (goodIn_r (wsL_law0_r15) [382, 383, 299, 301, 1, 302, 303, 304, 305, 306, 307, 308, 309, 310, 312, 313, 345, 346, 347, 349, 350, 351, 352, 353] (by decide +kernel) (by decide +kernel) w h).1
set_option maxRecDepth 20000 in
theorem wf_wsL_law0_r16 : ∀ w ∈ wsL_law0_r16, w ∈ lw_tbl := fun w h => (goodIn_r (wsL_law0_r16) [354, 355, 356, 295, 296, 297, 298, 315, 357, 358, 359, 360, 361, 363, 2, 364, 365, 366, 367, 368, 369, 371, 3, 372] (by decide +kernel) (by decide +kernel) w h).1
set_option maxRecDepth 20000 in
theorem wf_wsL_law0_r17 : ∀ w ∈ wsL_law0_r17, w ∈ lw_tbl := fun w h => (goodIn_r (wsL_law0_r17) [184, 185, 186, 187, 188, 189, 190, 191, 318, 319, 320, 321, 333, 334, 335, 336, 337, 338, 339, 340, 607, 608, 609, 610] (by decide +kernel) (by decide +kernel) w h).1
set_option maxRecDepth 20000 in
theorem wf_wsL_law0_r18 : ∀ w ∈ wsL_law0_r18, w ∈ lw_tbl := fun w h => (goodIn_r (wsL_law0_r18) [611, 341, 342, 343, 612, 613, 614, 615, 616, 617, 618, 619, 620, 621, 622, 623, 624, 625, 626, 627, 628, 629, 630, 631] (by decide +kernel) (by decide +kernel) w h).1
set_option maxRecDepth 20000 in
theorem wf_wsL_law0_r19 : ∀ w ∈ wsL_law0_r19, w ∈ lw_tbl := fun w h => (goodIn_r (wsL_law0_r19) [632, 633, 634, 635, 636, 637, 638, 640, 7, 641, 642, 643, 644, 645, 646, 647, 648, 650, 8, 651, 652, 653, 654, 655] (by decide +kernel) (by decide +kernel) w h).1
set_option maxRecDepth 20000 in
theorem wf_wsL_law0_r20 : ∀ w ∈ wsL_law0_r20, w ∈ lw_tbl := fun w h => (goodIn_r (wsL_law0_r20) [656, 657, 658, 659, 660, 661, 662, 663, 664, 665, 666, 667, 668, 669, 670, 671, 672, 673, 674, 675, 676, 677, 678, 679] (by decide +kernel) (by decide +kernel) w h).1
set_option maxRecDepth 20000 in
theorem wf_wsL_law0_r21 : ∀ w ∈ wsL_law0_r21, w ∈ lw_tbl := fun w h => (goodIn_r (wsL_law0_r21) [680, 681, 682, 683, 684, 686, 9, 687, 688, 690, 10, 691, 692, 693, 694, 695, 696, 697, 698, 699, 700, 701, 702, 703] (by decide +kernel) (by decide +kernel) w h).1
set_option maxRecDepth 20000 in
theorem wf_wsL_law0_r22 : ∀ w ∈ wsL_law0_r22, w ∈ lw_tbl := fun w h => (goodIn_r (wsL_law0_r22) [704, 705, 706, 707, 708, 709, 711, 11, 712, 713, 714, 715, 716, 717, 718, 719, 720, 721, 723, 12, 724, 725, 726, 727] (by decide +kernel) (by decide +kernel) w h).1
set_option maxRecDepth 20000 in
theorem wf_wsL_law0_r23 : ∀ w ∈ wsL_law0_r23, w ∈ lw_tbl := fun w h => (goodIn_r (wsL_law0_r23) [728, 729, 730, 731, 732, 733, 734, 735, 736, 737, 738, 739, 740, 741, 742, 743, 744, 745, 746, 747, 748, 750, 13, 751] (by decide +kernel) (by decide +kernel) w h).1
set_option maxRecDepth 20000 in
theorem wf_wsL_law0_r24 : ∀ w ∈ wsL_law0_r24, w ∈ lw_tbl := fun w h => (goodIn_r (wsL_law0_r24) [752, 753, 754, 755, 756, 757, 758, 759, 760, 761, 762, 763, 764, 765, 766, 767, 768, 769, 770, 771, 772, 773, 774, 775] (by decide +kernel) (by decide +kernel) w h).1
set_option maxRecDepth 20000 in
theorem wf_wsL_law0_r25 : ∀ w ∈ wsL_law0_r25, w ∈ lw_tbl := fun w h => (goodIn_r (wsL_law0_r25) [776, 777, 778, 779, 780, 781, 782, 784, 14, 785, 786, 787, 788, 789, 790, 791, 792, 793, 794, 795, 796, 797, 798, 799] (by decide +kernel) (by decide +kernel) w h).1
set_option maxRecDepth 20000 in
theorem wf_wsL_law0_r26 : ∀ w ∈ wsL_law0_r26, w ∈ lw_tbl := fun w h => (goodIn_r (wsL_law0_r26) [800, 801, 802, 803, 804, 805, 807, 15, 808, 809, 810, 811, 812, 813, 814, 815, 816, 817, 818, 819, 820, 821, 822, 823] (by decide +kernel) (by decide +kernel) w h).1
set_option maxRecDepth 20000 in
theorem wf_wsX60 : ∀ w ∈ wsX60, w ∈ lw_tbl := fun w h => (goodIn_r (wsX60) [177, 179, 181] (by decide +kernel) (by decide +kernel) w h).1
set_option maxRecDepth 20000 in
theorem wf_wsX40 : ∀ w ∈ wsX40, w ∈ lw_tbl := fun w h => (goodIn_r (wsX40) [104, 106, 108, 110, 112, 114, 116, 118, 120, 122] (by decide +kernel) (by decide +kernel) w h).1
set_option maxRecDepth 20000 in
theorem wf_wsX50 : ∀ w ∈ wsX50, w ∈ lw_tbl := fun w h => (goodIn_r (wsX50) [138, 140, 142] (by decide +kernel) (by decide +kernel) w h).1
set_option maxRecDepth 20000 in
theorem wf_wsX30 : ∀ w ∈ wsX30, w ∈ lw_tbl := fun w h => (goodIn_r (wsX30) [159, 161, 163, 165, 167, 169, 171] (by decide +kernel) (by decide +kernel) w h).1
set_option maxRecDepth 20000 in
theorem wf_wsX10 : ∀ w ∈ wsX10, w ∈ lw_tbl := fun w h => (goodIn_r (wsX10) [61, 63, 65, 67, 69, 71, 73, 75, 77] (by decide +kernel) (by decide +kernel) w h).1
theorem wf_law0 : ∀ w ∈ wsL_law0, w ∈ lw_tbl := (memapp (memapp (memapp (memapp (memapp (memapp (memapp wf_wsL_law0_r1 (memapp wf_wsL_law0_r2 (memapp wf_wsL_law0_r3 (memapp wf_wsL_law0_r4 (memapp wf_wsL_law0_r5 (memapp wf_wsL_law0_r6 (memapp wf_wsL_law0_r7 (memapp wf_wsL_law0_r8 (memapp wf_wsL_law0_r9 (memapp wf_wsL_law0_r10 (memapp wf_wsL_law0_r11 (memapp wf_wsL_law0_r12 (memapp wf_wsL_law0_r13 (memapp wf_wsL_law0_r14 (memapp wf_wsL_law0_r15 (memapp wf_wsL_law0_r16 (memapp wf_wsL_law0_r17 (memapp wf_wsL_law0_r18 (memapp wf_wsL_law0_r19 (memapp wf_wsL_law0_r20 (memapp wf_wsL_law0_r21 (memapp wf_wsL_law0_r22 (memapp wf_wsL_law0_r23 (memapp wf_wsL_law0_r24 (memapp wf_wsL_law0_r25 wf_wsL_law0_r26))))))))))))))))))))))))) wf_wsX60) wf_wsX40) wf_wsX50) wf_wsX30) wf_wsX10) (fun _ h => absurd h List.not_mem_nil))
set_option maxRecDepth 20000 in
theorem wf_J1 : ∀ w ∈ (vx_atS RX6 239 "java/lang/IndexOutOfBoundsException" ["java/lang/RuntimeException", "java/lang/Exception"]).filter goodWord, w ∈ lw_tbl := fun w h => (goodIn_of (big := lw_tbl) _ (by decide +kernel) w h).1
set_option maxRecDepth 20000 in
theorem wf_J2 : ∀ w ∈ (vx_atS RX6 246 "java/lang/IllegalArgumentException" ["java/lang/RuntimeException", "java/lang/Exception"]).filter goodWord, w ∈ lw_tbl := fun w h => (goodIn_of (big := lw_tbl) _ (by decide +kernel) w h).1
set_option maxRecDepth 20000 in
theorem wf_J3 : ∀ w ∈ (vx_atS RX6 251 "java/lang/IllegalStateException" ["java/lang/RuntimeException", "java/lang/Exception"]).filter goodWord, w ∈ lw_tbl := fun w h => (goodIn_of (big := lw_tbl) _ (by decide +kernel) w h).1
theorem wsL_law_in : ∀ w ∈ wsL_law, w ∈ lw_tbl := memapp (memapp (memapp wf_law0 wf_J1) wf_J2) wf_J3
