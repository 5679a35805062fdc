set_option maxRecDepth 20000 in
theorem wf_wsL_law0_r19 : ∀ w ∈ wsL_law0_r19, w ∈ lw_tbl := fun w h => (goodIn_r (wsL_law0_r19) [632, 633, 634, 635, 636, 637, 638, 640, 7, 641, 642, 643, 644, 645, 646, 647, 648, 650, 8, 651, 652, 653, 654, 655] rfl (by decide +kernel) w h).1
set_option maxRecDepth 20000 in
theorem wf_wsL_law0_r20 : ∀ w ∈ wsL_law0_r20, w ∈ lw_tbl := fun w h => (goodIn_r (wsL_law0_r20) [656, 657, 658, 659, 660, 661, 662, 663, 664, 665, 666, 667, 668, 669, 670, 671, 672, 673, 674, 675, 676, 677, 678, 679] rfl (by decide +kernel) w h).1
set_option maxRecDepth 20000 in
theorem wf_wsL_law0_r21 : ∀ w ∈ wsL_law0_r21, w ∈ lw_tbl := fun w h => (goodIn_r (wsL_law0_r21) [680, 681, 682, 683, 684, 686, 9, 687, 688, 690, 10, 691, 692, 693, 694, 695, 696, 697, 698, 699, 700, 701, 702, 703] rfl (by decide +kernel) w h).1
set_option maxRecDepth 20000 in
theorem wf_wsL_law0_r22 : ∀ w ∈ wsL_law0_r22, w ∈ lw_tbl := fun w h => (goodIn_r (wsL_law0_r22) [704, 705, 706, 707, 708, 709, 711, 11, 712, 713, 714, 715, 716, 717, 718, 719, 720, 721, 723, 12, 724, 725, 726, 727] rfl (by decide +kernel) w h).1
set_option maxRecDepth 20000 in
theorem wf_wsL_law0_r23 : ∀ w ∈ wsL_law0_r23, w ∈ lw_tbl := fun w h => (goodIn_r (wsL_law0_r23) [728, 729, 730, 731, 732, 733, 734, 735, 736, 737, 738, 739, 740, 741, 742, 743, 744, 745, 746, 747, 748, 750, 13, 751] rfl (by decide +kernel) w h).1
set_option maxRecDepth 20000 in
theorem wf_wsL_law0_r24 : ∀ w ∈ wsL_law0_r24, w ∈ lw_tbl := fun w h => (goodIn_r (wsL_law0_r24) [752, 753, 754, 755, 756, 757, 758, 759, 760, 761, 762, 763, 764, 765, 766, 767, 768, 769, 770, 771, 772, 773, 774, 775] rfl (by decide +kernel) w h).1
