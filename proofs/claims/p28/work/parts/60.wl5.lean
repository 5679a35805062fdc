set_option maxRecDepth 20000 in
theorem wf_wsL_law0_r25 : ∀ w ∈ wsL_law0_r25, w ∈ lw_tbl := fun w h => (goodIn_r (wsL_law0_r25) [776, 777, 778, 779, 780, 781, 782, 784, 14, 785, 786, 787, 788, 789, 790, 791, 792, 793, 794, 795, 796, 797, 798, 799] rfl (by decide +kernel) w h).1
set_option maxRecDepth 20000 in
theorem wf_wsL_law0_r26 : ∀ w ∈ wsL_law0_r26, w ∈ lw_tbl := fun w h => (goodIn_r (wsL_law0_r26) [800, 801, 802, 803, 804, 805, 807, 15, 808, 809, 810, 811, 812, 813, 814, 815, 816, 817, 818, 819, 820, 821, 822, 823] rfl (by decide +kernel) w h).1
