set_option maxRecDepth 20000 in
theorem wf_wsL_law0_r1 : ∀ w ∈ wsL_law0_r1, w ∈ lw_tbl := fun w h => (goodIn_r (wsL_law0_r1) [29, 30, 17, 344, 31, 32, 33, 34, 35, 36, 37, 38, 18, 174, 125, 126, 20, 175, 145, 146, 21, 176, 39, 40] rfl (by decide +kernel) w h).1
set_option maxRecDepth 20000 in
theorem wf_wsL_law0_r2 : ∀ w ∈ wsL_law0_r2, w ∈ lw_tbl := fun w h => (goodIn_r (wsL_law0_r2) [41, 42, 43, 44, 19, 94, 80, 95, 96, 97, 98, 99, 100, 101, 102, 103, 45, 46, 47, 48, 52, 53, 54, 55] rfl (by decide +kernel) w h).1
set_option maxRecDepth 20000 in
theorem wf_wsL_law0_r3 : ∀ w ∈ wsL_law0_r3, w ∈ lw_tbl := fun w h => (goodIn_r (wsL_law0_r3) [56, 57, 58, 59, 60, 50, 51, 82, 83, 84, 85, 87, 88, 89, 90, 91, 92, 127, 128, 129, 130, 131, 134, 135] rfl (by decide +kernel) w h).1
set_option maxRecDepth 20000 in
theorem wf_wsL_law0_r4 : ∀ w ∈ wsL_law0_r4, w ∈ lw_tbl := fun w h => (goodIn_r (wsL_law0_r4) [137, 133, 148, 149, 150, 151, 152, 154, 155, 156, 157, 158, 384, 385, 16, 386, 387, 388, 389, 390, 391, 392, 393, 394] rfl (by decide +kernel) w h).1
set_option maxRecDepth 20000 in
theorem wf_wsL_law0_r5 : ∀ w ∈ wsL_law0_r5, w ∈ lw_tbl := fun w h => (goodIn_r (wsL_law0_r5) [395, 396, 192, 193, 194, 195, 25, 263, 26, 279, 27, 397, 398, 399, 400, 401, 402, 403, 404, 405, 406, 407, 408, 409] rfl (by decide +kernel) w h).1
set_option maxRecDepth 20000 in
theorem wf_wsL_law0_r6 : ∀ w ∈ wsL_law0_r6, w ∈ lw_tbl := fun w h => (goodIn_r (wsL_law0_r6) [410, 316, 28, 317, 411, 412, 413, 414, 331, 332, 416, 417, 418, 419, 421, 422, 423, 424, 425, 426, 427, 428, 429, 430] rfl (by decide +kernel) w h).1
