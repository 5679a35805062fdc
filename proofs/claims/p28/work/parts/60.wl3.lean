set_option maxRecDepth 20000 in
theorem wf_wsL_law0_r13 : ∀ w ∈ wsL_law0_r13, w ∈ lw_tbl := fun w h => (goodIn_r (wsL_law0_r13) [568, 569, 570, 571, 572, 573, 574, 575, 576, 577, 578, 579, 580, 581, 582, 583, 584, 585, 586, 587, 588, 589, 590, 591] rfl (by decide +kernel) w h).1
set_option maxRecDepth 20000 in
theorem wf_wsL_law0_r14 : ∀ w ∈ wsL_law0_r14, w ∈ lw_tbl := fun w h => (goodIn_r (wsL_law0_r14) [592, 593, 594, 595, 596, 597, 598, 599, 600, 601, 602, 603, 605, 6, 606, 373, 374, 375, 376, 377, 378, 379, 380, 381] rfl (by decide +kernel) w h).1
set_option maxRecDepth 20000 in
theorem wf_wsL_law0_r15 : ∀ w ∈ wsL_law0_r15, w ∈ lw_tbl := fun w h => (goodIn_r (wsL_law0_r15) [382, 383, 299, 301, 1, 302, 303, 304, 305, 306, 307, 308, 309, 310, 312, 313, 345, 346, 347, 349, 350, 351, 352, 353] rfl (by decide +kernel) w h).1
set_option maxRecDepth 20000 in
theorem wf_wsL_law0_r16 : ∀ w ∈ wsL_law0_r16, w ∈ lw_tbl := fun w h => (goodIn_r (wsL_law0_r16) [354, 355, 356, 295, 296, 297, 298, 315, 357, 358, 359, 360, 361, 363, 2, 364, 365, 366, 367, 368, 369, 371, 3, 372] rfl (by decide +kernel) w h).1
set_option maxRecDepth 20000 in
theorem wf_wsL_law0_r17 : ∀ w ∈ wsL_law0_r17, w ∈ lw_tbl := fun w h => (goodIn_r (wsL_law0_r17) [184, 185, 186, 187, 188, 189, 190, 191, 318, 319, 320, 321, 333, 334, 335, 336, 337, 338, 339, 340, 607, 608, 609, 610] rfl (by decide +kernel) w h).1
set_option maxRecDepth 20000 in
theorem wf_wsL_law0_r18 : ∀ w ∈ wsL_law0_r18, w ∈ lw_tbl := fun w h => (goodIn_r (wsL_law0_r18) [611, 341, 342, 343, 612, 613, 614, 615, 616, 617, 618, 619, 620, 621, 622, 623, 624, 625, 626, 627, 628, 629, 630, 631] rfl (by decide +kernel) w h).1
