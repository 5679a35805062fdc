set_option maxRecDepth 20000 in
theorem wf_wsL_law0_r7 : ∀ w ∈ wsL_law0_r7, w ∈ lw_tbl := fun w h => (goodIn_r (wsL_law0_r7) [431, 432, 433, 434, 435, 436, 437, 438, 439, 440, 441, 442, 322, 323, 324, 325, 326, 327, 328, 329, 443, 444, 445, 446] rfl (by decide +kernel) w h).1
set_option maxRecDepth 20000 in
theorem wf_wsL_law0_r8 : ∀ w ∈ wsL_law0_r8, w ∈ lw_tbl := fun w h => (goodIn_r (wsL_law0_r8) [447, 448, 449, 450, 451, 452, 453, 454, 455, 456, 458, 4, 459, 460, 461, 462, 463, 465, 466, 467, 468, 469, 470, 471] rfl (by decide +kernel) w h).1
set_option maxRecDepth 20000 in
theorem wf_wsL_law0_r9 : ∀ w ∈ wsL_law0_r9, w ∈ lw_tbl := fun w h => (goodIn_r (wsL_law0_r9) [472, 473, 474, 475, 476, 477, 478, 479, 480, 481, 482, 483, 484, 485, 486, 487, 488, 489, 490, 491, 492, 493, 494, 495] rfl (by decide +kernel) w h).1
set_option maxRecDepth 20000 in
theorem wf_wsL_law0_r10 : ∀ w ∈ wsL_law0_r10, w ∈ lw_tbl := fun w h => (goodIn_r (wsL_law0_r10) [496, 497, 499, 5, 500, 501, 502, 503, 504, 505, 506, 507, 508, 509, 510, 511, 512, 513, 514, 515, 516, 517, 518, 519] rfl (by decide +kernel) w h).1
set_option maxRecDepth 20000 in
theorem wf_wsL_law0_r11 : ∀ w ∈ wsL_law0_r11, w ∈ lw_tbl := fun w h => (goodIn_r (wsL_law0_r11) [520, 521, 522, 523, 524, 525, 526, 527, 529, 530, 531, 532, 533, 534, 535, 536, 537, 538, 539, 540, 541, 542, 543, 544] rfl (by decide +kernel) w h).1
set_option maxRecDepth 20000 in
theorem wf_wsL_law0_r12 : ∀ w ∈ wsL_law0_r12, w ∈ lw_tbl := fun w h => (goodIn_r (wsL_law0_r12) [545, 546, 547, 548, 549, 550, 551, 552, 553, 554, 555, 556, 557, 558, 559, 560, 561, 562, 563, 564, 565, 348, 566, 567] rfl (by decide +kernel) w h).1
