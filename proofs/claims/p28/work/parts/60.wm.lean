theorem memapp {a b big : List Cond} (h1 : ∀ w ∈ a, w ∈ big) (h2 : ∀ w ∈ b, w ∈ big) : ∀ w ∈ a ++ b, w ∈ big := fun w h => (List.mem_append.mp h).elim (fun h => h1 w h) (fun h => h2 w h)
set_option maxRecDepth 20000 in
theorem wf_wsX60 : ∀ w ∈ wsX60, w ∈ lw_tbl := fun w h => (goodIn_r (wsX60) [177, 179, 181] rfl (by decide +kernel) w h).1
set_option maxRecDepth 20000 in
theorem wf_wsX40 : ∀ w ∈ wsX40, w ∈ lw_tbl := fun w h => (goodIn_r (wsX40) [104, 106, 108, 110, 112, 114, 116, 118, 120, 122] rfl (by decide +kernel) w h).1
set_option maxRecDepth 20000 in
theorem wf_wsX50 : ∀ w ∈ wsX50, w ∈ lw_tbl := fun w h => (goodIn_r (wsX50) [138, 140, 142] rfl (by decide +kernel) w h).1
set_option maxRecDepth 20000 in
theorem wf_wsX30 : ∀ w ∈ wsX30, w ∈ lw_tbl := fun w h => (goodIn_r (wsX30) [159, 161, 163, 165, 167, 169, 171] rfl (by decide +kernel) w h).1
set_option maxRecDepth 20000 in
theorem wf_wsX10 : ∀ w ∈ wsX10, w ∈ lw_tbl := fun w h => (goodIn_r (wsX10) [61, 63, 65, 67, 69, 71, 73, 75, 77] rfl (by decide +kernel) w h).1
theorem wf_law0 : ∀ w ∈ wsL_law0, w ∈ lw_tbl := (memapp (memapp (memapp (memapp (memapp (memapp (memapp wf_wsL_law0_r1 (memapp wf_wsL_law0_r2 (memapp wf_wsL_law0_r3 (memapp wf_wsL_law0_r4 (memapp wf_wsL_law0_r5 (memapp wf_wsL_law0_r6 (memapp wf_wsL_law0_r7 (memapp wf_wsL_law0_r8 (memapp wf_wsL_law0_r9 (memapp wf_wsL_law0_r10 (memapp wf_wsL_law0_r11 (memapp wf_wsL_law0_r12 (memapp wf_wsL_law0_r13 (memapp wf_wsL_law0_r14 (memapp wf_wsL_law0_r15 (memapp wf_wsL_law0_r16 (memapp wf_wsL_law0_r17 (memapp wf_wsL_law0_r18 (memapp wf_wsL_law0_r19 (memapp wf_wsL_law0_r20 (memapp wf_wsL_law0_r21 (memapp wf_wsL_law0_r22 (memapp wf_wsL_law0_r23 (memapp wf_wsL_law0_r24 (memapp wf_wsL_law0_r25 wf_wsL_law0_r26))))))))))))))))))))))))) wf_wsX60) wf_wsX40) wf_wsX50) wf_wsX30) wf_wsX10) (fun _ h => absurd h List.not_mem_nil))
set_option maxRecDepth 20000 in
theorem wf_J1 : ∀ w ∈ (vx_atS RX6 239 "java/lang/IndexOutOfBoundsException" ["java/lang/RuntimeException", "java/lang/Exception"]).filter goodWord, w ∈ lw_tbl := fun w h => (goodIn_of (big := lw_tbl) _ (by decide +kernel) w h).1
set_option maxRecDepth 20000 in
theorem wf_J2 : ∀ w ∈ (vx_atS RX6 246 "java/lang/IllegalArgumentException" ["java/lang/RuntimeException", "java/lang/Exception"]).filter goodWord, w ∈ lw_tbl := fun w h => (goodIn_of (big := lw_tbl) _ (by decide +kernel) w h).1
set_option maxRecDepth 20000 in
theorem wf_J3 : ∀ w ∈ (vx_atS RX6 251 "java/lang/IllegalStateException" ["java/lang/RuntimeException", "java/lang/Exception"]).filter goodWord, w ∈ lw_tbl := fun w h => (goodIn_of (big := lw_tbl) _ (by decide +kernel) w h).1
theorem wsL_law_in : ∀ w ∈ wsL_law, w ∈ lw_tbl := memapp (memapp (memapp wf_law0 wf_J1) wf_J2) wf_J3
