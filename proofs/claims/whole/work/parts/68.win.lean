/-! ===== the law's words are in the tables ===== -/
set_option maxRecDepth 100000 in
theorem win_r1 : ∀ w ∈ wsL_law_0_r1, w ∈ lw_tbl := by decide +kernel
set_option maxRecDepth 100000 in
theorem win_r2 : ∀ w ∈ wsL_law_0_r2, w ∈ lw_tbl := by decide +kernel
set_option maxRecDepth 100000 in
theorem win_r3 : ∀ w ∈ wsL_law_0_r3, w ∈ lw_tbl := by decide +kernel
set_option maxRecDepth 100000 in
theorem win_r4 : ∀ w ∈ wsL_law_0_r4, w ∈ lw_tbl := by decide +kernel
set_option maxRecDepth 100000 in
theorem win_r5 : ∀ w ∈ wsL_law_0_r5, w ∈ lw_tbl := by decide +kernel
set_option maxRecDepth 100000 in
theorem win_r6 : ∀ w ∈ wsL_law_0_r6, w ∈ lw_tbl := by decide +kernel
set_option maxRecDepth 100000 in
theorem win_r7 : ∀ w ∈ wsL_law_0_r7, w ∈ lw_tbl := by decide +kernel
set_option maxRecDepth 100000 in
theorem win_r8 : ∀ w ∈ wsL_law_0_r8, w ∈ lw_tbl := by decide +kernel
set_option maxRecDepth 100000 in
theorem win_r9 : ∀ w ∈ wsL_law_0_r9, w ∈ lw_tbl := by decide +kernel
set_option maxRecDepth 100000 in
theorem win_r10 : ∀ w ∈ wsL_law_0_r10, w ∈ lw_tbl := by decide +kernel
set_option maxRecDepth 100000 in
theorem win_r11 : ∀ w ∈ wsL_law_0_r11, w ∈ lw_tbl := by decide +kernel
set_option maxRecDepth 100000 in
theorem win_r12 : ∀ w ∈ wsL_law_0_r12, w ∈ lw_tbl := by decide +kernel
set_option maxRecDepth 100000 in
theorem win_r13 : ∀ w ∈ wsL_law_0_r13, w ∈ lw_tbl := by decide +kernel
set_option maxRecDepth 100000 in
theorem win_r14 : ∀ w ∈ wsL_law_0_r14, w ∈ lw_tbl := by decide +kernel
set_option maxRecDepth 100000 in
theorem win_r15 : ∀ w ∈ wsL_law_0_r15, w ∈ lw_tbl := by decide +kernel
set_option maxRecDepth 100000 in
theorem win_r16 : ∀ w ∈ wsL_law_0_r16, w ∈ lw_tbl := by decide +kernel
set_option maxRecDepth 100000 in
theorem win_r17 : ∀ w ∈ wsL_law_0_r17, w ∈ lw_tbl := by decide +kernel
set_option maxRecDepth 100000 in
theorem win_r18 : ∀ w ∈ wsL_law_0_r18, w ∈ lw_tbl := by decide +kernel
set_option maxRecDepth 100000 in
theorem win_r19 : ∀ w ∈ wsL_law_0_r19, w ∈ lw_tbl := by decide +kernel
set_option maxRecDepth 100000 in
theorem win_r20 : ∀ w ∈ wsL_law_0_r20, w ∈ lw_tbl := by decide +kernel
set_option maxRecDepth 100000 in
theorem win_r21 : ∀ w ∈ wsL_law_0_r21, w ∈ lw_tbl := by decide +kernel
set_option maxRecDepth 100000 in
theorem win_r22 : ∀ w ∈ wsL_law_0_r22, w ∈ lw_tbl := by decide +kernel
set_option maxRecDepth 100000 in
theorem win_r23 : ∀ w ∈ wsL_law_0_r23, w ∈ lw_tbl := by decide +kernel
set_option maxRecDepth 100000 in
theorem win_r24 : ∀ w ∈ wsL_law_0_r24, w ∈ lw_tbl := by decide +kernel
set_option maxRecDepth 100000 in
theorem win_r25 : ∀ w ∈ wsL_law_0_r25, w ∈ lw_tbl := by decide +kernel
set_option maxRecDepth 100000 in
theorem win_r26 : ∀ w ∈ wsL_law_0_r26, w ∈ lw_tbl := by decide +kernel
set_option maxRecDepth 100000 in
theorem win_r27 : ∀ w ∈ wsL_law_0_r27, w ∈ lw_tbl := by decide +kernel
set_option maxRecDepth 100000 in
theorem win_r28 : ∀ w ∈ wsL_law_0_r28, w ∈ lw_tbl := by decide +kernel
set_option maxRecDepth 100000 in
theorem win_r29 : ∀ w ∈ wsL_law_0_r29, w ∈ lw_tbl := by decide +kernel
set_option maxRecDepth 100000 in
theorem win_r30 : ∀ w ∈ wsL_law_0_r30, w ∈ lw_tbl := by decide +kernel
set_option maxRecDepth 100000 in
theorem win_r31 : ∀ w ∈ wsL_law_0_r31, w ∈ lw_tbl := by decide +kernel
set_option maxRecDepth 100000 in
theorem win_r32 : ∀ w ∈ wsL_law_0_r32, w ∈ lw_tbl := by decide +kernel
set_option maxRecDepth 100000 in
theorem win_r33 : ∀ w ∈ wsL_law_0_r33, w ∈ lw_tbl := by decide +kernel
