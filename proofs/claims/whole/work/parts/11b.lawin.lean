set_option maxRecDepth 20000 in
theorem in_wsL_law0_r26 : ∀ w ∈ wsL_law0_r26, w ∈ lw_tbl := by decide +kernel
set_option maxRecDepth 20000 in
theorem in_wsL_law0_r27 : ∀ w ∈ wsL_law0_r27, w ∈ lw_tbl := by decide +kernel
set_option maxRecDepth 20000 in
theorem in_wsL_law0_r28 : ∀ w ∈ wsL_law0_r28, w ∈ lw_tbl := by decide +kernel
set_option maxRecDepth 20000 in
theorem in_wsL_law0_r29 : ∀ w ∈ wsL_law0_r29, w ∈ lw_tbl := by decide +kernel
set_option maxRecDepth 20000 in
theorem in_wsL_law0_r30 : ∀ w ∈ wsL_law0_r30, w ∈ lw_tbl := by decide +kernel
set_option maxRecDepth 20000 in
theorem in_wsL_law0_r31 : ∀ w ∈ wsL_law0_r31, w ∈ lw_tbl := by decide +kernel
set_option maxRecDepth 20000 in
theorem in_wsL_law0_r32 : ∀ w ∈ wsL_law0_r32, w ∈ lw_tbl := by decide +kernel
set_option maxRecDepth 20000 in
theorem in_wsL_law0_r33 : ∀ w ∈ wsL_law0_r33, w ∈ lw_tbl := by decide +kernel
set_option maxRecDepth 20000 in
theorem in_wsL_law0_r34 : ∀ w ∈ wsL_law0_r34, w ∈ lw_tbl := by decide +kernel
set_option maxRecDepth 20000 in
theorem in_wsL_law0_r35 : ∀ w ∈ wsL_law0_r35, w ∈ lw_tbl := by decide +kernel
set_option maxRecDepth 20000 in
theorem in_wsL_law0_r36 : ∀ w ∈ wsL_law0_r36, w ∈ lw_tbl := by decide +kernel
set_option maxRecDepth 20000 in
theorem in_wsL_law0_r37 : ∀ w ∈ wsL_law0_r37, w ∈ lw_tbl := by decide +kernel
set_option maxRecDepth 20000 in
theorem in_wsL_law0_r38 : ∀ w ∈ wsL_law0_r38, w ∈ lw_tbl := by decide +kernel
set_option maxRecDepth 20000 in
theorem in_wsX00 : ∀ w ∈ wsX00, w ∈ lw_tbl := by decide +kernel
set_option maxRecDepth 20000 in
theorem in_wsX10 : ∀ w ∈ wsX10, w ∈ lw_tbl := by decide +kernel
set_option maxRecDepth 20000 in
theorem in_wsX20 : ∀ w ∈ wsX20, w ∈ lw_tbl := by decide +kernel
set_option maxRecDepth 20000 in
theorem in_wsX30 : ∀ w ∈ wsX30, w ∈ lw_tbl := by decide +kernel
set_option maxRecDepth 20000 in
theorem in_wsX40 : ∀ w ∈ wsX40, w ∈ lw_tbl := by decide +kernel
set_option maxRecDepth 20000 in
theorem in_wsX50 : ∀ w ∈ wsX50, w ∈ lw_tbl := by decide +kernel
set_option maxRecDepth 20000 in
theorem in_wsX60 : ∀ w ∈ wsX60, w ∈ lw_tbl := by decide +kernel
set_option maxRecDepth 20000 in
theorem in_wsX70 : ∀ w ∈ wsX70, w ∈ lw_tbl := by decide +kernel
set_option maxRecDepth 20000 in
theorem in_wsX80 : ∀ w ∈ wsX80, w ∈ lw_tbl := by decide +kernel
set_option maxRecDepth 20000 in
theorem in_lawx0 : ∀ w ∈ (vx_atS RX7 72 "java/lang/IllegalStateException" ["java/lang/RuntimeException", "java/lang/Exception"]).filter goodWord, w ∈ lw_tbl := by decide +kernel
set_option maxRecDepth 20000 in
theorem in_lawx1 : ∀ w ∈ (vx_atS RX7 150 "java/lang/IllegalArgumentException" ["java/lang/RuntimeException", "java/lang/Exception"]).filter goodWord, w ∈ lw_tbl := by decide +kernel
set_option maxRecDepth 20000 in
theorem in_lawx2 : ∀ w ∈ nse_words, w ∈ lw_tbl := by decide +kernel
set_option maxRecDepth 20000 in
theorem in_lawx3 : ∀ w ∈ (vx_atS RX7 245 "java/lang/IndexOutOfBoundsException" ["java/lang/RuntimeException", "java/lang/Exception"]).filter goodWord, w ∈ lw_tbl := by decide +kernel
theorem mem_app2 {a b c : List Cond} (h1 : ∀ w ∈ a, w ∈ c) (h2 : ∀ w ∈ b, w ∈ c) : ∀ w ∈ a ++ b, w ∈ c := fun w h => (List.mem_append.mp h).elim (h1 w) (h2 w)
theorem wsL_law_in0 : ∀ w ∈ wsL_law0, w ∈ lw_tbl := (mem_app2 (mem_app2 (mem_app2 (mem_app2 (mem_app2 (mem_app2 (mem_app2 (mem_app2 (mem_app2 (mem_app2 (mem_app2 in_wsL_law0_r1 (mem_app2 in_wsL_law0_r2 (mem_app2 in_wsL_law0_r3 (mem_app2 in_wsL_law0_r4 (mem_app2 in_wsL_law0_r5 (mem_app2 in_wsL_law0_r6 (mem_app2 in_wsL_law0_r7 (mem_app2 in_wsL_law0_r8 (mem_app2 in_wsL_law0_r9 (mem_app2 in_wsL_law0_r10 (mem_app2 in_wsL_law0_r11 (mem_app2 in_wsL_law0_r12 (mem_app2 in_wsL_law0_r13 (mem_app2 in_wsL_law0_r14 (mem_app2 in_wsL_law0_r15 (mem_app2 in_wsL_law0_r16 (mem_app2 in_wsL_law0_r17 (mem_app2 in_wsL_law0_r18 (mem_app2 in_wsL_law0_r19 (mem_app2 in_wsL_law0_r20 (mem_app2 in_wsL_law0_r21 (mem_app2 in_wsL_law0_r22 (mem_app2 in_wsL_law0_r23 (mem_app2 in_wsL_law0_r24 (mem_app2 in_wsL_law0_r25 (mem_app2 in_wsL_law0_r26 (mem_app2 in_wsL_law0_r27 (mem_app2 in_wsL_law0_r28 (mem_app2 in_wsL_law0_r29 (mem_app2 in_wsL_law0_r30 (mem_app2 in_wsL_law0_r31 (mem_app2 in_wsL_law0_r32 (mem_app2 in_wsL_law0_r33 (mem_app2 in_wsL_law0_r34 (mem_app2 in_wsL_law0_r35 (mem_app2 in_wsL_law0_r36 (mem_app2 in_wsL_law0_r37 (in_wsL_law0_r38)))))))))))))))))))))))))))))))))))))) in_wsX70) in_wsX80) in_wsX20) in_wsX60) in_wsX10) in_wsX50) in_wsX40) in_wsX30) in_wsX00) (fun _ h => absurd h List.not_mem_nil))
theorem wsL_law_in : ∀ w ∈ wsL_law, w ∈ lw_tbl := (mem_app2 (mem_app2 (mem_app2 (mem_app2 wsL_law_in0 in_lawx0) in_lawx1) in_lawx2) in_lawx3)
