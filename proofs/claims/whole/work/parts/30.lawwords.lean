theorem lwi_1 : ∀ w ∈ wsL_law0_r1, w ∈ lw_tbl := by decide +kernel
theorem lwi_2 : ∀ w ∈ wsL_law0_r2, w ∈ lw_tbl := by decide +kernel
theorem lwi_3 : ∀ w ∈ wsL_law0_r3, w ∈ lw_tbl := by decide +kernel
theorem lwi_4 : ∀ w ∈ wsL_law0_r4, w ∈ lw_tbl := by decide +kernel
theorem lwi_5 : ∀ w ∈ wsL_law0_r5, w ∈ lw_tbl := by decide +kernel
theorem lwi_6 : ∀ w ∈ wsL_law0_r6, w ∈ lw_tbl := by decide +kernel
theorem lwi_7 : ∀ w ∈ wsL_law0_r7, w ∈ lw_tbl := by decide +kernel
theorem lwi_8 : ∀ w ∈ wsL_law0_r8, w ∈ lw_tbl := by decide +kernel
theorem lwi_9 : ∀ w ∈ wsL_law0_r9, w ∈ lw_tbl := by decide +kernel
theorem lwi_10 : ∀ w ∈ wsL_law0_r10, w ∈ lw_tbl := by decide +kernel
theorem lwi_11 : ∀ w ∈ wsL_law0_r11, w ∈ lw_tbl := by decide +kernel
theorem lwi_12 : ∀ w ∈ wsL_law0_r12, w ∈ lw_tbl := by decide +kernel
theorem lwi_13 : ∀ w ∈ wsL_law0_r13, w ∈ lw_tbl := by decide +kernel
theorem lwi_14 : ∀ w ∈ wsL_law0_r14, w ∈ lw_tbl := by decide +kernel
theorem lwi_15 : ∀ w ∈ wsL_law0_r15, w ∈ lw_tbl := by decide +kernel
theorem lwi_16 : ∀ w ∈ wsL_law0_r16, w ∈ lw_tbl := by decide +kernel
theorem lwi_17 : ∀ w ∈ wsL_law0_r17, w ∈ lw_tbl := by decide +kernel
theorem lwi_18 : ∀ w ∈ wsL_law0_r18, w ∈ lw_tbl := by decide +kernel
theorem lwi_X0 : ∀ w ∈ wsX00, w ∈ lw_tbl := by decide +kernel
theorem lwi_X1 : ∀ w ∈ wsX10, w ∈ lw_tbl := by decide +kernel
theorem lw_ap {a b : List Cond} {P : Cond → Prop} (ha : ∀ w ∈ a, P w) (hb : ∀ w ∈ b, P w) : ∀ w ∈ a ++ b, P w := fun w h => (List.mem_append.mp h).elim (ha w) (hb w)
theorem wsL_law_in0 : ∀ w ∈ wsL_law0, w ∈ lw_tbl := lw_ap (lw_ap (lw_ap (lw_ap lwi_1 (lw_ap lwi_2 (lw_ap lwi_3 (lw_ap lwi_4 (lw_ap lwi_5 (lw_ap lwi_6 (lw_ap lwi_7 (lw_ap lwi_8 (lw_ap lwi_9 (lw_ap lwi_10 (lw_ap lwi_11 (lw_ap lwi_12 (lw_ap lwi_13 (lw_ap lwi_14 (lw_ap lwi_15 (lw_ap lwi_16 (lw_ap lwi_17 lwi_18))))))))))))))))) lwi_X0) lwi_X1) (fun _ h => absurd h List.not_mem_nil)
theorem wsL_law_x0 : ∀ w ∈ (vx_atS RX0 65 "java/lang/ArithmeticException" ["java/lang/RuntimeException", "java/lang/Exception"]).filter goodWord, w ∈ lw_tbl := by decide +kernel
theorem wsL_law_in : ∀ w ∈ wsL_law, w ∈ lw_tbl := fun w h => (List.mem_append.mp h).elim (fun h => wsL_law_in0 w h) (fun h => wsL_law_x0 w h)
theorem inlX0 : ∀ w ∈ wsX00, w ∈ wsL_law := fun _ h => List.mem_append_left _ (List.mem_append_left _ (List.mem_append_left _ (List.mem_append_right _ h)))
theorem inX0 : ∀ w ∈ wsX00, w ∈ lw_tbl := fun w h => wsL_law_in w (inlX0 w h)
theorem inlX1 : ∀ w ∈ wsX10, w ∈ wsL_law := fun _ h => List.mem_append_left _ (List.mem_append_left _ (List.mem_append_right _ h))
theorem inX1 : ∀ w ∈ wsX10, w ∈ lw_tbl := fun w h => wsL_law_in w (inlX1 w h)
theorem inJ9 : ∀ w ∈ wsJ90, w ∈ lw_tbl := by decide +kernel
theorem inJ0 : ∀ w ∈ wsJ00, w ∈ lw_tbl := by decide +kernel
theorem inJ10 : ∀ w ∈ wsJ100, w ∈ lw_tbl := by decide +kernel
