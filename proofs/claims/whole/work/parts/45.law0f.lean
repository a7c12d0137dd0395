theorem wlu_wsX70 : ∀ w ∈ wsX70, w ∈ lw_tbl := by decide +kernel
theorem wlu_wsX80 : ∀ w ∈ wsX80, w ∈ lw_tbl := by decide +kernel
theorem wlu_wsX50 : ∀ w ∈ wsX50, w ∈ lw_tbl := by decide +kernel
theorem wlu_wsX60 : ∀ w ∈ wsX60, w ∈ lw_tbl := by decide +kernel
theorem wlu_wsX30 : ∀ w ∈ wsX30, w ∈ lw_tbl := by decide +kernel
theorem wlu_wsX20 : ∀ w ∈ wsX20, w ∈ lw_tbl := by decide +kernel
theorem wlu_wsX40 : ∀ w ∈ wsX40, w ∈ lw_tbl := by decide +kernel
theorem wlu_wsX10 : ∀ w ∈ wsX10, w ∈ lw_tbl := by decide +kernel
theorem wlu_wsX00 : ∀ w ∈ wsX00, w ∈ lw_tbl := by decide +kernel
theorem wsL_law_in : ∀ w ∈ wsL_law, w ∈ lw_tbl := List.forall_mem_append.mpr ⟨List.forall_mem_append.mpr ⟨List.forall_mem_append.mpr ⟨List.forall_mem_append.mpr ⟨List.forall_mem_append.mpr ⟨List.forall_mem_append.mpr ⟨List.forall_mem_append.mpr ⟨List.forall_mem_append.mpr ⟨List.forall_mem_append.mpr ⟨List.forall_mem_append.mpr ⟨List.forall_mem_append.mpr ⟨wlc_0, List.forall_mem_append.mpr ⟨wlc_1, List.forall_mem_append.mpr ⟨wlc_2, List.forall_mem_append.mpr ⟨wlc_3, List.forall_mem_append.mpr ⟨wlc_4, List.forall_mem_append.mpr ⟨wlc_5, List.forall_mem_append.mpr ⟨wlc_6, List.forall_mem_append.mpr ⟨wlc_7, List.forall_mem_append.mpr ⟨wlc_8, List.forall_mem_append.mpr ⟨wlc_9, List.forall_mem_append.mpr ⟨wlc_10, List.forall_mem_append.mpr ⟨wlc_11, List.forall_mem_append.mpr ⟨wlc_12, List.forall_mem_append.mpr ⟨wlc_13, List.forall_mem_append.mpr ⟨wlc_14, List.forall_mem_append.mpr ⟨wlc_15, List.forall_mem_append.mpr ⟨wlc_16, List.forall_mem_append.mpr ⟨wlc_17, List.forall_mem_append.mpr ⟨wlc_18, List.forall_mem_append.mpr ⟨wlc_19, List.forall_mem_append.mpr ⟨wlc_20, List.forall_mem_append.mpr ⟨wlc_21, List.forall_mem_append.mpr ⟨wlc_22, List.forall_mem_append.mpr ⟨wlc_23, List.forall_mem_append.mpr ⟨wlc_24, List.forall_mem_append.mpr ⟨wlc_25, List.forall_mem_append.mpr ⟨wlc_26, List.forall_mem_append.mpr ⟨wlc_27, List.forall_mem_append.mpr ⟨wlc_28, List.forall_mem_append.mpr ⟨wlc_29, List.forall_mem_append.mpr ⟨wlc_30, List.forall_mem_append.mpr ⟨wlc_31, List.forall_mem_append.mpr ⟨wlc_32, List.forall_mem_append.mpr ⟨wlc_33, List.forall_mem_append.mpr ⟨wlc_34, List.forall_mem_append.mpr ⟨wlc_35, wlc_36⟩⟩⟩⟩⟩⟩⟩⟩⟩⟩⟩⟩⟩⟩⟩⟩⟩⟩⟩⟩⟩⟩⟩⟩⟩⟩⟩⟩⟩⟩⟩⟩⟩⟩⟩⟩, wlu_wsX70⟩, wlu_wsX80⟩, wlu_wsX50⟩, wlu_wsX60⟩, wlu_wsX30⟩, wlu_wsX20⟩, wlu_wsX40⟩, wlu_wsX10⟩, wlu_wsX00⟩, fun _ h => absurd h List.not_mem_nil⟩
theorem inlX0 : ∀ w ∈ wsX00, w ∈ wsL_law := fun _ h => List.mem_append_left _ (List.mem_append_right _ h)
theorem inX0 : ∀ w ∈ wsX00, w ∈ lw_tbl := fun w h => wsL_law_in w (inlX0 w h)
theorem inlX1 : ∀ w ∈ wsX10, w ∈ wsL_law := fun _ h => List.mem_append_left _ (List.mem_append_left _ (List.mem_append_right _ h))
theorem inX1 : ∀ w ∈ wsX10, w ∈ lw_tbl := fun w h => wsL_law_in w (inlX1 w h)
theorem inlX2 : ∀ w ∈ wsX20, w ∈ wsL_law := fun _ h => List.mem_append_left _ (List.mem_append_left _ (List.mem_append_left _ (List.mem_append_left _ (List.mem_append_right _ h))))
theorem inX2 : ∀ w ∈ wsX20, w ∈ lw_tbl := fun w h => wsL_law_in w (inlX2 w h)
theorem inlX3 : ∀ w ∈ wsX30, w ∈ wsL_law := fun _ h => List.mem_append_left _ (List.mem_append_left _ (List.mem_append_left _ (List.mem_append_left _ (List.mem_append_left _ (List.mem_append_right _ h)))))
theorem inX3 : ∀ w ∈ wsX30, w ∈ lw_tbl := fun w h => wsL_law_in w (inlX3 w h)
theorem inlX4 : ∀ w ∈ wsX40, w ∈ wsL_law := fun _ h => List.mem_append_left _ (List.mem_append_left _ (List.mem_append_left _ (List.mem_append_right _ h)))
theorem inX4 : ∀ w ∈ wsX40, w ∈ lw_tbl := fun w h => wsL_law_in w (inlX4 w h)
theorem inlX5 : ∀ w ∈ wsX50, w ∈ wsL_law := fun _ h => List.mem_append_left _ (List.mem_append_left _ (List.mem_append_left _ (List.mem_append_left _ (List.mem_append_left _ (List.mem_append_left _ (List.mem_append_left _ (List.mem_append_right _ h)))))))
theorem inX5 : ∀ w ∈ wsX50, w ∈ lw_tbl := fun w h => wsL_law_in w (inlX5 w h)
theorem inlX6 : ∀ w ∈ wsX60, w ∈ wsL_law := fun _ h => List.mem_append_left _ (List.mem_append_left _ (List.mem_append_left _ (List.mem_append_left _ (List.mem_append_left _ (List.mem_append_left _ (List.mem_append_right _ h))))))
theorem inX6 : ∀ w ∈ wsX60, w ∈ lw_tbl := fun w h => wsL_law_in w (inlX6 w h)
theorem inlX7 : ∀ w ∈ wsX70, w ∈ wsL_law := fun _ h => List.mem_append_left _ (List.mem_append_left _ (List.mem_append_left _ (List.mem_append_left _ (List.mem_append_left _ (List.mem_append_left _ (List.mem_append_left _ (List.mem_append_left _ (List.mem_append_left _ (List.mem_append_right _ h)))))))))
theorem inX7 : ∀ w ∈ wsX70, w ∈ lw_tbl := fun w h => wsL_law_in w (inlX7 w h)
theorem inlX8 : ∀ w ∈ wsX80, w ∈ wsL_law := fun _ h => List.mem_append_left _ (List.mem_append_left _ (List.mem_append_left _ (List.mem_append_left _ (List.mem_append_left _ (List.mem_append_left _ (List.mem_append_left _ (List.mem_append_left _ (List.mem_append_right _ h))))))))
theorem inX8 : ∀ w ∈ wsX80, w ∈ lw_tbl := fun w h => wsL_law_in w (inlX8 w h)

