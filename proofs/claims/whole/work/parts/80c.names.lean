set_option maxRecDepth 20000 in
theorem wl_r27 : ∀ w ∈ wsL_law_r27, w ∈ lw_tbl := fun w h => (goodIn_p wsL_law_r27 [557, 561, 566, 571, 576] (by decide +kernel) (by decide +kernel) w h).1
set_option maxRecDepth 20000 in
theorem wl_r28 : ∀ w ∈ wsL_law_r28, w ∈ lw_tbl := fun w h => (goodIn_p wsL_law_r28 [581, 849, 586] (by decide +kernel) (by decide +kernel) w h).1
set_option maxRecDepth 20000 in
theorem wl_r29 : ∀ w ∈ wsL_law_r29, w ∈ lw_tbl := fun w h => (goodIn_p wsL_law_r29 [859, 591, 863, 596, 867, 600] (by decide +kernel) (by decide +kernel) w h).1
set_option maxRecDepth 20000 in
theorem wl_r30 : ∀ w ∈ wsL_law_r30, w ∈ lw_tbl := fun w h => (goodIn_p wsL_law_r30 [871] (by decide +kernel) (by decide +kernel) w h).1
theorem lwu_X7 : ∀ w ∈ wsX70, w ∈ lw_tbl := by decide +kernel
theorem lwu_X8 : ∀ w ∈ wsX80, w ∈ lw_tbl := by decide +kernel
theorem lwu_X5 : ∀ w ∈ wsX50, w ∈ lw_tbl := by decide +kernel
theorem lwu_X6 : ∀ w ∈ wsX60, w ∈ lw_tbl := by decide +kernel
theorem lwu_X3 : ∀ w ∈ wsX30, w ∈ lw_tbl := by decide +kernel
theorem lwu_X4 : ∀ w ∈ wsX40, w ∈ lw_tbl := by decide +kernel
theorem lwu_X0 : ∀ w ∈ wsX00, w ∈ lw_tbl := by decide +kernel
theorem lwu_X1 : ∀ w ∈ wsX10, w ∈ lw_tbl := by decide +kernel
theorem lwu_X2 : ∀ w ∈ wsX20, w ∈ lw_tbl := by decide +kernel
theorem wsL_law_in : ∀ w ∈ wsL_law, w ∈ lw_tbl := (List.forall_mem_append.mpr ⟨(List.forall_mem_append.mpr ⟨(List.forall_mem_append.mpr ⟨(List.forall_mem_append.mpr ⟨(List.forall_mem_append.mpr ⟨(List.forall_mem_append.mpr ⟨(List.forall_mem_append.mpr ⟨(List.forall_mem_append.mpr ⟨(List.forall_mem_append.mpr ⟨(List.forall_mem_append.mpr ⟨(List.forall_mem_append.mpr ⟨wl_r1, (List.forall_mem_append.mpr ⟨wl_r2, (List.forall_mem_append.mpr ⟨wl_r3, (List.forall_mem_append.mpr ⟨wl_r4, (List.forall_mem_append.mpr ⟨wl_r5, (List.forall_mem_append.mpr ⟨wl_r6, (List.forall_mem_append.mpr ⟨wl_r7, (List.forall_mem_append.mpr ⟨wl_r8, (List.forall_mem_append.mpr ⟨wl_r9, (List.forall_mem_append.mpr ⟨wl_r10, (List.forall_mem_append.mpr ⟨wl_r11, (List.forall_mem_append.mpr ⟨wl_r12, (List.forall_mem_append.mpr ⟨wl_r13, (List.forall_mem_append.mpr ⟨wl_r14, (List.forall_mem_append.mpr ⟨wl_r15, (List.forall_mem_append.mpr ⟨wl_r16, (List.forall_mem_append.mpr ⟨wl_r17, (List.forall_mem_append.mpr ⟨wl_r18, (List.forall_mem_append.mpr ⟨wl_r19, (List.forall_mem_append.mpr ⟨wl_r20, (List.forall_mem_append.mpr ⟨wl_r21, (List.forall_mem_append.mpr ⟨wl_r22, (List.forall_mem_append.mpr ⟨wl_r23, (List.forall_mem_append.mpr ⟨wl_r24, (List.forall_mem_append.mpr ⟨wl_r25, (List.forall_mem_append.mpr ⟨wl_r26, (List.forall_mem_append.mpr ⟨wl_r27, (List.forall_mem_append.mpr ⟨wl_r28, (List.forall_mem_append.mpr ⟨wl_r29, wl_r30⟩)⟩)⟩)⟩)⟩)⟩)⟩)⟩)⟩)⟩)⟩)⟩)⟩)⟩)⟩)⟩)⟩)⟩)⟩)⟩)⟩)⟩)⟩)⟩)⟩)⟩)⟩)⟩)⟩), lwu_X7⟩), lwu_X8⟩), lwu_X5⟩), lwu_X6⟩), lwu_X3⟩), lwu_X4⟩), lwu_X0⟩), lwu_X1⟩), lwu_X2⟩), fun _ h => absurd h List.not_mem_nil⟩)
