set_option maxRecDepth 40000 in
theorem lwin_r1 : ∀ w ∈ wsL_law0_r1, w ∈ lw_tbl := by decide +kernel
set_option maxRecDepth 40000 in
theorem lwin_r2 : ∀ w ∈ wsL_law0_r2, w ∈ lw_tbl := by decide +kernel
set_option maxRecDepth 40000 in
theorem lwin_r3 : ∀ w ∈ wsL_law0_r3, w ∈ lw_tbl := by decide +kernel
set_option maxRecDepth 40000 in
theorem lwin_r4 : ∀ w ∈ wsL_law0_r4, w ∈ lw_tbl := by decide +kernel
set_option maxRecDepth 40000 in
theorem lwin_r5 : ∀ w ∈ wsL_law0_r5, w ∈ lw_tbl := by decide +kernel
set_option maxRecDepth 40000 in
theorem lwin_r6 : ∀ w ∈ wsL_law0_r6, w ∈ lw_tbl := by decide +kernel
set_option maxRecDepth 40000 in
theorem lwin_r7 : ∀ w ∈ wsL_law0_r7, w ∈ lw_tbl := by decide +kernel
set_option maxRecDepth 40000 in
theorem lwin_r8 : ∀ w ∈ wsL_law0_r8, w ∈ lw_tbl := by decide +kernel
set_option maxRecDepth 40000 in
theorem lwin_r9 : ∀ w ∈ wsL_law0_r9, w ∈ lw_tbl := by decide +kernel
set_option maxRecDepth 40000 in
theorem lwin_r10 : ∀ w ∈ wsL_law0_r10, w ∈ lw_tbl := by decide +kernel
set_option maxRecDepth 40000 in
theorem lwin_r11 : ∀ w ∈ wsL_law0_r11, w ∈ lw_tbl := by decide +kernel
set_option maxRecDepth 40000 in
theorem lwin_r12 : ∀ w ∈ wsL_law0_r12, w ∈ lw_tbl := by decide +kernel
set_option maxRecDepth 40000 in
theorem lwin_r13 : ∀ w ∈ wsL_law0_r13, w ∈ lw_tbl := by decide +kernel
set_option maxRecDepth 40000 in
theorem lwin_r14 : ∀ w ∈ wsL_law0_r14, w ∈ lw_tbl := by decide +kernel
set_option maxRecDepth 40000 in
theorem lwin_r15 : ∀ w ∈ wsL_law0_r15, w ∈ lw_tbl := by decide +kernel
set_option maxRecDepth 40000 in
theorem lwin_r16 : ∀ w ∈ wsL_law0_r16, w ∈ lw_tbl := by decide +kernel
set_option maxRecDepth 40000 in
theorem lwin_r17 : ∀ w ∈ wsL_law0_r17, w ∈ lw_tbl := by decide +kernel
set_option maxRecDepth 40000 in
theorem lwin_r18 : ∀ w ∈ wsL_law0_r18, w ∈ lw_tbl := by decide +kernel
set_option maxRecDepth 40000 in
theorem lwin_r19 : ∀ w ∈ wsL_law0_r19, w ∈ lw_tbl := by decide +kernel
set_option maxRecDepth 40000 in
theorem lwin_r20 : ∀ w ∈ wsL_law0_r20, w ∈ lw_tbl := by decide +kernel
set_option maxRecDepth 40000 in
theorem lwin_r21 : ∀ w ∈ wsL_law0_r21, w ∈ lw_tbl := by decide +kernel
set_option maxRecDepth 40000 in
theorem lwin_r22 : ∀ w ∈ wsL_law0_r22, w ∈ lw_tbl := by decide +kernel
set_option maxRecDepth 40000 in
theorem lwin_r23 : ∀ w ∈ wsL_law0_r23, w ∈ lw_tbl := by decide +kernel
set_option maxRecDepth 40000 in
theorem lwin_r24 : ∀ w ∈ wsL_law0_r24, w ∈ lw_tbl := by decide +kernel
theorem lwin_0 : ∀ w ∈ wsL_law0, w ∈ lw_tbl := List.forall_mem_append.mpr ⟨List.forall_mem_append.mpr ⟨List.forall_mem_append.mpr ⟨List.forall_mem_append.mpr ⟨List.forall_mem_append.mpr ⟨(List.forall_mem_append.mpr ⟨lwin_r1, (List.forall_mem_append.mpr ⟨lwin_r2, (List.forall_mem_append.mpr ⟨lwin_r3, (List.forall_mem_append.mpr ⟨lwin_r4, (List.forall_mem_append.mpr ⟨lwin_r5, (List.forall_mem_append.mpr ⟨lwin_r6, (List.forall_mem_append.mpr ⟨lwin_r7, (List.forall_mem_append.mpr ⟨lwin_r8, (List.forall_mem_append.mpr ⟨lwin_r9, (List.forall_mem_append.mpr ⟨lwin_r10, (List.forall_mem_append.mpr ⟨lwin_r11, (List.forall_mem_append.mpr ⟨lwin_r12, (List.forall_mem_append.mpr ⟨lwin_r13, (List.forall_mem_append.mpr ⟨lwin_r14, (List.forall_mem_append.mpr ⟨lwin_r15, (List.forall_mem_append.mpr ⟨lwin_r16, (List.forall_mem_append.mpr ⟨lwin_r17, (List.forall_mem_append.mpr ⟨lwin_r18, (List.forall_mem_append.mpr ⟨lwin_r19, (List.forall_mem_append.mpr ⟨lwin_r20, (List.forall_mem_append.mpr ⟨lwin_r21, (List.forall_mem_append.mpr ⟨lwin_r22, (List.forall_mem_append.mpr ⟨lwin_r23, lwin_r24⟩)⟩)⟩)⟩)⟩)⟩)⟩)⟩)⟩)⟩)⟩)⟩)⟩)⟩)⟩)⟩)⟩)⟩)⟩)⟩)⟩)⟩)⟩), inT2⟩, inT3⟩, inT0⟩, inT1⟩, fun _ h => absurd h List.not_mem_nil⟩
set_option maxRecDepth 40000 in
theorem lwin_x0 : ∀ w ∈ (vx_atS RX2 61 "java/lang/IllegalArgumentException" ["java/lang/RuntimeException", "java/lang/Exception"]).filter goodWord, w ∈ lw_tbl := by decide +kernel
set_option maxRecDepth 40000 in
theorem lwin_x1 : ∀ w ∈ (vx_atS RX2 68 "java/lang/IllegalStateException" ["java/lang/RuntimeException", "java/lang/Exception"]).filter goodWord, w ∈ lw_tbl := by decide +kernel
set_option maxRecDepth 40000 in
theorem lwin_x2 : ∀ w ∈ (vx_atS RX2 84 "java/lang/IndexOutOfBoundsException" ["java/lang/RuntimeException", "java/lang/Exception"]).filter goodWord, w ∈ lw_tbl := by decide +kernel
theorem lwin : ∀ w ∈ wsL_law, w ∈ lw_tbl := List.forall_mem_append.mpr ⟨List.forall_mem_append.mpr ⟨List.forall_mem_append.mpr ⟨lwin_0, lwin_x0⟩, lwin_x1⟩, lwin_x2⟩
