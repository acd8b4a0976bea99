set_option maxRecDepth 100000 in
theorem inX3 : ∀ w ∈ wsX30, w ∈ lw_tbl := by decide +kernel
set_option maxRecDepth 100000 in
theorem inX4 : ∀ w ∈ wsX40, w ∈ lw_tbl := by decide +kernel
set_option maxRecDepth 100000 in
theorem inX1 : ∀ w ∈ wsX10, w ∈ lw_tbl := by decide +kernel
set_option maxRecDepth 100000 in
theorem inX2 : ∀ w ∈ wsX20, w ∈ lw_tbl := by decide +kernel
set_option maxRecDepth 100000 in
theorem inX0 : ∀ w ∈ wsX00, w ∈ lw_tbl := by decide +kernel
set_option maxRecDepth 100000 in
theorem wsL_law_in : ∀ w ∈ wsL_law, w ∈ lw_tbl := List.forall_mem_append.mpr ⟨List.forall_mem_append.mpr ⟨List.forall_mem_append.mpr ⟨List.forall_mem_append.mpr ⟨List.forall_mem_append.mpr ⟨List.forall_mem_append.mpr ⟨List.forall_mem_append.mpr ⟨wsLr1, List.forall_mem_append.mpr ⟨wsLr2, List.forall_mem_append.mpr ⟨wsLr3, List.forall_mem_append.mpr ⟨wsLr4, List.forall_mem_append.mpr ⟨wsLr5, List.forall_mem_append.mpr ⟨wsLr6, List.forall_mem_append.mpr ⟨wsLr7, List.forall_mem_append.mpr ⟨wsLr8, List.forall_mem_append.mpr ⟨wsLr9, List.forall_mem_append.mpr ⟨wsLr10, List.forall_mem_append.mpr ⟨wsLr11, List.forall_mem_append.mpr ⟨wsLr12, List.forall_mem_append.mpr ⟨wsLr13, List.forall_mem_append.mpr ⟨wsLr14, List.forall_mem_append.mpr ⟨wsLr15, List.forall_mem_append.mpr ⟨wsLr16, List.forall_mem_append.mpr ⟨wsLr17, List.forall_mem_append.mpr ⟨wsLr18, List.forall_mem_append.mpr ⟨wsLr19, List.forall_mem_append.mpr ⟨wsLr20, List.forall_mem_append.mpr ⟨wsLr21, List.forall_mem_append.mpr ⟨wsLr22, List.forall_mem_append.mpr ⟨wsLr23, List.forall_mem_append.mpr ⟨wsLr24, List.forall_mem_append.mpr ⟨wsLr25, List.forall_mem_append.mpr ⟨wsLr26, List.forall_mem_append.mpr ⟨wsLr27, List.forall_mem_append.mpr ⟨wsLr28, List.forall_mem_append.mpr ⟨wsLr29, wsLr30⟩⟩⟩⟩⟩⟩⟩⟩⟩⟩⟩⟩⟩⟩⟩⟩⟩⟩⟩⟩⟩⟩⟩⟩⟩⟩⟩⟩⟩, inX3⟩, inX4⟩, inX1⟩, inX2⟩, inX0⟩, fun _ h => absurd h List.not_mem_nil⟩
