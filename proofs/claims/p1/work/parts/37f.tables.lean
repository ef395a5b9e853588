/-! The pool's words are words of the tables: all. -/
set_option maxRecDepth 100000 in
theorem gwi_wsX00 : ∀ v ∈ wsX00, v ∈ lw_tbl := by decide +kernel
set_option maxRecDepth 100000 in
theorem gwi_wsX10 : ∀ v ∈ wsX10, v ∈ lw_tbl := by decide +kernel
set_option maxRecDepth 100000 in
theorem gwi_wsX20 : ∀ v ∈ wsX20, v ∈ lw_tbl := by decide +kernel
set_option maxRecDepth 100000 in
theorem gwi_wsX50 : ∀ v ∈ wsX50, v ∈ lw_tbl := by decide +kernel
set_option maxRecDepth 100000 in
theorem gwi_wsJx4a65c0 : ∀ v ∈ wsJx4a65c0, v ∈ lw_tbl := by decide +kernel
set_option maxRecDepth 100000 in
theorem gwi_wsJx354110 : ∀ v ∈ wsJx354110, v ∈ lw_tbl := by decide +kernel
set_option maxRecDepth 100000 in
theorem gwi_wsX40 : ∀ v ∈ wsX40, v ∈ lw_tbl := by decide +kernel
set_option maxRecDepth 100000 in
theorem gwi_wsJ60 : ∀ v ∈ wsJ60, v ∈ lw_tbl := by decide +kernel
theorem gwi_gwl : ∀ v ∈ gwl, v ∈ lw_tbl := List.forall_mem_append.mpr ⟨gwi_0, List.forall_mem_append.mpr ⟨gwi_1, List.forall_mem_append.mpr ⟨gwi_2, List.forall_mem_append.mpr ⟨gwi_3, List.forall_mem_append.mpr ⟨gwi_4, List.forall_mem_append.mpr ⟨gwi_5, List.forall_mem_append.mpr ⟨gwi_6, List.forall_mem_append.mpr ⟨gwi_7, List.forall_mem_append.mpr ⟨gwi_8, List.forall_mem_append.mpr ⟨gwi_9, List.forall_mem_append.mpr ⟨gwi_10, List.forall_mem_append.mpr ⟨gwi_11, List.forall_mem_append.mpr ⟨gwi_12, gwi_13⟩⟩⟩⟩⟩⟩⟩⟩⟩⟩⟩⟩⟩
theorem gw_in : ∀ v ∈ gw, v ∈ lw_tbl := List.forall_mem_append.mpr ⟨gwi_gwl, List.forall_mem_append.mpr ⟨gwi_wsX00, List.forall_mem_append.mpr ⟨gwi_wsX10, List.forall_mem_append.mpr ⟨gwi_wsX20, List.forall_mem_append.mpr ⟨gwi_wsX50, List.forall_mem_append.mpr ⟨gwi_wsJx4a65c0, List.forall_mem_append.mpr ⟨gwi_wsJx354110, List.forall_mem_append.mpr ⟨gwi_wsX40, gwi_wsJ60⟩⟩⟩⟩⟩⟩⟩⟩
set_option maxRecDepth 100000 in
theorem gwi_x0 : ∀ v ∈ (vx_atS RX2 50 eA exN).filter goodWord, v ∈ lw_tbl := by decide +kernel
set_option maxRecDepth 100000 in
theorem gwi_x1 : ∀ v ∈ (vx_atS RX2 64 eS exN).filter goodWord, v ∈ lw_tbl := by decide +kernel
set_option maxRecDepth 100000 in
theorem gwi_x2 : ∀ v ∈ (vx_atS RX2 76 eI exN).filter goodWord, v ∈ lw_tbl := by decide +kernel
theorem gwx_in : ∀ v ∈ gwx, v ∈ lw_tbl := List.forall_mem_append.mpr ⟨gw_in, List.forall_mem_append.mpr ⟨gwi_x0, List.forall_mem_append.mpr ⟨gwi_x1, gwi_x2⟩⟩⟩
