/-! The words of the class are words of the tables: its fields. -/
set_option maxRecDepth 100000 in
theorem gwi_X0 : ∀ v ∈ wsX00, v ∈ lw_tbl := by decide +kernel
set_option maxRecDepth 100000 in
theorem gwi_X1 : ∀ v ∈ wsX10, v ∈ lw_tbl := by decide +kernel
set_option maxRecDepth 100000 in
theorem gwi_X2 : ∀ v ∈ wsX20, v ∈ lw_tbl := by decide +kernel
theorem gw_in : ∀ v ∈ gw, v ∈ lw_tbl := List.forall_mem_append.mpr ⟨List.forall_mem_append.mpr ⟨gwi_0, List.forall_mem_append.mpr ⟨gwi_1, List.forall_mem_append.mpr ⟨gwi_2, List.forall_mem_append.mpr ⟨gwi_3, List.forall_mem_append.mpr ⟨gwi_4, List.forall_mem_append.mpr ⟨gwi_5, List.forall_mem_append.mpr ⟨gwi_6, List.forall_mem_append.mpr ⟨gwi_7, gwi_8⟩⟩⟩⟩⟩⟩⟩⟩, List.forall_mem_append.mpr ⟨gwi_X0, List.forall_mem_append.mpr ⟨gwi_X1, gwi_X2⟩⟩⟩
set_option maxRecDepth 100000 in
theorem gwi_x0 : ∀ v ∈ (vx_atS RX2 50 eA exN).filter goodWord, v ∈ lw_tbl := by decide +kernel
set_option maxRecDepth 100000 in
theorem gwi_x1 : ∀ v ∈ (vx_atS RX2 64 eS exN).filter goodWord, v ∈ lw_tbl := by decide +kernel
set_option maxRecDepth 100000 in
theorem gwi_x2 : ∀ v ∈ (vx_atS RX2 76 eI exN).filter goodWord, v ∈ lw_tbl := by decide +kernel
theorem gwx_in : ∀ v ∈ gwx, v ∈ lw_tbl := List.forall_mem_append.mpr ⟨gw_in, List.forall_mem_append.mpr ⟨gwi_x0, List.forall_mem_append.mpr ⟨gwi_x1, gwi_x2⟩⟩⟩

