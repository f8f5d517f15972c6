set_option maxRecDepth 100000 in
set_option maxHeartbeats 4000000 in
theorem in_cW_10 : ∀ w ∈ cW_10, w ∈ lw_tbl := by decide +kernel
set_option maxRecDepth 100000 in
set_option maxHeartbeats 4000000 in
theorem in_cW_11 : ∀ w ∈ cW_11, w ∈ lw_tbl := by decide +kernel
set_option maxRecDepth 100000 in
set_option maxHeartbeats 4000000 in
theorem in_cW_12 : ∀ w ∈ cW_12, w ∈ lw_tbl := by decide +kernel
set_option maxRecDepth 100000 in
set_option maxHeartbeats 4000000 in
theorem in_cW_13 : ∀ w ∈ cW_13, w ∈ lw_tbl := by decide +kernel
set_option maxRecDepth 100000 in
set_option maxHeartbeats 4000000 in
theorem in_cW_14 : ∀ w ∈ cW_14, w ∈ lw_tbl := by decide +kernel
set_option maxRecDepth 100000 in
set_option maxHeartbeats 4000000 in
theorem in_cW_15 : ∀ w ∈ cW_15, w ∈ lw_tbl := by decide +kernel
set_option maxRecDepth 100000 in
set_option maxHeartbeats 4000000 in
theorem in_cW_16 : ∀ w ∈ cW_16, w ∈ lw_tbl := by decide +kernel
set_option maxRecDepth 100000 in
set_option maxHeartbeats 4000000 in
theorem in_cW_17 : ∀ w ∈ cW_17, w ∈ lw_tbl := by decide +kernel
set_option maxRecDepth 100000 in
set_option maxHeartbeats 4000000 in
theorem in_cW_18 : ∀ w ∈ cW_18, w ∈ lw_tbl := by decide +kernel
set_option maxRecDepth 100000 in
set_option maxHeartbeats 4000000 in
theorem in_wsX00 : ∀ w ∈ wsX00, w ∈ lw_tbl := by decide +kernel
set_option maxRecDepth 100000 in
set_option maxHeartbeats 4000000 in
theorem in_wsX10 : ∀ w ∈ wsX10, w ∈ lw_tbl := by decide +kernel
set_option maxRecDepth 100000 in
set_option maxHeartbeats 4000000 in
theorem in_wsX20 : ∀ w ∈ wsX20, w ∈ lw_tbl := by decide +kernel
set_option maxRecDepth 100000 in
set_option maxHeartbeats 4000000 in
theorem in_wsX30 : ∀ w ∈ wsX30, w ∈ lw_tbl := by decide +kernel
set_option maxRecDepth 100000 in
set_option maxHeartbeats 4000000 in
theorem in_wsX40 : ∀ w ∈ wsX40, w ∈ lw_tbl := by decide +kernel
set_option maxRecDepth 100000 in
set_option maxHeartbeats 4000000 in
theorem in_wsX50 : ∀ w ∈ wsX50, w ∈ lw_tbl := by decide +kernel
set_option maxRecDepth 100000 in
set_option maxHeartbeats 4000000 in
theorem in_wsX60 : ∀ w ∈ wsX60, w ∈ lw_tbl := by decide +kernel
set_option maxRecDepth 100000 in
set_option maxHeartbeats 4000000 in
theorem in_wsX70 : ∀ w ∈ wsX70, w ∈ lw_tbl := by decide +kernel
set_option maxRecDepth 100000 in
set_option maxHeartbeats 4000000 in
theorem in_wsX80 : ∀ w ∈ wsX80, w ∈ lw_tbl := by decide +kernel
set_option maxRecDepth 100000 in
set_option maxHeartbeats 4000000 in
theorem in_wsX90 : ∀ w ∈ wsX90, w ∈ lw_tbl := by decide +kernel
set_option maxRecDepth 100000 in
set_option maxHeartbeats 4000000 in
theorem in_wsX100 : ∀ w ∈ wsX100, w ∈ lw_tbl := by decide +kernel
set_option maxRecDepth 100000 in
set_option maxHeartbeats 4000000 in
theorem in_wsX110 : ∀ w ∈ wsX110, w ∈ lw_tbl := by decide +kernel
theorem cW_tbl : ∀ w ∈ cW, w ∈ lw_tbl := List.forall_mem_append.mpr ⟨in_cW_0, List.forall_mem_append.mpr ⟨in_cW_1, List.forall_mem_append.mpr ⟨in_cW_2, List.forall_mem_append.mpr ⟨in_cW_3, List.forall_mem_append.mpr ⟨in_cW_4, List.forall_mem_append.mpr ⟨in_cW_5, List.forall_mem_append.mpr ⟨in_cW_6, List.forall_mem_append.mpr ⟨in_cW_7, List.forall_mem_append.mpr ⟨in_cW_8, List.forall_mem_append.mpr ⟨in_cW_9, List.forall_mem_append.mpr ⟨in_cW_10, List.forall_mem_append.mpr ⟨in_cW_11, List.forall_mem_append.mpr ⟨in_cW_12, List.forall_mem_append.mpr ⟨in_cW_13, List.forall_mem_append.mpr ⟨in_cW_14, List.forall_mem_append.mpr ⟨in_cW_15, List.forall_mem_append.mpr ⟨in_cW_16, List.forall_mem_append.mpr ⟨in_cW_17, List.forall_mem_append.mpr ⟨in_cW_18, List.forall_mem_append.mpr ⟨in_wsX00, List.forall_mem_append.mpr ⟨in_wsX10, List.forall_mem_append.mpr ⟨in_wsX20, List.forall_mem_append.mpr ⟨in_wsX30, List.forall_mem_append.mpr ⟨in_wsX40, List.forall_mem_append.mpr ⟨in_wsX50, List.forall_mem_append.mpr ⟨in_wsX60, List.forall_mem_append.mpr ⟨in_wsX70, List.forall_mem_append.mpr ⟨in_wsX80, List.forall_mem_append.mpr ⟨in_wsX90, List.forall_mem_append.mpr ⟨in_wsX100, in_wsX110⟩⟩⟩⟩⟩⟩⟩⟩⟩⟩⟩⟩⟩⟩⟩⟩⟩⟩⟩⟩⟩⟩⟩⟩⟩⟩⟩⟩⟩⟩
