set_option maxRecDepth 100000 in
set_option maxHeartbeats 4000000 in
theorem in_mW_0 : ∀ w ∈ mW_0, w ∈ lw_tbl := by decide +kernel
set_option maxRecDepth 100000 in
set_option maxHeartbeats 4000000 in
theorem in_mW_1 : ∀ w ∈ mW_1, w ∈ lw_tbl := by decide +kernel
set_option maxRecDepth 100000 in
set_option maxHeartbeats 4000000 in
theorem in_mW_2 : ∀ w ∈ mW_2, w ∈ lw_tbl := by decide +kernel
set_option maxRecDepth 100000 in
set_option maxHeartbeats 4000000 in
theorem in_mW_3 : ∀ w ∈ mW_3, w ∈ lw_tbl := by decide +kernel
set_option maxRecDepth 100000 in
set_option maxHeartbeats 4000000 in
theorem in_mW_4 : ∀ w ∈ mW_4, w ∈ lw_tbl := by decide +kernel
set_option maxRecDepth 100000 in
set_option maxHeartbeats 4000000 in
theorem in_mW_5 : ∀ w ∈ mW_5, w ∈ lw_tbl := by decide +kernel
set_option maxRecDepth 100000 in
set_option maxHeartbeats 4000000 in
theorem in_mW_6 : ∀ w ∈ mW_6, w ∈ lw_tbl := by decide +kernel
set_option maxRecDepth 100000 in
set_option maxHeartbeats 4000000 in
theorem in_mW_7 : ∀ w ∈ mW_7, w ∈ lw_tbl := by decide +kernel
set_option maxRecDepth 100000 in
set_option maxHeartbeats 4000000 in
theorem in_wsX120 : ∀ w ∈ wsX120, w ∈ lw_tbl := by decide +kernel
theorem mW_tbl : ∀ w ∈ mW, w ∈ lw_tbl := List.forall_mem_append.mpr ⟨in_mW_0, List.forall_mem_append.mpr ⟨in_mW_1, List.forall_mem_append.mpr ⟨in_mW_2, List.forall_mem_append.mpr ⟨in_mW_3, List.forall_mem_append.mpr ⟨in_mW_4, List.forall_mem_append.mpr ⟨in_mW_5, List.forall_mem_append.mpr ⟨in_mW_6, List.forall_mem_append.mpr ⟨in_mW_7, in_wsX120⟩⟩⟩⟩⟩⟩⟩⟩
theorem elW_tbl : ∀ w ∈ elW, w ∈ lw_tbl := by decide +kernel
