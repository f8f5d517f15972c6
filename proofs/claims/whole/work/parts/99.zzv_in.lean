set_option maxRecDepth 100000 in
set_option maxHeartbeats 4000000 in
theorem in_cW_0 : ∀ w ∈ cW_0, w ∈ lw_tbl := by decide +kernel
set_option maxRecDepth 100000 in
set_option maxHeartbeats 4000000 in
theorem in_cW_1 : ∀ w ∈ cW_1, w ∈ lw_tbl := by decide +kernel
set_option maxRecDepth 100000 in
set_option maxHeartbeats 4000000 in
theorem in_cW_2 : ∀ w ∈ cW_2, w ∈ lw_tbl := by decide +kernel
set_option maxRecDepth 100000 in
set_option maxHeartbeats 4000000 in
theorem in_cW_3 : ∀ w ∈ cW_3, w ∈ lw_tbl := by decide +kernel
set_option maxRecDepth 100000 in
set_option maxHeartbeats 4000000 in
theorem in_cW_4 : ∀ w ∈ cW_4, w ∈ lw_tbl := by decide +kernel
set_option maxRecDepth 100000 in
set_option maxHeartbeats 4000000 in
theorem in_cW_5 : ∀ w ∈ cW_5, w ∈ lw_tbl := by decide +kernel
set_option maxRecDepth 100000 in
set_option maxHeartbeats 4000000 in
theorem in_cW_6 : ∀ w ∈ cW_6, w ∈ lw_tbl := by decide +kernel
set_option maxRecDepth 100000 in
set_option maxHeartbeats 4000000 in
theorem in_cW_7 : ∀ w ∈ cW_7, w ∈ lw_tbl := by decide +kernel
set_option maxRecDepth 100000 in
set_option maxHeartbeats 4000000 in
theorem in_cW_8 : ∀ w ∈ cW_8, w ∈ lw_tbl := by decide +kernel
set_option maxRecDepth 100000 in
set_option maxHeartbeats 4000000 in
theorem in_cW_9 : ∀ w ∈ cW_9, w ∈ lw_tbl := by decide +kernel
