set_option maxRecDepth 20000 in
theorem mnK_X8_run : ∀ q ∈ mnT_X8_run, decode cX8_run q.1 = .ok q.2 := by decide +kernel
set_option maxRecDepth 20000 in
theorem mnK_X8_isTask : ∀ q ∈ mnT_X8_isTask, decode cX8_isTask q.1 = .ok q.2 := by decide +kernel
set_option maxRecDepth 20000 in
theorem mnK_X8_task : ∀ q ∈ mnT_X8_task, decode cX8_task q.1 = .ok q.2 := by decide +kernel
set_option maxRecDepth 20000 in
theorem mnK_X8_tasks : ∀ q ∈ mnT_X8_tasks, decode cX8_tasks q.1 = .ok q.2 := by decide +kernel
set_option maxRecDepth 20000 in
theorem mnK_X8_read : ∀ q ∈ mnT_X8_read, decode cX8_read q.1 = .ok q.2 := by decide +kernel
set_option maxRecDepth 20000 in
theorem mnK_X8_print : ∀ q ∈ mnT_X8_print, decode cX8_print q.1 = .ok q.2 := by decide +kernel
set_option maxRecDepth 20000 in
theorem mnK_X8_count : ∀ q ∈ mnT_X8_count, decode cX8_count q.1 = .ok q.2 := by decide +kernel
set_option maxRecDepth 20000 in
theorem mnK_J6_bitCount_0f7a4 : ∀ q ∈ mnT_J6_bitCount_0f7a4, decode cJ6_bitCount_0f7a4 q.1 = .ok q.2 := by decide +kernel
set_option maxRecDepth 20000 in
theorem mnK_J9_min_7cf53 : ∀ q ∈ mnT_J9_min_7cf53, decode cJ9_min_7cf53 q.1 = .ok q.2 := by decide +kernel
set_option maxRecDepth 20000 in
theorem mnK_L_block : ∀ q ∈ mnT_L_block, decode cL_block q.1 = .ok q.2 := by decide +kernel
set_option maxRecDepth 20000 in
theorem mnK_L_add : ∀ q ∈ mnT_L_add, decode cL_add q.1 = .ok q.2 := by decide +kernel
set_option maxRecDepth 20000 in
theorem mnK_L_merge : ∀ q ∈ mnT_L_merge, decode cL_merge q.1 = .ok q.2 := by decide +kernel
set_option maxRecDepth 20000 in
theorem mnK_L_cell : ∀ q ∈ mnT_L_cell, decode cL_cell q.1 = .ok q.2 := by decide +kernel
set_option maxRecDepth 20000 in
theorem mnK_L_start : ∀ q ∈ mnT_L_start, decode cL_start q.1 = .ok q.2 := by decide +kernel
set_option maxRecDepth 20000 in
theorem mnK_L_step : ∀ q ∈ mnT_L_step, decode cL_step q.1 = .ok q.2 := by decide +kernel
set_option maxRecDepth 20000 in
theorem mnK_L_run : ∀ q ∈ mnT_L_run, decode cL_run q.1 = .ok q.2 := by decide +kernel
set_option maxRecDepth 20000 in
theorem mnK_L_task : ∀ q ∈ mnT_L_task, decode cL_task q.1 = .ok q.2 := by decide +kernel
set_option maxRecDepth 20000 in
theorem mnK_L_read : ∀ q ∈ mnT_L_read, decode cL_read q.1 = .ok q.2 := by decide +kernel
set_option maxRecDepth 20000 in
theorem mnK_L_print : ∀ q ∈ mnT_L_print, decode cL_print q.1 = .ok q.2 := by decide +kernel
set_option maxRecDepth 20000 in
theorem mnK_L_law : ∀ q ∈ mnT_L_law, decode cL_law q.1 = .ok q.2 := by decide +kernel
