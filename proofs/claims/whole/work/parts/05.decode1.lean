set_option maxRecDepth 20000 in
theorem mnK_X6_hasBegun : ∀ q ∈ mnT_X6_hasBegun, decode cX6_hasBegun q.1 = .ok q.2 := by decide +kernel
set_option maxRecDepth 20000 in
theorem mnK_X6_hasTask : ∀ q ∈ mnT_X6_hasTask, decode cX6_hasTask q.1 = .ok q.2 := by decide +kernel
set_option maxRecDepth 20000 in
theorem mnK_X6_hasUnjoinedTask : ∀ q ∈ mnT_X6_hasUnjoinedTask, decode cX6_hasUnjoinedTask q.1 = .ok q.2 := by decide +kernel
set_option maxRecDepth 20000 in
theorem mnK_X6_forget : ∀ q ∈ mnT_X6_forget, decode cX6_forget q.1 = .ok q.2 := by decide +kernel
set_option maxRecDepth 20000 in
theorem mnK_X6_begin : ∀ q ∈ mnT_X6_begin, decode cX6_begin q.1 = .ok q.2 := by decide +kernel
set_option maxRecDepth 20000 in
theorem mnK_X6_openSegment : ∀ q ∈ mnT_X6_openSegment, decode cX6_openSegment q.1 = .ok q.2 := by decide +kernel
set_option maxRecDepth 20000 in
theorem mnK_X6_findReady : ∀ q ∈ mnT_X6_findReady, decode cX6_findReady q.1 = .ok q.2 := by decide +kernel
set_option maxRecDepth 20000 in
theorem mnK_X6_waits : ∀ q ∈ mnT_X6_waits, decode cX6_waits q.1 = .ok q.2 := by decide +kernel
set_option maxRecDepth 20000 in
theorem mnK_X6_advance : ∀ q ∈ mnT_X6_advance, decode cX6_advance q.1 = .ok q.2 := by decide +kernel
set_option maxRecDepth 20000 in
theorem mnK_X6_printTop : ∀ q ∈ mnT_X6_printTop, decode cX6_printTop q.1 = .ok q.2 := by decide +kernel
set_option maxRecDepth 20000 in
theorem mnK_X6_fork : ∀ q ∈ mnT_X6_fork, decode cX6_fork q.1 = .ok q.2 := by decide +kernel
set_option maxRecDepth 20000 in
theorem mnK_X6_join : ∀ q ∈ mnT_X6_join, decode cX6_join q.1 = .ok q.2 := by decide +kernel
set_option maxRecDepth 20000 in
theorem mnK_X6_joinHindrance : ∀ q ∈ mnT_X6_joinHindrance, decode cX6_joinHindrance q.1 = .ok q.2 := by decide +kernel
set_option maxRecDepth 20000 in
theorem mnK_X6_taskToJoin : ∀ q ∈ mnT_X6_taskToJoin, decode cX6_taskToJoin q.1 = .ok q.2 := by decide +kernel
set_option maxRecDepth 20000 in
theorem mnK_X6_heirOf : ∀ q ∈ mnT_X6_heirOf, decode cX6_heirOf q.1 = .ok q.2 := by decide +kernel
set_option maxRecDepth 20000 in
theorem mnK_X6_bringCells : ∀ q ∈ mnT_X6_bringCells, decode cX6_bringCells q.1 = .ok q.2 := by decide +kernel
set_option maxRecDepth 20000 in
theorem mnK_X6_together : ∀ q ∈ mnT_X6_together, decode cX6_together q.1 = .ok q.2 := by decide +kernel
set_option maxRecDepth 20000 in
theorem mnK_X6_layTogether : ∀ q ∈ mnT_X6_layTogether, decode cX6_layTogether q.1 = .ok q.2 := by decide +kernel
set_option maxRecDepth 20000 in
theorem mnK_X6_markNeeded : ∀ q ∈ mnT_X6_markNeeded, decode cX6_markNeeded q.1 = .ok q.2 := by decide +kernel
set_option maxRecDepth 20000 in
theorem mnK_X6_layAway : ∀ q ∈ mnT_X6_layAway, decode cX6_layAway q.1 = .ok q.2 := by decide +kernel
set_option maxRecDepth 20000 in
theorem mnK_X6_liveSegments : ∀ q ∈ mnT_X6_liveSegments, decode cX6_liveSegments q.1 = .ok q.2 := by decide +kernel
set_option maxRecDepth 20000 in
theorem mnK_X6_writtenCells : ∀ q ∈ mnT_X6_writtenCells, decode cX6_writtenCells q.1 = .ok q.2 := by decide +kernel
set_option maxRecDepth 20000 in
theorem mnK_X7_init : ∀ q ∈ mnT_X7_init, decode cX7_init q.1 = .ok q.2 := by decide +kernel
set_option maxRecDepth 20000 in
theorem mnK_X7_block : ∀ q ∈ mnT_X7_block, decode cX7_block q.1 = .ok q.2 := by decide +kernel
set_option maxRecDepth 20000 in
theorem mnK_X7_add : ∀ q ∈ mnT_X7_add, decode cX7_add q.1 = .ok q.2 := by decide +kernel
set_option maxRecDepth 20000 in
theorem mnK_X7_merge : ∀ q ∈ mnT_X7_merge, decode cX7_merge q.1 = .ok q.2 := by decide +kernel
set_option maxRecDepth 20000 in
theorem mnK_X7_cell : ∀ q ∈ mnT_X7_cell, decode cX7_cell q.1 = .ok q.2 := by decide +kernel
set_option maxRecDepth 20000 in
theorem mnK_X7_start : ∀ q ∈ mnT_X7_start, decode cX7_start q.1 = .ok q.2 := by decide +kernel
set_option maxRecDepth 20000 in
theorem mnK_X7_fault : ∀ q ∈ mnT_X7_fault, decode cX7_fault q.1 = .ok q.2 := by decide +kernel
set_option maxRecDepth 20000 in
theorem mnK_X7_reset : ∀ q ∈ mnT_X7_reset, decode cX7_reset q.1 = .ok q.2 := by decide +kernel
set_option maxRecDepth 20000 in
theorem mnK_X7_step : ∀ q ∈ mnT_X7_step, decode cX7_step q.1 = .ok q.2 := by decide +kernel
set_option maxRecDepth 20000 in
theorem mnK_X7_run : ∀ q ∈ mnT_X7_run, decode cX7_run q.1 = .ok q.2 := by decide +kernel
set_option maxRecDepth 20000 in
theorem mnK_X7_task : ∀ q ∈ mnT_X7_task, decode cX7_task q.1 = .ok q.2 := by decide +kernel
set_option maxRecDepth 20000 in
theorem mnK_X7_tasks : ∀ q ∈ mnT_X7_tasks, decode cX7_tasks q.1 = .ok q.2 := by decide +kernel
set_option maxRecDepth 20000 in
theorem mnK_X7_read : ∀ q ∈ mnT_X7_read, decode cX7_read q.1 = .ok q.2 := by decide +kernel
set_option maxRecDepth 20000 in
theorem mnK_X7_print : ∀ q ∈ mnT_X7_print, decode cX7_print q.1 = .ok q.2 := by decide +kernel
set_option maxRecDepth 20000 in
theorem mnK_X7_count : ∀ q ∈ mnT_X7_count, decode cX7_count q.1 = .ok q.2 := by decide +kernel
