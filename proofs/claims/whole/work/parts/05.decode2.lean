set_option maxRecDepth 20000 in
theorem mnK_X7_isWithin : ∀ q ∈ mnT_X7_isWithin, decode cX7_isWithin q.1 = .ok q.2 := by decide +kernel
set_option maxRecDepth 20000 in
theorem mnK_X8_init : ∀ q ∈ mnT_X8_init, decode cX8_init q.1 = .ok q.2 := by decide +kernel
set_option maxRecDepth 20000 in
theorem mnK_X8_thrown : ∀ q ∈ mnT_X8_thrown, decode cX8_thrown q.1 = .ok q.2 := by decide +kernel
set_option maxRecDepth 20000 in
theorem mnK_X8_in : ∀ q ∈ mnT_X8_in, decode cX8_in q.1 = .ok q.2 := by decide +kernel
set_option maxRecDepth 20000 in
theorem mnK_X8_beginPart : ∀ q ∈ mnT_X8_beginPart, decode cX8_beginPart q.1 = .ok q.2 := by decide +kernel
set_option maxRecDepth 20000 in
theorem mnK_X8_block : ∀ q ∈ mnT_X8_block, decode cX8_block q.1 = .ok q.2 := by decide +kernel
set_option maxRecDepth 20000 in
theorem mnK_X8_merge : ∀ q ∈ mnT_X8_merge, decode cX8_merge q.1 = .ok q.2 := by decide +kernel
set_option maxRecDepth 20000 in
theorem mnK_X8_add : ∀ q ∈ mnT_X8_add, decode cX8_add q.1 = .ok q.2 := by decide +kernel
set_option maxRecDepth 20000 in
theorem mnK_X8_cell : ∀ q ∈ mnT_X8_cell, decode cX8_cell q.1 = .ok q.2 := by decide +kernel
set_option maxRecDepth 20000 in
theorem mnK_X8_isArgument : ∀ q ∈ mnT_X8_isArgument, decode cX8_isArgument q.1 = .ok q.2 := by decide +kernel
set_option maxRecDepth 20000 in
theorem mnK_X8_takes : ∀ q ∈ mnT_X8_takes, decode cX8_takes q.1 = .ok q.2 := by decide +kernel
set_option maxRecDepth 20000 in
theorem mnK_X8_puts : ∀ q ∈ mnT_X8_puts, decode cX8_puts q.1 = .ok q.2 := by decide +kernel
set_option maxRecDepth 20000 in
theorem mnK_X8_goAllWays : ∀ q ∈ mnT_X8_goAllWays, decode cX8_goAllWays q.1 = .ok q.2 := by decide +kernel
set_option maxRecDepth 20000 in
theorem mnK_X8_reach : ∀ q ∈ mnT_X8_reach, decode cX8_reach q.1 = .ok q.2 := by decide +kernel
set_option maxRecDepth 20000 in
theorem mnK_X8_stackFault : ∀ q ∈ mnT_X8_stackFault, decode cX8_stackFault q.1 = .ok q.2 := by decide +kernel
set_option maxRecDepth 20000 in
theorem mnK_X8_faultOf : ∀ q ∈ mnT_X8_faultOf, decode cX8_faultOf q.1 = .ok q.2 := by decide +kernel
set_option maxRecDepth 20000 in
theorem mnK_X8_programFault : ∀ q ∈ mnT_X8_programFault, decode cX8_programFault q.1 = .ok q.2 := by decide +kernel
set_option maxRecDepth 20000 in
theorem mnK_X8_fault : ∀ q ∈ mnT_X8_fault, decode cX8_fault q.1 = .ok q.2 := by decide +kernel
set_option maxRecDepth 20000 in
theorem mnK_X8_start : ∀ q ∈ mnT_X8_start, decode cX8_start q.1 = .ok q.2 := by decide +kernel
set_option maxRecDepth 20000 in
theorem mnK_X8_reset : ∀ q ∈ mnT_X8_reset, decode cX8_reset q.1 = .ok q.2 := by decide +kernel
set_option maxRecDepth 20000 in
theorem mnK_X8_open : ∀ q ∈ mnT_X8_open, decode cX8_open q.1 = .ok q.2 := by decide +kernel
set_option maxRecDepth 20000 in
theorem mnK_X8_readAt : ∀ q ∈ mnT_X8_readAt, decode cX8_readAt q.1 = .ok q.2 := by decide +kernel
set_option maxRecDepth 20000 in
theorem mnK_X8_writeAt : ∀ q ∈ mnT_X8_writeAt, decode cX8_writeAt q.1 = .ok q.2 := by decide +kernel
set_option maxRecDepth 20000 in
theorem mnK_X8_isNeeded : ∀ q ∈ mnT_X8_isNeeded, decode cX8_isNeeded q.1 = .ok q.2 := by decide +kernel
set_option maxRecDepth 20000 in
theorem mnK_X8_tidy : ∀ q ∈ mnT_X8_tidy, decode cX8_tidy q.1 = .ok q.2 := by decide +kernel
