set_option maxRecDepth 20000 in
theorem mnK_X8_beginTask : ∀ q ∈ mnT_X8_beginTask, decode cX8_beginTask q.1 = .ok q.2 := by decide +kernel
set_option maxRecDepth 20000 in
theorem mnK_X8_fail : ∀ q ∈ mnT_X8_fail, decode cX8_fail q.1 = .ok q.2 := by decide +kernel
set_option maxRecDepth 20000 in
theorem mnK_X8_top : ∀ q ∈ mnT_X8_top, decode cX8_top q.1 = .ok q.2 := by decide +kernel
set_option maxRecDepth 20000 in
theorem mnK_X8_pop : ∀ q ∈ mnT_X8_pop, decode cX8_pop q.1 = .ok q.2 := by decide +kernel
set_option maxRecDepth 20000 in
theorem mnK_X8_push : ∀ q ∈ mnT_X8_push, decode cX8_push q.1 = .ok q.2 := by decide +kernel
set_option maxRecDepth 20000 in
theorem mnK_X8_reckon : ∀ q ∈ mnT_X8_reckon, decode cX8_reckon q.1 = .ok q.2 := by decide +kernel
set_option maxRecDepth 20000 in
theorem mnK_X8_holder : ∀ q ∈ mnT_X8_holder, decode cX8_holder q.1 = .ok q.2 := by decide +kernel
set_option maxRecDepth 20000 in
theorem mnK_X8_isJoin : ∀ q ∈ mnT_X8_isJoin, decode cX8_isJoin q.1 = .ok q.2 := by decide +kernel
set_option maxRecDepth 20000 in
theorem mnK_X8_waits : ∀ q ∈ mnT_X8_waits, decode cX8_waits q.1 = .ok q.2 := by decide +kernel
set_option maxRecDepth 20000 in
theorem mnK_X8_stepOne : ∀ q ∈ mnT_X8_stepOne, decode cX8_stepOne q.1 = .ok q.2 := by decide +kernel
set_option maxRecDepth 20000 in
theorem mnK_X8_simple : ∀ q ∈ mnT_X8_simple, decode cX8_simple q.1 = .ok q.2 := by decide +kernel
set_option maxRecDepth 20000 in
theorem mnK_X8_fork : ∀ q ∈ mnT_X8_fork, decode cX8_fork q.1 = .ok q.2 := by decide +kernel
set_option maxRecDepth 20000 in
theorem mnK_X8_join : ∀ q ∈ mnT_X8_join, decode cX8_join q.1 = .ok q.2 := by decide +kernel
set_option maxRecDepth 20000 in
theorem mnK_X8_bring : ∀ q ∈ mnT_X8_bring, decode cX8_bring q.1 = .ok q.2 := by decide +kernel
set_option maxRecDepth 20000 in
theorem mnK_X8_together : ∀ q ∈ mnT_X8_together, decode cX8_together q.1 = .ok q.2 := by decide +kernel
set_option maxRecDepth 20000 in
theorem mnK_X8_merged : ∀ q ∈ mnT_X8_merged, decode cX8_merged q.1 = .ok q.2 := by decide +kernel
set_option maxRecDepth 20000 in
theorem mnK_X8_step : ∀ q ∈ mnT_X8_step, decode cX8_step q.1 = .ok q.2 := by decide +kernel
set_option maxRecDepth 20000 in
theorem mnK_X8_go : ∀ q ∈ mnT_X8_go, decode cX8_go q.1 = .ok q.2 := by decide +kernel
set_option maxRecDepth 20000 in
theorem mnK_X8_canGoOn : ∀ q ∈ mnT_X8_canGoOn, decode cX8_canGoOn q.1 = .ok q.2 := by decide +kernel
set_option maxRecDepth 20000 in
theorem mnK_X8_choose : ∀ q ∈ mnT_X8_choose, decode cX8_choose q.1 = .ok q.2 := by decide +kernel
