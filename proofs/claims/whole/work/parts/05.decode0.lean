set_option maxRecDepth 20000 in
theorem mnK_X0_init : ∀ q ∈ mnT_X0_init, decode cX0_init q.1 = .ok q.2 := by decide +kernel
set_option maxRecDepth 20000 in
theorem mnK_X0_faultIn : ∀ q ∈ mnT_X0_faultIn, decode cX0_faultIn q.1 = .ok q.2 := by decide +kernel
set_option maxRecDepth 20000 in
theorem mnK_X0_isAsSaid : ∀ q ∈ mnT_X0_isAsSaid, decode cX0_isAsSaid q.1 = .ok q.2 := by decide +kernel
set_option maxRecDepth 20000 in
theorem mnK_X0_goAllWays : ∀ q ∈ mnT_X0_goAllWays, decode cX0_goAllWays q.1 = .ok q.2 := by decide +kernel
set_option maxRecDepth 20000 in
theorem mnK_X0_goOn : ∀ q ∈ mnT_X0_goOn, decode cX0_goOn q.1 = .ok q.2 := by decide +kernel
set_option maxRecDepth 20000 in
theorem mnK_X0_reach : ∀ q ∈ mnT_X0_reach, decode cX0_reach q.1 = .ok q.2 := by decide +kernel
set_option maxRecDepth 20000 in
theorem mnK_X1_init : ∀ q ∈ mnT_X1_init, decode cX1_init q.1 = .ok q.2 := by decide +kernel
set_option maxRecDepth 20000 in
theorem mnK_X1_isFull : ∀ q ∈ mnT_X1_isFull, decode cX1_isFull q.1 = .ok q.2 := by decide +kernel
set_option maxRecDepth 20000 in
theorem mnK_X1_append : ∀ q ∈ mnT_X1_append, decode cX1_append q.1 = .ok q.2 := by decide +kernel
set_option maxRecDepth 20000 in
theorem mnK_X1_operationAt : ∀ q ∈ mnT_X1_operationAt, decode cX1_operationAt q.1 = .ok q.2 := by decide +kernel
set_option maxRecDepth 20000 in
theorem mnK_X1_argumentAt : ∀ q ∈ mnT_X1_argumentAt, decode cX1_argumentAt q.1 = .ok q.2 := by decide +kernel
set_option maxRecDepth 20000 in
theorem mnK_X2_init : ∀ q ∈ mnT_X2_init, decode cX2_init q.1 = .ok q.2 := by decide +kernel
set_option maxRecDepth 20000 in
theorem mnK_X2_begin : ∀ q ∈ mnT_X2_begin, decode cX2_begin q.1 = .ok q.2 := by decide +kernel
set_option maxRecDepth 20000 in
theorem mnK_X2_operation : ∀ q ∈ mnT_X2_operation, decode cX2_operation q.1 = .ok q.2 := by decide +kernel
set_option maxRecDepth 20000 in
theorem mnK_X2_argument : ∀ q ∈ mnT_X2_argument, decode cX2_argument q.1 = .ok q.2 := by decide +kernel
set_option maxRecDepth 20000 in
theorem mnK_X2_moveOn : ∀ q ∈ mnT_X2_moveOn, decode cX2_moveOn q.1 = .ok q.2 := by decide +kernel
set_option maxRecDepth 20000 in
theorem mnK_X2_push : ∀ q ∈ mnT_X2_push, decode cX2_push q.1 = .ok q.2 := by decide +kernel
set_option maxRecDepth 20000 in
theorem mnK_X2_pop : ∀ q ∈ mnT_X2_pop, decode cX2_pop q.1 = .ok q.2 := by decide +kernel
set_option maxRecDepth 20000 in
theorem mnK_X2_top : ∀ q ∈ mnT_X2_top, decode cX2_top q.1 = .ok q.2 := by decide +kernel
set_option maxRecDepth 20000 in
theorem mnK_X2_go : ∀ q ∈ mnT_X2_go, decode cX2_go q.1 = .ok q.2 := by decide +kernel
set_option maxRecDepth 20000 in
theorem mnK_X2_reckon : ∀ q ∈ mnT_X2_reckon, decode cX2_reckon q.1 = .ok q.2 := by decide +kernel
set_option maxRecDepth 20000 in
theorem mnK_X2_outcome : ∀ q ∈ mnT_X2_outcome, decode cX2_outcome q.1 = .ok q.2 := by decide +kernel
set_option maxRecDepth 20000 in
theorem mnK_X3_init : ∀ q ∈ mnT_X3_init, decode cX3_init q.1 = .ok q.2 := by decide +kernel
set_option maxRecDepth 20000 in
theorem mnK_X3_canBeginBlock : ∀ q ∈ mnT_X3_canBeginBlock, decode cX3_canBeginBlock q.1 = .ok q.2 := by decide +kernel
set_option maxRecDepth 20000 in
theorem mnK_X3_beginBlock : ∀ q ∈ mnT_X3_beginBlock, decode cX3_beginBlock q.1 = .ok q.2 := by decide +kernel
set_option maxRecDepth 20000 in
theorem mnK_X3_canBeginMerge : ∀ q ∈ mnT_X3_canBeginMerge, decode cX3_canBeginMerge q.1 = .ok q.2 := by decide +kernel
set_option maxRecDepth 20000 in
theorem mnK_X3_beginMerge : ∀ q ∈ mnT_X3_beginMerge, decode cX3_beginMerge q.1 = .ok q.2 := by decide +kernel
set_option maxRecDepth 20000 in
theorem mnK_X3_blockAt : ∀ q ∈ mnT_X3_blockAt, decode cX3_blockAt q.1 = .ok q.2 := by decide +kernel
set_option maxRecDepth 20000 in
theorem mnK_X3_hasRoom : ∀ q ∈ mnT_X3_hasRoom, decode cX3_hasRoom q.1 = .ok q.2 := by decide +kernel
set_option maxRecDepth 20000 in
theorem mnK_X3_mergeOf : ∀ q ∈ mnT_X3_mergeOf, decode cX3_mergeOf q.1 = .ok q.2 := by decide +kernel
set_option maxRecDepth 20000 in
theorem mnK_X3_lacksMerge : ∀ q ∈ mnT_X3_lacksMerge, decode cX3_lacksMerge q.1 = .ok q.2 := by decide +kernel
set_option maxRecDepth 20000 in
theorem mnK_X3_firstFault : ∀ q ∈ mnT_X3_firstFault, decode cX3_firstFault q.1 = .ok q.2 := by decide +kernel
set_option maxRecDepth 20000 in
theorem mnK_X4_init : ∀ q ∈ mnT_X4_init, decode cX4_init q.1 = .ok q.2 := by decide +kernel
set_option maxRecDepth 20000 in
theorem mnK_X4_begin : ∀ q ∈ mnT_X4_begin, decode cX4_begin q.1 = .ok q.2 := by decide +kernel
set_option maxRecDepth 20000 in
theorem mnK_X4_hasWritten : ∀ q ∈ mnT_X4_hasWritten, decode cX4_hasWritten q.1 = .ok q.2 := by decide +kernel
set_option maxRecDepth 20000 in
theorem mnK_X4_put : ∀ q ∈ mnT_X4_put, decode cX4_put q.1 = .ok q.2 := by decide +kernel
set_option maxRecDepth 20000 in
theorem mnK_X4_lookUp : ∀ q ∈ mnT_X4_lookUp, decode cX4_lookUp q.1 = .ok q.2 := by decide +kernel
set_option maxRecDepth 20000 in
theorem mnK_X4_writtenCount : ∀ q ∈ mnT_X4_writtenCount, decode cX4_writtenCount q.1 = .ok q.2 := by decide +kernel
set_option maxRecDepth 20000 in
theorem mnK_X4_writtenAbove : ∀ q ∈ mnT_X4_writtenAbove, decode cX4_writtenAbove q.1 = .ok q.2 := by decide +kernel
set_option maxRecDepth 20000 in
theorem mnK_X4_takeIn : ∀ q ∈ mnT_X4_takeIn, decode cX4_takeIn q.1 = .ok q.2 := by decide +kernel
set_option maxRecDepth 20000 in
theorem mnK_X5_init : ∀ q ∈ mnT_X5_init, decode cX5_init q.1 = .ok q.2 := by decide +kernel
set_option maxRecDepth 20000 in
theorem mnK_X5_begin : ∀ q ∈ mnT_X5_begin, decode cX5_begin q.1 = .ok q.2 := by decide +kernel
set_option maxRecDepth 20000 in
theorem mnK_X5_fail : ∀ q ∈ mnT_X5_fail, decode cX5_fail q.1 = .ok q.2 := by decide +kernel
set_option maxRecDepth 20000 in
theorem mnK_X5_canPrint : ∀ q ∈ mnT_X5_canPrint, decode cX5_canPrint q.1 = .ok q.2 := by decide +kernel
set_option maxRecDepth 20000 in
theorem mnK_X5_appendPrint : ∀ q ∈ mnT_X5_appendPrint, decode cX5_appendPrint q.1 = .ok q.2 := by decide +kernel
set_option maxRecDepth 20000 in
theorem mnK_X6_init : ∀ q ∈ mnT_X6_init, decode cX6_init q.1 = .ok q.2 := by decide +kernel
