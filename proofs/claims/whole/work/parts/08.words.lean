set_option maxRecDepth 20000 in
theorem mnC_X0_init : Cond.code yX0_init cX0_init 1 none ∈ mn_uw := List.mem_filter.mpr ⟨List.mem_of_getElem? (i := 83) rfl, rfl⟩
set_option maxRecDepth 20000 in
theorem mnC_X0_faultIn : Cond.code yX0_faultIn cX0_faultIn 4 (some .int) ∈ mn_uw := List.mem_filter.mpr ⟨List.mem_of_getElem? (i := 322) rfl, rfl⟩
set_option maxRecDepth 20000 in
theorem mnC_X0_isAsSaid : Cond.code yX0_isAsSaid cX0_isAsSaid 4 (some .boolean) ∈ mn_uw := List.mem_filter.mpr ⟨List.mem_of_getElem? (i := 325) rfl, rfl⟩
set_option maxRecDepth 20000 in
theorem mnC_X0_goAllWays : Cond.code yX0_goAllWays cX0_goAllWays 5 none ∈ mn_uw := List.mem_filter.mpr ⟨List.mem_of_getElem? (i := 340) rfl, rfl⟩
set_option maxRecDepth 20000 in
theorem mnC_X0_goOn : Cond.code yX0_goOn cX0_goOn 6 none ∈ mn_uw := List.mem_filter.mpr ⟨List.mem_of_getElem? (i := 353) rfl, rfl⟩
set_option maxRecDepth 20000 in
theorem mnC_X0_reach : Cond.code yX0_reach cX0_reach 5 none ∈ mn_uw := List.mem_filter.mpr ⟨List.mem_of_getElem? (i := 344) rfl, rfl⟩
set_option maxRecDepth 20000 in
theorem mnC_X1_init : Cond.code yX1_init cX1_init 3 none ∈ mn_uw := List.mem_filter.mpr ⟨List.mem_of_getElem? (i := 102) rfl, rfl⟩
set_option maxRecDepth 20000 in
theorem mnC_X1_isFull : Cond.code yX1_isFull cX1_isFull 1 (some .boolean) ∈ mn_uw := List.mem_filter.mpr ⟨List.mem_of_getElem? (i := 512) rfl, rfl⟩
set_option maxRecDepth 20000 in
theorem mnC_X1_append : Cond.code yX1_append cX1_append 3 (some .int) ∈ mn_uw := List.mem_filter.mpr ⟨List.mem_of_getElem? (i := 517) rfl, rfl⟩
set_option maxRecDepth 20000 in
theorem mnC_X1_operationAt : Cond.code yX1_operationAt cX1_operationAt 2 (some .int) ∈ mn_uw := List.mem_filter.mpr ⟨List.mem_of_getElem? (i := 333) rfl, rfl⟩
set_option maxRecDepth 20000 in
theorem mnC_X1_argumentAt : Cond.code yX1_argumentAt cX1_argumentAt 2 (some .int) ∈ mn_uw := List.mem_filter.mpr ⟨List.mem_of_getElem? (i := 329) rfl, rfl⟩
set_option maxRecDepth 20000 in
theorem mnC_X2_init : Cond.code yX2_init cX2_init 1 none ∈ mn_uw := List.mem_filter.mpr ⟨List.mem_of_getElem? (i := 164) rfl, rfl⟩
set_option maxRecDepth 20000 in
theorem mnC_X2_begin : Cond.code yX2_begin cX2_begin 5 none ∈ mn_uw := List.mem_filter.mpr ⟨List.mem_of_getElem? (i := 582) rfl, rfl⟩
set_option maxRecDepth 20000 in
theorem mnC_X2_operation : Cond.code yX2_operation cX2_operation 1 (some .int) ∈ mn_uw := List.mem_filter.mpr ⟨List.mem_of_getElem? (i := 604) rfl, rfl⟩
set_option maxRecDepth 20000 in
theorem mnC_X2_argument : Cond.code yX2_argument cX2_argument 1 (some .int) ∈ mn_uw := List.mem_filter.mpr ⟨List.mem_of_getElem? (i := 636) rfl, rfl⟩
set_option maxRecDepth 20000 in
theorem mnC_X2_moveOn : Cond.code yX2_moveOn cX2_moveOn 1 none ∈ mn_uw := List.mem_filter.mpr ⟨List.mem_of_getElem? (i := 654) rfl, rfl⟩
set_option maxRecDepth 20000 in
theorem mnC_X2_push : Cond.code yX2_push cX2_push 3 none ∈ mn_uw := List.mem_filter.mpr ⟨List.mem_of_getElem? (i := 650) rfl, rfl⟩
set_option maxRecDepth 20000 in
theorem mnC_X2_pop : Cond.code yX2_pop cX2_pop 1 (some .long) ∈ mn_uw := List.mem_filter.mpr ⟨List.mem_of_getElem? (i := 658) rfl, rfl⟩
set_option maxRecDepth 20000 in
theorem mnC_X2_top : Cond.code yX2_top cX2_top 1 (some .long) ∈ mn_uw := List.mem_filter.mpr ⟨List.mem_of_getElem? (i := 617) rfl, rfl⟩
set_option maxRecDepth 20000 in
theorem mnC_X2_go : Cond.code yX2_go cX2_go 7 none ∈ mn_uw := List.mem_filter.mpr ⟨List.mem_of_getElem? (i := 708) rfl, rfl⟩
set_option maxRecDepth 20000 in
theorem mnC_X2_reckon : Cond.code yX2_reckon cX2_reckon 5 (some .long) ∈ mn_uw := List.mem_filter.mpr ⟨List.mem_of_getElem? (i := 716) rfl, rfl⟩
set_option maxRecDepth 20000 in
theorem mnC_X2_outcome : Cond.code yX2_outcome cX2_outcome 9 (some .long) ∈ mn_uw := List.mem_filter.mpr ⟨List.mem_of_getElem? (i := 702) rfl, rfl⟩
set_option maxRecDepth 20000 in
theorem mnC_X3_init : Cond.code yX3_init cX3_init 2 none ∈ mn_uw := List.mem_filter.mpr ⟨List.mem_of_getElem? (i := 75) rfl, rfl⟩
set_option maxRecDepth 20000 in
theorem mnC_X3_canBeginBlock : Cond.code yX3_canBeginBlock cX3_canBeginBlock 1 (some .boolean) ∈ mn_uw := List.mem_filter.mpr ⟨List.mem_of_getElem? (i := 405) rfl, rfl⟩
set_option maxRecDepth 20000 in
theorem mnC_X3_beginBlock : Cond.code yX3_beginBlock cX3_beginBlock 1 (some .int) ∈ mn_uw := List.mem_filter.mpr ⟨List.mem_of_getElem? (i := 477) rfl, rfl⟩
set_option maxRecDepth 20000 in
theorem mnC_X3_canBeginMerge : Cond.code yX3_canBeginMerge cX3_canBeginMerge 1 (some .boolean) ∈ mn_uw := List.mem_filter.mpr ⟨List.mem_of_getElem? (i := 529) rfl, rfl⟩
set_option maxRecDepth 20000 in
theorem mnC_X3_beginMerge : Cond.code yX3_beginMerge cX3_beginMerge 1 (some .int) ∈ mn_uw := List.mem_filter.mpr ⟨List.mem_of_getElem? (i := 534) rfl, rfl⟩
set_option maxRecDepth 20000 in
theorem mnC_X3_blockAt : Cond.code yX3_blockAt cX3_blockAt 2 (some (.object "VersionForks$Code")) ∈ mn_uw := List.mem_filter.mpr ⟨List.mem_of_getElem? (i := 577) rfl, rfl⟩
set_option maxRecDepth 20000 in
theorem mnC_X3_hasRoom : Cond.code yX3_hasRoom cX3_hasRoom 1 (some .boolean) ∈ mn_uw := List.mem_filter.mpr ⟨List.mem_of_getElem? (i := 508) rfl, rfl⟩
set_option maxRecDepth 20000 in
theorem mnC_X3_mergeOf : Cond.code yX3_mergeOf cX3_mergeOf 2 (some (.object "VersionForks$Code")) ∈ mn_uw := List.mem_filter.mpr ⟨List.mem_of_getElem? (i := 698) rfl, rfl⟩
set_option maxRecDepth 20000 in
theorem mnC_X3_lacksMerge : Cond.code yX3_lacksMerge cX3_lacksMerge 2 (some .boolean) ∈ mn_uw := List.mem_filter.mpr ⟨List.mem_of_getElem? (i := 555) rfl, rfl⟩
set_option maxRecDepth 20000 in
theorem mnC_X3_firstFault : Cond.code yX3_firstFault cX3_firstFault 3 (some .int) ∈ mn_uw := List.mem_filter.mpr ⟨List.mem_of_getElem? (i := 318) rfl, rfl⟩
set_option maxRecDepth 20000 in
theorem mnC_X4_init : Cond.code yX4_init cX4_init 1 none ∈ mn_uw := List.mem_filter.mpr ⟨List.mem_of_getElem? (i := 251) rfl, rfl⟩
set_option maxRecDepth 20000 in
theorem mnC_X4_begin : Cond.code yX4_begin cX4_begin 2 none ∈ mn_uw := List.mem_filter.mpr ⟨List.mem_of_getElem? (i := 569) rfl, rfl⟩
set_option maxRecDepth 20000 in
theorem mnC_X4_hasWritten : Cond.code yX4_hasWritten cX4_hasWritten 2 (some .boolean) ∈ mn_uw := List.mem_filter.mpr ⟨List.mem_of_getElem? (i := 646) rfl, rfl⟩
set_option maxRecDepth 20000 in
theorem mnC_X4_put : Cond.code yX4_put cX4_put 4 none ∈ mn_uw := List.mem_filter.mpr ⟨List.mem_of_getElem? (i := 662) rfl, rfl⟩
set_option maxRecDepth 20000 in
theorem mnC_X4_lookUp : Cond.code yX4_lookUp cX4_lookUp 3 (some .long) ∈ mn_uw := List.mem_filter.mpr ⟨List.mem_of_getElem? (i := 641) rfl, rfl⟩
set_option maxRecDepth 20000 in
theorem mnC_X4_writtenCount : Cond.code yX4_writtenCount cX4_writtenCount 1 (some .int) ∈ mn_uw := List.mem_filter.mpr ⟨List.mem_of_getElem? (i := 383) rfl, rfl⟩
set_option maxRecDepth 20000 in
theorem mnC_X4_writtenAbove : Cond.code yX4_writtenAbove cX4_writtenAbove 4 (some .int) ∈ mn_uw := List.mem_filter.mpr ⟨List.mem_of_getElem? (i := 694) rfl, rfl⟩
set_option maxRecDepth 20000 in
theorem mnC_X4_takeIn : Cond.code yX4_takeIn cX4_takeIn 3 none ∈ mn_uw := List.mem_filter.mpr ⟨List.mem_of_getElem? (i := 682) rfl, rfl⟩
set_option maxRecDepth 20000 in
theorem mnC_X5_init : Cond.code yX5_init cX5_init 2 none ∈ mn_uw := List.mem_filter.mpr ⟨List.mem_of_getElem? (i := 186) rfl, rfl⟩
set_option maxRecDepth 20000 in
theorem mnC_X5_begin : Cond.code yX5_begin cX5_begin 4 none ∈ mn_uw := List.mem_filter.mpr ⟨List.mem_of_getElem? (i := 573) rfl, rfl⟩
set_option maxRecDepth 20000 in
theorem mnC_X5_fail : Cond.code yX5_fail cX5_fail 2 none ∈ mn_uw := List.mem_filter.mpr ⟨List.mem_of_getElem? (i := 632) rfl, rfl⟩
set_option maxRecDepth 20000 in
theorem mnC_X5_canPrint : Cond.code yX5_canPrint cX5_canPrint 2 (some .boolean) ∈ mn_uw := List.mem_filter.mpr ⟨List.mem_of_getElem? (i := 624) rfl, rfl⟩
set_option maxRecDepth 20000 in
theorem mnC_X5_appendPrint : Cond.code yX5_appendPrint cX5_appendPrint 3 none ∈ mn_uw := List.mem_filter.mpr ⟨List.mem_of_getElem? (i := 724) rfl, rfl⟩
set_option maxRecDepth 20000 in
theorem mnC_X6_init : Cond.code yX6_init cX6_init 3 none ∈ mn_uw := List.mem_filter.mpr ⟨List.mem_of_getElem? (i := 154) rfl, rfl⟩
set_option maxRecDepth 20000 in
theorem mnC_X6_hasBegun : Cond.code yX6_hasBegun cX6_hasBegun 1 (some .boolean) ∈ mn_uw := List.mem_filter.mpr ⟨List.mem_of_getElem? (i := 401) rfl, rfl⟩
set_option maxRecDepth 20000 in
theorem mnC_X6_hasTask : Cond.code yX6_hasTask cX6_hasTask 2 (some .boolean) ∈ mn_uw := List.mem_filter.mpr ⟨List.mem_of_getElem? (i := 593) rfl, rfl⟩
set_option maxRecDepth 20000 in
theorem mnC_X6_hasUnjoinedTask : Cond.code yX6_hasUnjoinedTask cX6_hasUnjoinedTask 2 (some .boolean) ∈ mn_uw := List.mem_filter.mpr ⟨List.mem_of_getElem? (i := 780) rfl, rfl⟩
set_option maxRecDepth 20000 in
theorem mnC_X6_forget : Cond.code yX6_forget cX6_forget 1 none ∈ mn_uw := List.mem_filter.mpr ⟨List.mem_of_getElem? (i := 363) rfl, rfl⟩
set_option maxRecDepth 20000 in
theorem mnC_X6_begin : Cond.code yX6_begin cX6_begin 1 none ∈ mn_uw := List.mem_filter.mpr ⟨List.mem_of_getElem? (i := 560) rfl, rfl⟩
set_option maxRecDepth 20000 in
theorem mnC_X6_openSegment : Cond.code yX6_openSegment cX6_openSegment 3 (some (.object "VersionForks$Segment")) ∈ mn_uw := List.mem_filter.mpr ⟨List.mem_of_getElem? (i := 565) rfl, rfl⟩
set_option maxRecDepth 20000 in
theorem mnC_X6_findReady : Cond.code yX6_findReady cX6_findReady 3 (some .int) ∈ mn_uw := List.mem_filter.mpr ⟨List.mem_of_getElem? (i := 742) rfl, rfl⟩
set_option maxRecDepth 20000 in
theorem mnC_X6_waits : Cond.code yX6_waits cX6_waits 2 (some .boolean) ∈ mn_uw := List.mem_filter.mpr ⟨List.mem_of_getElem? (i := 600) rfl, rfl⟩
set_option maxRecDepth 20000 in
theorem mnC_X6_advance : Cond.code yX6_advance cX6_advance 3 (some .boolean) ∈ mn_uw := List.mem_filter.mpr ⟨List.mem_of_getElem? (i := 628) rfl, rfl⟩
set_option maxRecDepth 20000 in
theorem mnC_X6_printTop : Cond.code yX6_printTop cX6_printTop 2 none ∈ mn_uw := List.mem_filter.mpr ⟨List.mem_of_getElem? (i := 729) rfl, rfl⟩
set_option maxRecDepth 20000 in
theorem mnC_X6_fork : Cond.code yX6_fork cX6_fork 4 none ∈ mn_uw := List.mem_filter.mpr ⟨List.mem_of_getElem? (i := 666) rfl, rfl⟩
set_option maxRecDepth 20000 in
theorem mnC_X6_join : Cond.code yX6_join cX6_join 5 none ∈ mn_uw := List.mem_filter.mpr ⟨List.mem_of_getElem? (i := 686) rfl, rfl⟩
set_option maxRecDepth 20000 in
theorem mnC_X6_joinHindrance : Cond.code yX6_joinHindrance cX6_joinHindrance 3 (some .int) ∈ mn_uw := List.mem_filter.mpr ⟨List.mem_of_getElem? (i := 609) rfl, rfl⟩
set_option maxRecDepth 20000 in
theorem mnC_X6_taskToJoin : Cond.code yX6_taskToJoin cX6_taskToJoin 5 (some (.object "VersionForks$Task")) ∈ mn_uw := List.mem_filter.mpr ⟨List.mem_of_getElem? (i := 613) rfl, rfl⟩
set_option maxRecDepth 20000 in
theorem mnC_X6_heirOf : Cond.code yX6_heirOf cX6_heirOf 3 (some (.object "VersionForks$Task")) ∈ mn_uw := List.mem_filter.mpr ⟨List.mem_of_getElem? (i := 620) rfl, rfl⟩
set_option maxRecDepth 20000 in
theorem mnC_X6_bringCells : Cond.code yX6_bringCells cX6_bringCells 13 none ∈ mn_uw := List.mem_filter.mpr ⟨List.mem_of_getElem? (i := 690) rfl, rfl⟩
set_option maxRecDepth 20000 in
theorem mnC_X6_together : Cond.code yX6_together cX6_together 7 (some .long) ∈ mn_uw := List.mem_filter.mpr ⟨List.mem_of_getElem? (i := 719) rfl, rfl⟩
set_option maxRecDepth 20000 in
theorem mnC_X6_layTogether : Cond.code yX6_layTogether cX6_layTogether 2 none ∈ mn_uw := List.mem_filter.mpr ⟨List.mem_of_getElem? (i := 670) rfl, rfl⟩
set_option maxRecDepth 20000 in
theorem mnC_X6_markNeeded : Cond.code yX6_markNeeded cX6_markNeeded 2 none ∈ mn_uw := List.mem_filter.mpr ⟨List.mem_of_getElem? (i := 674) rfl, rfl⟩
set_option maxRecDepth 20000 in
theorem mnC_X6_layAway : Cond.code yX6_layAway cX6_layAway 5 none ∈ mn_uw := List.mem_filter.mpr ⟨List.mem_of_getElem? (i := 678) rfl, rfl⟩
set_option maxRecDepth 20000 in
theorem mnC_X6_liveSegments : Cond.code yX6_liveSegments cX6_liveSegments 3 (some .int) ∈ mn_uw := List.mem_filter.mpr ⟨List.mem_of_getElem? (i := 375) rfl, rfl⟩
set_option maxRecDepth 20000 in
theorem mnC_X6_writtenCells : Cond.code yX6_writtenCells cX6_writtenCells 3 (some .int) ∈ mn_uw := List.mem_filter.mpr ⟨List.mem_of_getElem? (i := 379) rfl, rfl⟩
set_option maxRecDepth 20000 in
theorem mnC_X7_init : Cond.code yX7_init cX7_init 1 none ∈ mn_uw := List.mem_filter.mpr ⟨List.mem_of_getElem? (i := 67) rfl, rfl⟩
set_option maxRecDepth 20000 in
theorem mnC_X7_block : Cond.code yX7_block cX7_block 1 (some .int) ∈ mn_uw := List.mem_filter.mpr ⟨List.mem_of_getElem? (i := 397) rfl, rfl⟩
set_option maxRecDepth 20000 in
theorem mnC_X7_add : Cond.code yX7_add cX7_add 3 (some .int) ∈ mn_uw := List.mem_filter.mpr ⟨List.mem_of_getElem? (i := 486) rfl, rfl⟩
set_option maxRecDepth 20000 in
theorem mnC_X7_merge : Cond.code yX7_merge cX7_merge 1 (some .int) ∈ mn_uw := List.mem_filter.mpr ⟨List.mem_of_getElem? (i := 525) rfl, rfl⟩
set_option maxRecDepth 20000 in
theorem mnC_X7_cell : Cond.code yX7_cell cX7_cell 4 none ∈ mn_uw := List.mem_filter.mpr ⟨List.mem_of_getElem? (i := 542) rfl, rfl⟩
set_option maxRecDepth 20000 in
theorem mnC_X7_start : Cond.code yX7_start cX7_start 1 none ∈ mn_uw := List.mem_filter.mpr ⟨List.mem_of_getElem? (i := 551) rfl, rfl⟩
set_option maxRecDepth 20000 in
theorem mnC_X7_fault : Cond.code yX7_fault cX7_fault 1 (some .int) ∈ mn_uw := List.mem_filter.mpr ⟨List.mem_of_getElem? (i := 314) rfl, rfl⟩
set_option maxRecDepth 20000 in
theorem mnC_X7_reset : Cond.code yX7_reset cX7_reset 1 none ∈ mn_uw := List.mem_filter.mpr ⟨List.mem_of_getElem? (i := 359) rfl, rfl⟩
set_option maxRecDepth 20000 in
theorem mnC_X7_step : Cond.code yX7_step cX7_step 6 (some .int) ∈ mn_uw := List.mem_filter.mpr ⟨List.mem_of_getElem? (i := 589) rfl, rfl⟩
set_option maxRecDepth 20000 in
theorem mnC_X7_run : Cond.code yX7_run cX7_run 7 (some .int) ∈ mn_uw := List.mem_filter.mpr ⟨List.mem_of_getElem? (i := 737) rfl, rfl⟩
set_option maxRecDepth 20000 in
theorem mnC_X7_task : Cond.code yX7_task cX7_task 4 (some .int) ∈ mn_uw := List.mem_filter.mpr ⟨List.mem_of_getElem? (i := 752) rfl, rfl⟩
set_option maxRecDepth 20000 in
theorem mnC_X7_tasks : Cond.code yX7_tasks cX7_tasks 1 (some .int) ∈ mn_uw := List.mem_filter.mpr ⟨List.mem_of_getElem? (i := 367) rfl, rfl⟩
set_option maxRecDepth 20000 in
theorem mnC_X7_read : Cond.code yX7_read cX7_read 3 (some .long) ∈ mn_uw := List.mem_filter.mpr ⟨List.mem_of_getElem? (i := 776) rfl, rfl⟩
set_option maxRecDepth 20000 in
theorem mnC_X7_print : Cond.code yX7_print cX7_print 4 (some .long) ∈ mn_uw := List.mem_filter.mpr ⟨List.mem_of_getElem? (i := 790) rfl, rfl⟩
set_option maxRecDepth 20000 in
theorem mnC_X7_count : Cond.code yX7_count cX7_count 2 (some .int) ∈ mn_uw := List.mem_filter.mpr ⟨List.mem_of_getElem? (i := 371) rfl, rfl⟩
set_option maxRecDepth 20000 in
theorem mnC_X7_isWithin : Cond.code yX7_isWithin cX7_isWithin 2 (some .boolean) ∈ mn_uw := List.mem_filter.mpr ⟨List.mem_of_getElem? (i := 336) rfl, rfl⟩
set_option maxRecDepth 20000 in
theorem mnC_X8_init : Cond.code yX8_init cX8_init 1 none ∈ mn_uw := List.mem_filter.mpr ⟨List.mem_of_getElem? (i := 796) rfl, rfl⟩
set_option maxRecDepth 20000 in
theorem mnC_X8_thrown : Cond.code yX8_thrown cX8_thrown 1 (some .int) ∈ mn_uw := List.mem_filter.mpr ⟨List.mem_of_getElem? (i := 905) rfl, rfl⟩
set_option maxRecDepth 20000 in
theorem mnC_X8_in : Cond.code yX8_in cX8_in 4 (some .boolean) ∈ mn_uw := List.mem_filter.mpr ⟨List.mem_of_getElem? (i := 924) rfl, rfl⟩
set_option maxRecDepth 20000 in
theorem mnC_X8_beginPart : Cond.code yX8_beginPart cX8_beginPart 3 (some .int) ∈ mn_uw := List.mem_filter.mpr ⟨List.mem_of_getElem? (i := 913) rfl, rfl⟩
set_option maxRecDepth 20000 in
theorem mnC_X8_block : Cond.code yX8_block cX8_block 2 (some .int) ∈ mn_uw := List.mem_filter.mpr ⟨List.mem_of_getElem? (i := 909) rfl, rfl⟩
set_option maxRecDepth 20000 in
theorem mnC_X8_merge : Cond.code yX8_merge cX8_merge 2 (some .int) ∈ mn_uw := List.mem_filter.mpr ⟨List.mem_of_getElem? (i := 917) rfl, rfl⟩
set_option maxRecDepth 20000 in
theorem mnC_X8_add : Cond.code yX8_add cX8_add 5 (some .int) ∈ mn_uw := List.mem_filter.mpr ⟨List.mem_of_getElem? (i := 921) rfl, rfl⟩
set_option maxRecDepth 20000 in
theorem mnC_X8_cell : Cond.code yX8_cell cX8_cell 4 none ∈ mn_uw := List.mem_filter.mpr ⟨List.mem_of_getElem? (i := 928) rfl, rfl⟩
set_option maxRecDepth 20000 in
theorem mnC_X8_isArgument : Cond.code yX8_isArgument cX8_isArgument 6 (some .boolean) ∈ mn_uw := List.mem_filter.mpr ⟨List.mem_of_getElem? (i := 944) rfl, rfl⟩
set_option maxRecDepth 20000 in
theorem mnC_X8_takes : Cond.code yX8_takes cX8_takes 1 (some .int) ∈ mn_uw := List.mem_filter.mpr ⟨List.mem_of_getElem? (i := 955) rfl, rfl⟩
set_option maxRecDepth 20000 in
theorem mnC_X8_puts : Cond.code yX8_puts cX8_puts 1 (some .int) ∈ mn_uw := List.mem_filter.mpr ⟨List.mem_of_getElem? (i := 958) rfl, rfl⟩
set_option maxRecDepth 20000 in
theorem mnC_X8_goAllWays : Cond.code yX8_goAllWays cX8_goAllWays 7 none ∈ mn_uw := List.mem_filter.mpr ⟨List.mem_of_getElem? (i := 952) rfl, rfl⟩
set_option maxRecDepth 20000 in
theorem mnC_X8_reach : Cond.code yX8_reach cX8_reach 3 (some .boolean) ∈ mn_uw := List.mem_filter.mpr ⟨List.mem_of_getElem? (i := 962) rfl, rfl⟩
set_option maxRecDepth 20000 in
theorem mnC_X8_stackFault : Cond.code yX8_stackFault cX8_stackFault 7 (some .int) ∈ mn_uw := List.mem_filter.mpr ⟨List.mem_of_getElem? (i := 948) rfl, rfl⟩
set_option maxRecDepth 20000 in
theorem mnC_X8_faultOf : Cond.code yX8_faultOf cX8_faultOf 4 (some .int) ∈ mn_uw := List.mem_filter.mpr ⟨List.mem_of_getElem? (i := 940) rfl, rfl⟩
set_option maxRecDepth 20000 in
theorem mnC_X8_programFault : Cond.code yX8_programFault cX8_programFault 3 (some .int) ∈ mn_uw := List.mem_filter.mpr ⟨List.mem_of_getElem? (i := 936) rfl, rfl⟩
set_option maxRecDepth 20000 in
theorem mnC_X8_fault : Cond.code yX8_fault cX8_fault 1 (some .int) ∈ mn_uw := List.mem_filter.mpr ⟨List.mem_of_getElem? (i := 932) rfl, rfl⟩
set_option maxRecDepth 20000 in
theorem mnC_X8_start : Cond.code yX8_start cX8_start 3 none ∈ mn_uw := List.mem_filter.mpr ⟨List.mem_of_getElem? (i := 966) rfl, rfl⟩
set_option maxRecDepth 20000 in
theorem mnC_X8_reset : Cond.code yX8_reset cX8_reset 1 none ∈ mn_uw := List.mem_filter.mpr ⟨List.mem_of_getElem? (i := 978) rfl, rfl⟩
set_option maxRecDepth 20000 in
theorem mnC_X8_open : Cond.code yX8_open cX8_open 3 (some .int) ∈ mn_uw := List.mem_filter.mpr ⟨List.mem_of_getElem? (i := 970) rfl, rfl⟩
set_option maxRecDepth 20000 in
theorem mnC_X8_readAt : Cond.code yX8_readAt cX8_readAt 4 (some .long) ∈ mn_uw := List.mem_filter.mpr ⟨List.mem_of_getElem? (i := 1022) rfl, rfl⟩
set_option maxRecDepth 20000 in
theorem mnC_X8_writeAt : Cond.code yX8_writeAt cX8_writeAt 5 none ∈ mn_uw := List.mem_filter.mpr ⟨List.mem_of_getElem? (i := 1038) rfl, rfl⟩
set_option maxRecDepth 20000 in
theorem mnC_X8_isNeeded : Cond.code yX8_isNeeded cX8_isNeeded 4 (some .boolean) ∈ mn_uw := List.mem_filter.mpr ⟨List.mem_of_getElem? (i := 1054) rfl, rfl⟩
set_option maxRecDepth 20000 in
theorem mnC_X8_tidy : Cond.code yX8_tidy cX8_tidy 6 none ∈ mn_uw := List.mem_filter.mpr ⟨List.mem_of_getElem? (i := 1050) rfl, rfl⟩
set_option maxRecDepth 20000 in
theorem mnC_X8_beginTask : Cond.code yX8_beginTask cX8_beginTask 9 (some .int) ∈ mn_uw := List.mem_filter.mpr ⟨List.mem_of_getElem? (i := 974) rfl, rfl⟩
set_option maxRecDepth 20000 in
theorem mnC_X8_fail : Cond.code yX8_fail cX8_fail 3 none ∈ mn_uw := List.mem_filter.mpr ⟨List.mem_of_getElem? (i := 1006) rfl, rfl⟩
set_option maxRecDepth 20000 in
theorem mnC_X8_top : Cond.code yX8_top cX8_top 2 (some .long) ∈ mn_uw := List.mem_filter.mpr ⟨List.mem_of_getElem? (i := 994) rfl, rfl⟩
set_option maxRecDepth 20000 in
theorem mnC_X8_pop : Cond.code yX8_pop cX8_pop 2 (some .long) ∈ mn_uw := List.mem_filter.mpr ⟨List.mem_of_getElem? (i := 1042) rfl, rfl⟩
set_option maxRecDepth 20000 in
theorem mnC_X8_push : Cond.code yX8_push cX8_push 4 none ∈ mn_uw := List.mem_filter.mpr ⟨List.mem_of_getElem? (i := 1046) rfl, rfl⟩
set_option maxRecDepth 20000 in
theorem mnC_X8_reckon : Cond.code yX8_reckon cX8_reckon 5 (some .long) ∈ mn_uw := List.mem_filter.mpr ⟨List.mem_of_getElem? (i := 1034) rfl, rfl⟩
set_option maxRecDepth 20000 in
theorem mnC_X8_holder : Cond.code yX8_holder cX8_holder 3 (some .int) ∈ mn_uw := List.mem_filter.mpr ⟨List.mem_of_getElem? (i := 998) rfl, rfl⟩
set_option maxRecDepth 20000 in
theorem mnC_X8_isJoin : Cond.code yX8_isJoin cX8_isJoin 2 (some .boolean) ∈ mn_uw := List.mem_filter.mpr ⟨List.mem_of_getElem? (i := 990) rfl, rfl⟩
set_option maxRecDepth 20000 in
theorem mnC_X8_waits : Cond.code yX8_waits cX8_waits 4 (some .boolean) ∈ mn_uw := List.mem_filter.mpr ⟨List.mem_of_getElem? (i := 986) rfl, rfl⟩
set_option maxRecDepth 20000 in
theorem mnC_X8_stepOne : Cond.code yX8_stepOne cX8_stepOne 6 none ∈ mn_uw := List.mem_filter.mpr ⟨List.mem_of_getElem? (i := 1010) rfl, rfl⟩
set_option maxRecDepth 20000 in
theorem mnC_X8_simple : Cond.code yX8_simple cX8_simple 4 none ∈ mn_uw := List.mem_filter.mpr ⟨List.mem_of_getElem? (i := 1062) rfl, rfl⟩
set_option maxRecDepth 20000 in
theorem mnC_X8_fork : Cond.code yX8_fork cX8_fork 7 none ∈ mn_uw := List.mem_filter.mpr ⟨List.mem_of_getElem? (i := 1058) rfl, rfl⟩
set_option maxRecDepth 20000 in
theorem mnC_X8_join : Cond.code yX8_join cX8_join 5 none ∈ mn_uw := List.mem_filter.mpr ⟨List.mem_of_getElem? (i := 1014) rfl, rfl⟩
set_option maxRecDepth 20000 in
theorem mnC_X8_bring : Cond.code yX8_bring cX8_bring 7 none ∈ mn_uw := List.mem_filter.mpr ⟨List.mem_of_getElem? (i := 1018) rfl, rfl⟩
set_option maxRecDepth 20000 in
theorem mnC_X8_together : Cond.code yX8_together cX8_together 8 (some .long) ∈ mn_uw := List.mem_filter.mpr ⟨List.mem_of_getElem? (i := 1026) rfl, rfl⟩
set_option maxRecDepth 20000 in
theorem mnC_X8_merged : Cond.code yX8_merged cX8_merged 12 (some .long) ∈ mn_uw := List.mem_filter.mpr ⟨List.mem_of_getElem? (i := 1031) rfl, rfl⟩
set_option maxRecDepth 20000 in
theorem mnC_X8_step : Cond.code yX8_step cX8_step 5 (some .int) ∈ mn_uw := List.mem_filter.mpr ⟨List.mem_of_getElem? (i := 982) rfl, rfl⟩
set_option maxRecDepth 20000 in
theorem mnC_X8_go : Cond.code yX8_go cX8_go 2 (some .boolean) ∈ mn_uw := List.mem_filter.mpr ⟨List.mem_of_getElem? (i := 1002) rfl, rfl⟩
set_option maxRecDepth 20000 in
theorem mnC_X8_canGoOn : Cond.code yX8_canGoOn cX8_canGoOn 2 (some .boolean) ∈ mn_uw := List.mem_filter.mpr ⟨List.mem_of_getElem? (i := 1075) rfl, rfl⟩
set_option maxRecDepth 20000 in
theorem mnC_X8_choose : Cond.code yX8_choose cX8_choose 6 (some .int) ∈ mn_uw := List.mem_filter.mpr ⟨List.mem_of_getElem? (i := 1071) rfl, rfl⟩
set_option maxRecDepth 20000 in
theorem mnC_X8_run : Cond.code yX8_run cX8_run 4 (some .int) ∈ mn_uw := List.mem_filter.mpr ⟨List.mem_of_getElem? (i := 1066) rfl, rfl⟩
set_option maxRecDepth 20000 in
theorem mnC_X8_isTask : Cond.code yX8_isTask cX8_isTask 2 (some .boolean) ∈ mn_uw := List.mem_filter.mpr ⟨List.mem_of_getElem? (i := 1083) rfl, rfl⟩
set_option maxRecDepth 20000 in
theorem mnC_X8_task : Cond.code yX8_task cX8_task 3 (some .int) ∈ mn_uw := List.mem_filter.mpr ⟨List.mem_of_getElem? (i := 1079) rfl, rfl⟩
set_option maxRecDepth 20000 in
theorem mnC_X8_tasks : Cond.code yX8_tasks cX8_tasks 1 (some .int) ∈ mn_uw := List.mem_filter.mpr ⟨List.mem_of_getElem? (i := 1087) rfl, rfl⟩
set_option maxRecDepth 20000 in
theorem mnC_X8_read : Cond.code yX8_read cX8_read 4 (some .long) ∈ mn_uw := List.mem_filter.mpr ⟨List.mem_of_getElem? (i := 1091) rfl, rfl⟩
set_option maxRecDepth 20000 in
theorem mnC_X8_print : Cond.code yX8_print cX8_print 4 (some .long) ∈ mn_uw := List.mem_filter.mpr ⟨List.mem_of_getElem? (i := 1095) rfl, rfl⟩
set_option maxRecDepth 20000 in
theorem mnC_X8_count : Cond.code yX8_count cX8_count 5 (some .int) ∈ mn_uw := List.mem_filter.mpr ⟨List.mem_of_getElem? (i := 1099) rfl, rfl⟩
set_option maxRecDepth 20000 in
theorem mnC_J6_bitCount_0f7a4 : Cond.code yJ6_bitCount_0f7a4 cJ6_bitCount_0f7a4 1 (some .int) ∈ mn_uw := List.mem_filter.mpr ⟨List.mem_of_getElem? (i := 386) rfl, rfl⟩
set_option maxRecDepth 20000 in
theorem mnC_J9_min_7cf53 : Cond.code yJ9_min_7cf53 cJ9_min_7cf53 2 (some .int) ∈ mn_uw := List.mem_filter.mpr ⟨List.mem_of_getElem? (i := 347) rfl, rfl⟩
set_option maxRecDepth 20000 in
theorem mnC_L_block : Cond.codeWith yL_block cL_block 3 (some .int) [(0, 8, 11, 13)] ∈ mn_uw := List.mem_filter.mpr ⟨List.mem_of_getElem? (i := 392) rfl, rfl⟩
set_option maxRecDepth 20000 in
theorem mnC_L_add : Cond.codeWith yL_add cL_add 5 (some .int) [(0, 10, 13, 19), (0, 10, 17, 13)] ∈ mn_uw := List.mem_filter.mpr ⟨List.mem_of_getElem? (i := 481) rfl, rfl⟩
set_option maxRecDepth 20000 in
theorem mnC_L_merge : Cond.codeWith yL_merge cL_merge 3 (some .int) [(0, 8, 11, 13)] ∈ mn_uw := List.mem_filter.mpr ⟨List.mem_of_getElem? (i := 521) rfl, rfl⟩
set_option maxRecDepth 20000 in
theorem mnC_L_cell : Cond.codeWith yL_cell cL_cell 5 (some .int) [(0, 7, 10, 19), (0, 7, 14, 13)] ∈ mn_uw := List.mem_filter.mpr ⟨List.mem_of_getElem? (i := 538) rfl, rfl⟩
set_option maxRecDepth 20000 in
theorem mnC_L_start : Cond.codeWith yL_start cL_start 2 (some .int) [(0, 4, 7, 19)] ∈ mn_uw := List.mem_filter.mpr ⟨List.mem_of_getElem? (i := 547) rfl, rfl⟩
set_option maxRecDepth 20000 in
theorem mnC_L_step : Cond.codeWith yL_step cL_step 5 (some .int) [(0, 10, 13, 13), (0, 10, 17, 19)] ∈ mn_uw := List.mem_filter.mpr ⟨List.mem_of_getElem? (i := 585) rfl, rfl⟩
set_option maxRecDepth 20000 in
theorem mnC_L_run : Cond.codeWith yL_run cL_run 4 (some .int) [(0, 9, 12, 13)] ∈ mn_uw := List.mem_filter.mpr ⟨List.mem_of_getElem? (i := 733) rfl, rfl⟩
set_option maxRecDepth 20000 in
theorem mnC_L_task : Cond.codeWith yL_task cL_task 5 (some .int) [(0, 10, 13, 41), (0, 10, 17, 19)] ∈ mn_uw := List.mem_filter.mpr ⟨List.mem_of_getElem? (i := 747) rfl, rfl⟩
set_option maxRecDepth 20000 in
theorem mnC_L_read : Cond.codeWith yL_read cL_read 5 (some .int) [(0, 9, 12, 41), (0, 9, 16, 19)] ∈ mn_uw := List.mem_filter.mpr ⟨List.mem_of_getElem? (i := 772) rfl, rfl⟩
set_option maxRecDepth 20000 in
theorem mnC_L_print : Cond.codeWith yL_print cL_print 5 (some .int) [(0, 9, 12, 41)] ∈ mn_uw := List.mem_filter.mpr ⟨List.mem_of_getElem? (i := 786) rfl, rfl⟩
def mnV_0 : List Cond := [.instanceMethod yX0_init, .instanceMethod yX0_faultIn, .selects RX0 yX0_faultIn yX0_faultIn, .static yX0_isAsSaid, .instanceMethod yX0_goAllWays, .selects RX0 yX0_goAllWays yX0_goAllWays, .instanceMethod yX0_goOn, .selects RX0 yX0_goOn yX0_goOn, .instanceMethod yX0_reach, .selects RX0 yX0_reach yX0_reach, .instanceMethod yX1_init, .instanceMethod yX1_isFull, .selects RX1 yX1_isFull yX1_isFull, .instanceMethod yX1_append, .selects RX1 yX1_append yX1_append, .instanceMethod yX1_operationAt, .selects RX1 yX1_operationAt yX1_operationAt, .instanceMethod yX1_argumentAt, .selects RX1 yX1_argumentAt yX1_argumentAt, .instanceMethod yX2_init, .instanceMethod yX2_begin, .selects RX2 yX2_begin yX2_begin, .instanceMethod yX2_operation, .selects RX2 yX2_operation yX2_operation, .instanceMethod yX2_argument, .selects RX2 yX2_argument yX2_argument, .instanceMethod yX2_moveOn, .selects RX2 yX2_moveOn yX2_moveOn, .instanceMethod yX2_push, .selects RX2 yX2_push yX2_push, .instanceMethod yX2_pop, .selects RX2 yX2_pop yX2_pop, .instanceMethod yX2_top, .selects RX2 yX2_top yX2_top, .instanceMethod yX2_go, .selects RX2 yX2_go yX2_go, .static yX2_reckon, .instanceMethod yX2_outcome, .selects RX2 yX2_outcome yX2_outcome, .instanceMethod yX3_init]
set_option maxRecDepth 20000 in
theorem mnVW_0 : mnV_0.map id = [82, 320, 321, 324, 339, 0, 352, 2, 343, 1, 101, 510, 511, 515, 516, 331, 332, 327, 328, 163, 580, 581, 602, 603, 634, 635, 652, 653, 648, 649, 656, 657, 615, 616, 706, 707, 715, 700, 701, 74].filterMap (fun i => lw_tbl[i]?) ∧ (mnV_0.all (fun q => mn_gw (id q))) = true := by decide +kernel
def mnV_1 : List Cond := [.instanceMethod yX3_canBeginBlock, .selects RX3 yX3_canBeginBlock yX3_canBeginBlock, .instanceMethod yX3_beginBlock, .selects RX3 yX3_beginBlock yX3_beginBlock, .instanceMethod yX3_canBeginMerge, .selects RX3 yX3_canBeginMerge yX3_canBeginMerge, .instanceMethod yX3_beginMerge, .selects RX3 yX3_beginMerge yX3_beginMerge, .instanceMethod yX3_blockAt, .selects RX3 yX3_blockAt yX3_blockAt, .instanceMethod yX3_hasRoom, .selects RX3 yX3_hasRoom yX3_hasRoom, .instanceMethod yX3_mergeOf, .selects RX3 yX3_mergeOf yX3_mergeOf, .instanceMethod yX3_lacksMerge, .selects RX3 yX3_lacksMerge yX3_lacksMerge, .instanceMethod yX3_firstFault, .selects RX3 yX3_firstFault yX3_firstFault, .instanceMethod yX4_init, .instanceMethod yX4_begin, .selects RX4 yX4_begin yX4_begin, .instanceMethod yX4_hasWritten, .selects RX4 yX4_hasWritten yX4_hasWritten, .instanceMethod yX4_put, .selects RX4 yX4_put yX4_put, .instanceMethod yX4_lookUp, .selects RX4 yX4_lookUp yX4_lookUp, .instanceMethod yX4_writtenCount, .selects RX4 yX4_writtenCount yX4_writtenCount, .instanceMethod yX4_writtenAbove, .selects RX4 yX4_writtenAbove yX4_writtenAbove, .instanceMethod yX4_takeIn, .selects RX4 yX4_takeIn yX4_takeIn, .instanceMethod yX5_init, .instanceMethod yX5_begin, .selects RX5 yX5_begin yX5_begin, .instanceMethod yX5_fail, .selects RX5 yX5_fail yX5_fail, .instanceMethod yX5_canPrint, .selects RX5 yX5_canPrint yX5_canPrint]
set_option maxRecDepth 20000 in
theorem mnVW_1 : mnV_1.map id = [403, 404, 475, 476, 527, 528, 532, 533, 575, 576, 506, 507, 696, 697, 553, 554, 316, 317, 250, 567, 568, 644, 645, 660, 661, 639, 640, 381, 382, 692, 693, 680, 681, 185, 571, 572, 630, 631, 622, 623].filterMap (fun i => lw_tbl[i]?) ∧ (mnV_1.all (fun q => mn_gw (id q))) = true := by decide +kernel
def mnV_2 : List Cond := [.instanceMethod yX5_appendPrint, .selects RX5 yX5_appendPrint yX5_appendPrint, .instanceMethod yX6_init, .instanceMethod yX6_hasBegun, .selects RX6 yX6_hasBegun yX6_hasBegun, .instanceMethod yX6_hasTask, .selects RX6 yX6_hasTask yX6_hasTask, .instanceMethod yX6_hasUnjoinedTask, .selects RX6 yX6_hasUnjoinedTask yX6_hasUnjoinedTask, .instanceMethod yX6_forget, .selects RX6 yX6_forget yX6_forget, .instanceMethod yX6_begin, .selects RX6 yX6_begin yX6_begin, .instanceMethod yX6_openSegment, .selects RX6 yX6_openSegment yX6_openSegment, .instanceMethod yX6_findReady, .selects RX6 yX6_findReady yX6_findReady, .instanceMethod yX6_waits, .selects RX6 yX6_waits yX6_waits, .instanceMethod yX6_advance, .selects RX6 yX6_advance yX6_advance, .instanceMethod yX6_printTop, .selects RX6 yX6_printTop yX6_printTop, .instanceMethod yX6_fork, .selects RX6 yX6_fork yX6_fork, .instanceMethod yX6_join, .selects RX6 yX6_join yX6_join, .instanceMethod yX6_joinHindrance, .selects RX6 yX6_joinHindrance yX6_joinHindrance, .instanceMethod yX6_taskToJoin, .selects RX6 yX6_taskToJoin yX6_taskToJoin, .static yX6_heirOf, .instanceMethod yX6_bringCells, .selects RX6 yX6_bringCells yX6_bringCells, .static yX6_together, .instanceMethod yX6_layTogether, .selects RX6 yX6_layTogether yX6_layTogether, .instanceMethod yX6_markNeeded, .selects RX6 yX6_markNeeded yX6_markNeeded, .instanceMethod yX6_layAway]
set_option maxRecDepth 20000 in
theorem mnVW_2 : mnV_2.map id = [722, 723, 153, 399, 400, 591, 592, 778, 779, 361, 362, 558, 559, 564, 4, 740, 741, 598, 599, 626, 627, 728, 13, 665, 7, 685, 11, 608, 5, 612, 6, 619, 689, 12, 718, 669, 8, 673, 9, 677].filterMap (fun i => lw_tbl[i]?) ∧ (mnV_2.all (fun q => mn_gw (id q))) = true := by decide +kernel
def mnV_3 : List Cond := [.selects RX6 yX6_layAway yX6_layAway, .instanceMethod yX6_liveSegments, .selects RX6 yX6_liveSegments yX6_liveSegments, .instanceMethod yX6_writtenCells, .selects RX6 yX6_writtenCells yX6_writtenCells, .instanceMethod yX7_init, .instanceMethod yX7_block, .selects RX7 yX7_block yX7_block, .instanceMethod yX7_add, .selects RX7 yX7_add yX7_add, .instanceMethod yX7_merge, .selects RX7 yX7_merge yX7_merge, .instanceMethod yX7_cell, .selects RX7 yX7_cell yX7_cell, .instanceMethod yX7_start, .selects RX7 yX7_start yX7_start, .instanceMethod yX7_fault, .selects RX7 yX7_fault yX7_fault, .instanceMethod yX7_reset, .selects RX7 yX7_reset yX7_reset, .instanceMethod yX7_step, .selects RX7 yX7_step yX7_step, .instanceMethod yX7_run, .selects RX7 yX7_run yX7_run, .instanceMethod yX7_task, .selects RX7 yX7_task yX7_task, .instanceMethod yX7_tasks, .selects RX7 yX7_tasks yX7_tasks, .instanceMethod yX7_read, .selects RX7 yX7_read yX7_read, .instanceMethod yX7_print, .selects RX7 yX7_print yX7_print, .instanceMethod yX7_count, .selects RX7 yX7_count yX7_count, .static yX7_isWithin, .instanceMethod yX8_init, .instanceMethod yX8_thrown, .selects RX8 yX8_thrown yX8_thrown, .static yX8_in, .instanceMethod yX8_beginPart]
set_option maxRecDepth 20000 in
theorem mnVW_3 : mnV_3.map id = [10, 373, 374, 377, 378, 66, 395, 396, 484, 485, 523, 524, 540, 541, 549, 550, 312, 313, 357, 358, 587, 588, 735, 736, 750, 751, 365, 366, 774, 775, 788, 789, 369, 370, 335, 795, 903, 904, 923, 912].filterMap (fun i => lw_tbl[i]?) ∧ (mnV_3.all (fun q => mn_gw (id q))) = true := by decide +kernel
def mnV_4 : List Cond := [.selects RX8 yX8_beginPart yX8_beginPart, .instanceMethod yX8_block, .selects RX8 yX8_block yX8_block, .instanceMethod yX8_merge, .selects RX8 yX8_merge yX8_merge, .instanceMethod yX8_add, .selects RX8 yX8_add yX8_add, .instanceMethod yX8_cell, .selects RX8 yX8_cell yX8_cell, .instanceMethod yX8_isArgument, .selects RX8 yX8_isArgument yX8_isArgument, .static yX8_takes, .static yX8_puts, .instanceMethod yX8_goAllWays, .selects RX8 yX8_goAllWays yX8_goAllWays, .instanceMethod yX8_reach, .selects RX8 yX8_reach yX8_reach, .instanceMethod yX8_stackFault, .selects RX8 yX8_stackFault yX8_stackFault, .instanceMethod yX8_faultOf, .selects RX8 yX8_faultOf yX8_faultOf, .instanceMethod yX8_programFault, .selects RX8 yX8_programFault yX8_programFault, .instanceMethod yX8_fault, .selects RX8 yX8_fault yX8_fault, .instanceMethod yX8_start, .selects RX8 yX8_start yX8_start, .instanceMethod yX8_reset, .selects RX8 yX8_reset yX8_reset, .instanceMethod yX8_open, .selects RX8 yX8_open yX8_open, .instanceMethod yX8_readAt, .selects RX8 yX8_readAt yX8_readAt, .instanceMethod yX8_writeAt, .selects RX8 yX8_writeAt yX8_writeAt, .instanceMethod yX8_isNeeded, .selects RX8 yX8_isNeeded yX8_isNeeded, .instanceMethod yX8_tidy, .selects RX8 yX8_tidy yX8_tidy, .instanceMethod yX8_beginTask]
set_option maxRecDepth 20000 in
theorem mnVW_4 : mnV_4.map id = [14, 907, 908, 915, 916, 919, 920, 926, 927, 943, 17, 954, 957, 951, 19, 961, 20, 947, 18, 939, 16, 935, 15, 930, 931, 964, 965, 976, 977, 969, 21, 1021, 32, 1037, 35, 1053, 39, 1049, 38, 973].filterMap (fun i => lw_tbl[i]?) ∧ (mnV_4.all (fun q => mn_gw (id q))) = true := by decide +kernel
def mnV_5 : List Cond := [.selects RX8 yX8_beginTask yX8_beginTask, .instanceMethod yX8_fail, .selects RX8 yX8_fail yX8_fail, .instanceMethod yX8_top, .selects RX8 yX8_top yX8_top, .instanceMethod yX8_pop, .selects RX8 yX8_pop yX8_pop, .instanceMethod yX8_push, .selects RX8 yX8_push yX8_push, .static yX8_reckon, .instanceMethod yX8_holder, .selects RX8 yX8_holder yX8_holder, .instanceMethod yX8_isJoin, .selects RX8 yX8_isJoin yX8_isJoin, .instanceMethod yX8_waits, .selects RX8 yX8_waits yX8_waits, .instanceMethod yX8_stepOne, .selects RX8 yX8_stepOne yX8_stepOne, .instanceMethod yX8_simple, .selects RX8 yX8_simple yX8_simple, .instanceMethod yX8_fork, .selects RX8 yX8_fork yX8_fork, .instanceMethod yX8_join, .selects RX8 yX8_join yX8_join, .instanceMethod yX8_bring, .selects RX8 yX8_bring yX8_bring, .instanceMethod yX8_together, .selects RX8 yX8_together yX8_together, .instanceMethod yX8_merged, .selects RX8 yX8_merged yX8_merged, .instanceMethod yX8_step, .selects RX8 yX8_step yX8_step, .instanceMethod yX8_go, .selects RX8 yX8_go yX8_go, .instanceMethod yX8_canGoOn, .selects RX8 yX8_canGoOn yX8_canGoOn, .instanceMethod yX8_choose, .selects RX8 yX8_choose yX8_choose, .instanceMethod yX8_run, .selects RX8 yX8_run yX8_run]
set_option maxRecDepth 20000 in
theorem mnVW_5 : mnV_5.map id = [22, 1005, 28, 993, 25, 1041, 36, 1045, 37, 1033, 997, 26, 989, 24, 985, 23, 1009, 29, 1061, 41, 1057, 40, 1013, 30, 1017, 31, 1025, 33, 1030, 34, 980, 981, 1001, 27, 1074, 43, 1070, 42, 1064, 1065].filterMap (fun i => lw_tbl[i]?) ∧ (mnV_5.all (fun q => mn_gw (id q))) = true := by decide +kernel
def mnV_6 : List Cond := [.instanceMethod yX8_isTask, .selects RX8 yX8_isTask yX8_isTask, .instanceMethod yX8_task, .selects RX8 yX8_task yX8_task, .instanceMethod yX8_tasks, .selects RX8 yX8_tasks yX8_tasks, .instanceMethod yX8_read, .selects RX8 yX8_read yX8_read, .instanceMethod yX8_print, .selects RX8 yX8_print yX8_print, .instanceMethod yX8_count, .selects RX8 yX8_count yX8_count, .static yJ6_bitCount_0f7a4, .static yJ9_min_7cf53, .static yL_block, .static yL_add, .static yL_merge, .static yL_cell, .static yL_start, .static yL_step, .static yL_run, .static yL_task, .static yL_read, .static yL_print]
set_option maxRecDepth 20000 in
theorem mnVW_6 : mnV_6.map id = [1082, 44, 1077, 1078, 1085, 1086, 1089, 1090, 1093, 1094, 1097, 1098, 385, 346, 391, 480, 520, 537, 546, 584, 732, 746, 771, 785].filterMap (fun i => lw_tbl[i]?) ∧ (mnV_6.all (fun q => mn_gw (id q))) = true := by decide +kernel
def mnV_i : List Cond := [.initialized RX7, .initialized RX0, .initialized RX1, .initialized RX2, .initialized RX3, .initialized RX4, .initialized RX5, .initialized RX6, .initialized RL, .initialized RX8, .initialized RJ6, .initialized RJ9]
set_option maxRecDepth 20000 in
theorem mnVW_i : mnV_i.map id = [46, 48, 49, 51, 47, 53, 52, 50, 45, 54, 62, 60].filterMap (fun i => lw_tbl[i]?) ∧ (mnV_i.all (fun q => mn_gw (id q))) = true := by decide +kernel
set_option maxRecDepth 20000 in
theorem mnU_0 : (u_ws RX0 TX0 4).map id = [89, 91, 93, 95].filterMap (fun i => lw_tbl[i]?) ∧ ((u_ws RX0 TX0 4).all (fun q => mn_gw (id q))) = true := by decide +kernel
set_option maxRecDepth 20000 in
theorem mnU_1 : (u_ws RX1 TX1 4).map id = [111, 113, 115, 117].filterMap (fun i => lw_tbl[i]?) ∧ ((u_ws RX1 TX1 4).all (fun q => mn_gw (id q))) = true := by decide +kernel
set_option maxRecDepth 20000 in
theorem mnU_2 : (u_ws RX2 TX2 5).map id = [171, 173, 175, 177, 179].filterMap (fun i => lw_tbl[i]?) ∧ ((u_ws RX2 TX2 5).all (fun q => mn_gw (id q))) = true := by decide +kernel
set_option maxRecDepth 20000 in
theorem mnU_3 : (u_ws RX3 TX3 8).map id = [133, 135, 137, 139, 141, 143, 145, 147].filterMap (fun i => lw_tbl[i]?) ∧ ((u_ws RX3 TX3 8).all (fun q => mn_gw (id q))) = true := by decide +kernel
set_option maxRecDepth 20000 in
theorem mnU_4 : (u_ws RX4 TX4 5).map id = [260, 262, 264, 266, 268].filterMap (fun i => lw_tbl[i]?) ∧ ((u_ws RX4 TX4 5).all (fun q => mn_gw (id q))) = true := by decide +kernel
set_option maxRecDepth 20000 in
theorem mnU_5 : (u_ws RX5 TX5 12).map id = [223, 225, 227, 229, 231, 233, 235, 237, 239, 241, 243, 245].filterMap (fun i => lw_tbl[i]?) ∧ ((u_ws RX5 TX5 12).all (fun q => mn_gw (id q))) = true := by decide +kernel
set_option maxRecDepth 20000 in
theorem mnU_6 : (u_ws RX6 TX6 9).map id = [285, 287, 289, 291, 293, 295, 297, 299, 301].filterMap (fun i => lw_tbl[i]?) ∧ ((u_ws RX6 TX6 9).all (fun q => mn_gw (id q))) = true := by decide +kernel
set_option maxRecDepth 20000 in
theorem mnU_7 : (u_ws RX7 TX7 2).map id = [306, 308].filterMap (fun i => lw_tbl[i]?) ∧ ((u_ws RX7 TX7 2).all (fun q => mn_gw (id q))) = true := by decide +kernel
set_option maxRecDepth 20000 in
theorem mnU_8 : (u_ws RX8 TX8 34).map id = [832, 834, 836, 838, 840, 842, 844, 846, 848, 850, 852, 854, 856, 858, 860, 862, 864, 866, 868, 870, 872, 874, 876, 878, 880, 882, 884, 886, 888, 890, 892, 894, 896, 898].filterMap (fun i => lw_tbl[i]?) ∧ ((u_ws RX8 TX8 34).all (fun q => mn_gw (id q))) = true := by decide +kernel
def mnV_n : List Cond := [.instantiable RX0 4, .instantiable RX1 4, .instantiable RX2 5, .instantiable RX3 8, .instantiable RX4 5, .instantiable RX5 12, .instantiable RX6 9, .instantiable RX7 2, .instantiable RX8 34]
set_option maxRecDepth 20000 in
theorem mnVW_n : mnV_n.map id = [80, 99, 161, 72, 248, 183, 151, 64, 793].filterMap (fun i => lw_tbl[i]?) ∧ (mnV_n.all (fun q => mn_gw (id q))) = true := by decide +kernel
def mnV_a : List Cond := [.arrayClass .int, .arrayClass .long, .arrayClass .boolean, .arrayOver (.object RX1), .arrayOver (.object RX5), .arrayOver (.object RX4), .instanceMethod objectInit]
set_option maxRecDepth 20000 in
theorem mnVW_a : mnV_a.map id = [98, 182, 901, 78, 157, 159, 69].filterMap (fun i => lw_tbl[i]?) ∧ (mnV_a.all (fun q => mn_gw (id q))) = true := by decide +kernel
set_option maxRecDepth 20000 in
theorem mnC_obj : Cond.code objectInit ⟨#[0xb1]⟩ 1 none ∈ mn_uw := List.mem_filter.mpr ⟨List.mem_of_getElem? (i := 70) rfl, rfl⟩
