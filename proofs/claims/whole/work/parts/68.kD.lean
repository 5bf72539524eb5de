/-! the class: program, segments -/
section KD
variable {b : Nat → Option va_E} {N : cN} {J : cJ} {P : cP} {nx : Option Nat} {r : mn_Res}
set_option maxHeartbeats 4000000 in
theorem kl_canBeginBlock {n : Nat} (hn : n ≤ 6) (hN : N 0 0 0 = nI n) : Cl 23 [.ref (4)] (cpic b N J P) nx = some ((cpic b N J P, nx, 0, 0), .inl (some (.int (bI (decide (n < 6)))))) := by
  refine Cl_of (x := mnI_X3_canBeginBlock) rfl ?_
  show Ev 23 0 [some (.ref (4))] [] _ _
  by_cases h : 6 ≤ n
  · have h2 : ¬ n < 6 := by omega
    simp (disch := first | omega | (simp only [cat_i, cat_r, ri_r, ri_0, tkv_r, sgv_r, cdv_r]; done)) only [eX3_canBeginBlock_0, eX3_canBeginBlock_1, eX3_canBeginBlock_4, eX3_canBeginBlock_6, eX3_canBeginBlock_9, eX3_canBeginBlock_10, eX3_canBeginBlock_13, ↓reduceIte, Evk_some, Evh_some, Evn_some, Evr_v, Evr_n, mk_i, mk_r, mk_0, mk_n, mk_l, mc0, mc1, mc2, mc3, mc4, mi_obj, Bool.and_self, Bool.true_and, Nat.add_zero, Nat.zero_add, nI_add, pk_mul, pk_sub, Nat.add_sub_cancel, eq_self, if_true, if_false, n10, bI_t, bI_f, bI_0, Nat.reduceAdd, Nat.reduceMul, Nat.reduceSub, nI_eq, nI_ltI, nI_leI, Nat.reduceEqDiff, Nat.reduceLT, Nat.reduceDiv, Nat.reduceMod, Nat.reduceLeDiff, ci_Code, ci_Frame, ci_Task, ci_Segment, ci_Main, ci_Program, ci_Checker, ci_World, tkv_s, sgv_s, cdv_s, tkv_n, sgv_n, cdv_n, tkv_k, sgv_k, cdv_k, cg_Program_blockCount, hN, h, h2, decide_false]
    exact (eX3_canBeginBlock_14 n0_z).mpr rfl
  · have h2 : n < 6 := by omega
    simp (disch := first | omega | (simp only [cat_i, cat_r, ri_r, ri_0, tkv_r, sgv_r, cdv_r]; done)) only [eX3_canBeginBlock_0, eX3_canBeginBlock_1, eX3_canBeginBlock_4, eX3_canBeginBlock_6, eX3_canBeginBlock_9, eX3_canBeginBlock_10, eX3_canBeginBlock_13, ↓reduceIte, Evk_some, Evh_some, Evn_some, Evr_v, Evr_n, mk_i, mk_r, mk_0, mk_n, mk_l, mc0, mc1, mc2, mc3, mc4, mi_obj, Bool.and_self, Bool.true_and, Nat.add_zero, Nat.zero_add, nI_add, pk_mul, pk_sub, Nat.add_sub_cancel, eq_self, if_true, if_false, n10, bI_t, bI_f, bI_0, Nat.reduceAdd, Nat.reduceMul, Nat.reduceSub, nI_eq, nI_ltI, nI_leI, Nat.reduceEqDiff, Nat.reduceLT, Nat.reduceDiv, Nat.reduceMod, Nat.reduceLeDiff, ci_Code, ci_Frame, ci_Task, ci_Segment, ci_Main, ci_Program, ci_Checker, ci_World, tkv_s, sgv_s, cdv_s, tkv_n, sgv_n, cdv_n, tkv_k, sgv_k, cdv_k, cg_Program_blockCount, hN, h, h2, decide_true]
    exact (eX3_canBeginBlock_14 n1_z).mpr rfl
set_option maxHeartbeats 4000000 in
theorem kl_beginBlock {n : Nat} (hn : n < 6) (hN : N 0 0 0 = nI n) : Cl 24 [.ref (4)] (cpic b N J P) nx = some ((cpic b (up3 N 0 0 0 (nI (n + 1))) J (upP P 0 0 (some n)), nx, 0, 0), .inl (some (.int (nI n)))) := by
  refine Cl_of (x := mnI_X3_beginBlock) rfl ?_
  show Ev 24 0 [some (.ref (4))] [] _ _
  simp (disch := first | omega | (simp only [cat_i, cat_r, ri_r, ri_0, tkv_r, sgv_r, cdv_r]; done)) only [eX3_beginBlock_0, eX3_beginBlock_1, eX3_beginBlock_4, eX3_beginBlock_7, eX3_beginBlock_8, eX3_beginBlock_9, eX3_beginBlock_12, eX3_beginBlock_13, eX3_beginBlock_16, eX3_beginBlock_17, eX3_beginBlock_20, eX3_beginBlock_21, eX3_beginBlock_22, eX3_beginBlock_25, eX3_beginBlock_26, eX3_beginBlock_27, eX3_beginBlock_30, eX3_beginBlock_31, eX3_beginBlock_34, eX3_beginBlock_35, eX3_beginBlock_36, ↓reduceIte, Evk_some, Evh_some, Evn_some, Evr_v, Evr_n, mk_i, mk_r, mk_0, mk_n, mk_l, mc0, mc1, mc2, mc3, mc4, mi_obj, Bool.and_self, Bool.true_and, Nat.add_zero, Nat.zero_add, nI_add, pk_mul, pk_sub, Nat.add_sub_cancel, eq_self, if_true, if_false, n10, bI_t, bI_f, bI_0, Nat.reduceAdd, Nat.reduceMul, Nat.reduceSub, nI_eq, nI_ltI, nI_leI, Nat.reduceEqDiff, Nat.reduceLT, Nat.reduceDiv, Nat.reduceMod, Nat.reduceLeDiff, ci_Code, ci_Frame, ci_Task, ci_Segment, ci_Main, ci_Program, ci_Checker, ci_World, tkv_s, sgv_s, cdv_s, tkv_n, sgv_n, cdv_n, tkv_k, sgv_k, cdv_k, kl_canBeginBlock (show n ≤ 6 by omega) hN, hn, decide_true, Bool.true_eq_false, cg_Program_blocks, cg_Program_blockCount, hN, cq_blocks, cp_Program_latest_r, cp_Program_blockCount, up3_s]
set_option maxHeartbeats 4000000 in
theorem kl_canBeginMerge {n : Nat} (hn : n ≤ 2) (hN : N 1 0 0 = nI n) : Cl 25 [.ref (4)] (cpic b N J P) nx = some ((cpic b N J P, nx, 0, 0), .inl (some (.int (bI (decide (n < 2)))))) := by
  refine Cl_of (x := mnI_X3_canBeginMerge) rfl ?_
  show Ev 25 0 [some (.ref (4))] [] _ _
  by_cases h : 2 ≤ n
  · have h2 : ¬ n < 2 := by omega
    simp (disch := first | omega | (simp only [cat_i, cat_r, ri_r, ri_0, tkv_r, sgv_r, cdv_r]; done)) only [eX3_canBeginMerge_0, eX3_canBeginMerge_1, eX3_canBeginMerge_4, eX3_canBeginMerge_5, eX3_canBeginMerge_8, eX3_canBeginMerge_9, eX3_canBeginMerge_12, ↓reduceIte, Evk_some, Evh_some, Evn_some, Evr_v, Evr_n, mk_i, mk_r, mk_0, mk_n, mk_l, mc0, mc1, mc2, mc3, mc4, mi_obj, Bool.and_self, Bool.true_and, Nat.add_zero, Nat.zero_add, nI_add, pk_mul, pk_sub, Nat.add_sub_cancel, eq_self, if_true, if_false, n10, bI_t, bI_f, bI_0, Nat.reduceAdd, Nat.reduceMul, Nat.reduceSub, nI_eq, nI_ltI, nI_leI, Nat.reduceEqDiff, Nat.reduceLT, Nat.reduceDiv, Nat.reduceMod, Nat.reduceLeDiff, ci_Code, ci_Frame, ci_Task, ci_Segment, ci_Main, ci_Program, ci_Checker, ci_World, tkv_s, sgv_s, cdv_s, tkv_n, sgv_n, cdv_n, tkv_k, sgv_k, cdv_k, cg_Program_mergeCount, hN, h, h2, decide_false]
    exact (eX3_canBeginMerge_13 n0_z).mpr rfl
  · have h2 : n < 2 := by omega
    simp (disch := first | omega | (simp only [cat_i, cat_r, ri_r, ri_0, tkv_r, sgv_r, cdv_r]; done)) only [eX3_canBeginMerge_0, eX3_canBeginMerge_1, eX3_canBeginMerge_4, eX3_canBeginMerge_5, eX3_canBeginMerge_8, eX3_canBeginMerge_9, eX3_canBeginMerge_12, ↓reduceIte, Evk_some, Evh_some, Evn_some, Evr_v, Evr_n, mk_i, mk_r, mk_0, mk_n, mk_l, mc0, mc1, mc2, mc3, mc4, mi_obj, Bool.and_self, Bool.true_and, Nat.add_zero, Nat.zero_add, nI_add, pk_mul, pk_sub, Nat.add_sub_cancel, eq_self, if_true, if_false, n10, bI_t, bI_f, bI_0, Nat.reduceAdd, Nat.reduceMul, Nat.reduceSub, nI_eq, nI_ltI, nI_leI, Nat.reduceEqDiff, Nat.reduceLT, Nat.reduceDiv, Nat.reduceMod, Nat.reduceLeDiff, ci_Code, ci_Frame, ci_Task, ci_Segment, ci_Main, ci_Program, ci_Checker, ci_World, tkv_s, sgv_s, cdv_s, tkv_n, sgv_n, cdv_n, tkv_k, sgv_k, cdv_k, cg_Program_mergeCount, hN, h, h2, decide_true]
    exact (eX3_canBeginMerge_13 n1_z).mpr rfl
set_option maxHeartbeats 4000000 in
theorem kl_beginMerge {n : Nat} (hn : n < 2) (hN : N 1 0 0 = nI n) : Cl 26 [.ref (4)] (cpic b N J P) nx = some ((cpic b (up3 N 1 0 0 (nI (n + 1))) J (upP P 0 0 (some (6 + n))), nx, 0, 0), .inl (some (.int (nI n)))) := by
  refine Cl_of (x := mnI_X3_beginMerge) rfl ?_
  show Ev 26 0 [some (.ref (4))] [] _ _
  simp (disch := first | omega | (simp only [cat_i, cat_r, ri_r, ri_0, tkv_r, sgv_r, cdv_r]; done)) only [eX3_beginMerge_0, eX3_beginMerge_1, eX3_beginMerge_4, eX3_beginMerge_7, eX3_beginMerge_8, eX3_beginMerge_9, eX3_beginMerge_12, eX3_beginMerge_13, eX3_beginMerge_16, eX3_beginMerge_17, eX3_beginMerge_20, eX3_beginMerge_21, eX3_beginMerge_22, eX3_beginMerge_25, eX3_beginMerge_26, eX3_beginMerge_27, eX3_beginMerge_30, eX3_beginMerge_31, eX3_beginMerge_34, eX3_beginMerge_35, eX3_beginMerge_36, ↓reduceIte, Evk_some, Evh_some, Evn_some, Evr_v, Evr_n, mk_i, mk_r, mk_0, mk_n, mk_l, mc0, mc1, mc2, mc3, mc4, mi_obj, Bool.and_self, Bool.true_and, Nat.add_zero, Nat.zero_add, nI_add, pk_mul, pk_sub, Nat.add_sub_cancel, eq_self, if_true, if_false, n10, bI_t, bI_f, bI_0, Nat.reduceAdd, Nat.reduceMul, Nat.reduceSub, nI_eq, nI_ltI, nI_leI, Nat.reduceEqDiff, Nat.reduceLT, Nat.reduceDiv, Nat.reduceMod, Nat.reduceLeDiff, ci_Code, ci_Frame, ci_Task, ci_Segment, ci_Main, ci_Program, ci_Checker, ci_World, tkv_s, sgv_s, cdv_s, tkv_n, sgv_n, cdv_n, tkv_k, sgv_k, cdv_k, kl_canBeginMerge (show n ≤ 2 by omega) hN, hn, decide_true, Bool.true_eq_false, cg_Program_merges, cg_Program_mergeCount, hN, cq_merges, cp_Program_latest_r, cp_Program_mergeCount, up3_s]
set_option maxHeartbeats 4000000 in
theorem kl_blockAt {n x : Nat} (hn : n ≤ 6) (hN : N 0 0 0 = nI n) (hx : x < n) : Cl 27 [.ref (4), .int (nI x)] (cpic b N J P) nx = some ((cpic b N J P, nx, 0, 0), .inl (some (.ref (12 + 3 * x)))) := by
  refine Cl_of (x := mnI_X3_blockAt) rfl ?_
  show Ev 27 0 [some (.ref (4)), some (.int (nI x))] [] _ _
  simp (disch := first | omega | (simp only [cat_i, cat_r, ri_r, ri_0, tkv_r, sgv_r, cdv_r]; done)) only [eX3_blockAt_0, eX3_blockAt_1, eX3_blockAt_2, eX3_blockAt_5, eX3_blockAt_8, eX3_blockAt_11, eX3_blockAt_12, eX3_blockAt_15, eX3_blockAt_16, eX3_blockAt_17, eX3_blockAt_20, eX3_blockAt_21, eX3_blockAt_24, eX3_blockAt_25, eX3_blockAt_26, eX3_blockAt_26n, eX3_blockAt_26t, eX3_blockAt_26s, eX3_blockAt_26c, ↓reduceIte, Evk_some, Evh_some, Evn_some, Evr_v, Evr_n, mk_i, mk_r, mk_0, mk_n, mk_l, mc0, mc1, mc2, mc3, mc4, mi_obj, Bool.and_self, Bool.true_and, Nat.add_zero, Nat.zero_add, nI_add, pk_mul, pk_sub, Nat.add_sub_cancel, eq_self, if_true, if_false, n10, bI_t, bI_f, bI_0, Nat.reduceAdd, Nat.reduceMul, Nat.reduceSub, nI_eq, nI_ltI, nI_leI, Nat.reduceEqDiff, Nat.reduceLT, Nat.reduceDiv, Nat.reduceMod, Nat.reduceLeDiff, ci_Code, ci_Frame, ci_Task, ci_Segment, ci_Main, ci_Program, ci_Checker, ci_World, tkv_s, sgv_s, cdv_s, tkv_n, sgv_n, cdv_n, tkv_k, sgv_k, cdv_k, cg_Program_blockCount, hN, kl_within (show x < 2 ^ 31 by omega) (show n < 2 ^ 31 by omega), hx, decide_true, Bool.true_eq_false, cg_Program_blocks, cq_blocks]
set_option maxHeartbeats 4000000 in
theorem kl_hasRoom_n (hP : P 0 0 = none) : Cl 28 [.ref (4)] (cpic b N J P) nx = some ((cpic b N J P, nx, 0, 0), .inl (some (.int (nI 0)))) := by
  refine Cl_of (x := mnI_X3_hasRoom) rfl ?_
  show Ev 28 0 [some (.ref (4))] [] _ _
  simp (disch := first | omega | (simp only [cat_i, cat_r, ri_r, ri_0, tkv_r, sgv_r, cdv_r]; done)) only [eX3_hasRoom_0, eX3_hasRoom_1, eX3_hasRoom_4, eX3_hasRoom_4r, eX3_hasRoom_4n, eX3_hasRoom_7, eX3_hasRoom_8, eX3_hasRoom_11, eX3_hasRoom_14, eX3_hasRoom_17, eX3_hasRoom_18, eX3_hasRoom_21, ↓reduceIte, Evk_some, Evh_some, Evn_some, Evr_v, Evr_n, mk_i, mk_r, mk_0, mk_n, mk_l, mc0, mc1, mc2, mc3, mc4, mi_obj, Bool.and_self, Bool.true_and, Nat.add_zero, Nat.zero_add, nI_add, pk_mul, pk_sub, Nat.add_sub_cancel, eq_self, if_true, if_false, n10, bI_t, bI_f, bI_0, Nat.reduceAdd, Nat.reduceMul, Nat.reduceSub, nI_eq, nI_ltI, nI_leI, Nat.reduceEqDiff, Nat.reduceLT, Nat.reduceDiv, Nat.reduceMod, Nat.reduceLeDiff, ci_Code, ci_Frame, ci_Task, ci_Segment, ci_Main, ci_Program, ci_Checker, ci_World, tkv_s, sgv_s, cdv_s, tkv_n, sgv_n, cdv_n, tkv_k, sgv_k, cdv_k, cg_Program_latest, hP]
  exact (eX3_hasRoom_22 n0_z).mpr rfl
set_option maxHeartbeats 4000000 in
theorem kl_hasRoom {j n : Nat} (hj : j < 8) (hP : P 0 0 = some j) (hN : N 2 j 0 = nI n) (hn : n ≤ 24) : Cl 28 [.ref (4)] (cpic b N J P) nx = some ((cpic b N J P, nx, 0, 0), .inl (some (.int (bI (decide (n < cap j)))))) := by
  refine Cl_of (x := mnI_X3_hasRoom) rfl ?_
  show Ev 28 0 [some (.ref (4))] [] _ _
  by_cases h : cap j ≤ n
  · have h2 : ¬ n < cap j := by omega
    simp (disch := first | omega | (simp only [cat_i, cat_r, ri_r, ri_0, tkv_r, sgv_r, cdv_r]; done)) only [eX3_hasRoom_0, eX3_hasRoom_1, eX3_hasRoom_4, eX3_hasRoom_4r, eX3_hasRoom_4n, eX3_hasRoom_7, eX3_hasRoom_8, eX3_hasRoom_11, eX3_hasRoom_14, eX3_hasRoom_17, eX3_hasRoom_18, eX3_hasRoom_21, ↓reduceIte, Evk_some, Evh_some, Evn_some, Evr_v, Evr_n, mk_i, mk_r, mk_0, mk_n, mk_l, mc0, mc1, mc2, mc3, mc4, mi_obj, Bool.and_self, Bool.true_and, Nat.add_zero, Nat.zero_add, nI_add, pk_mul, pk_sub, Nat.add_sub_cancel, eq_self, if_true, if_false, n10, bI_t, bI_f, bI_0, Nat.reduceAdd, Nat.reduceMul, Nat.reduceSub, nI_eq, nI_ltI, nI_leI, Nat.reduceEqDiff, Nat.reduceLT, Nat.reduceDiv, Nat.reduceMod, Nat.reduceLeDiff, ci_Code, ci_Frame, ci_Task, ci_Segment, ci_Main, ci_Program, ci_Checker, ci_World, tkv_s, sgv_s, cdv_s, tkv_n, sgv_n, cdv_n, tkv_k, sgv_k, cdv_k, cg_Program_latest, hP, kl_isFull hj hN hn, h, h2, decide_true, decide_false, Bool.true_eq_false]
    exact (eX3_hasRoom_22 n0_z).mpr rfl
  · have h2 : n < cap j := by omega
    simp (disch := first | omega | (simp only [cat_i, cat_r, ri_r, ri_0, tkv_r, sgv_r, cdv_r]; done)) only [eX3_hasRoom_0, eX3_hasRoom_1, eX3_hasRoom_4, eX3_hasRoom_4r, eX3_hasRoom_4n, eX3_hasRoom_7, eX3_hasRoom_8, eX3_hasRoom_11, eX3_hasRoom_14, eX3_hasRoom_17, eX3_hasRoom_18, eX3_hasRoom_21, ↓reduceIte, Evk_some, Evh_some, Evn_some, Evr_v, Evr_n, mk_i, mk_r, mk_0, mk_n, mk_l, mc0, mc1, mc2, mc3, mc4, mi_obj, Bool.and_self, Bool.true_and, Nat.add_zero, Nat.zero_add, nI_add, pk_mul, pk_sub, Nat.add_sub_cancel, eq_self, if_true, if_false, n10, bI_t, bI_f, bI_0, Nat.reduceAdd, Nat.reduceMul, Nat.reduceSub, nI_eq, nI_ltI, nI_leI, Nat.reduceEqDiff, Nat.reduceLT, Nat.reduceDiv, Nat.reduceMod, Nat.reduceLeDiff, ci_Code, ci_Frame, ci_Task, ci_Segment, ci_Main, ci_Program, ci_Checker, ci_World, tkv_s, sgv_s, cdv_s, tkv_n, sgv_n, cdv_n, tkv_k, sgv_k, cdv_k, cg_Program_latest, hP, kl_isFull hj hN hn, h, h2, decide_true, decide_false]
    exact (eX3_hasRoom_22 n1_z).mpr rfl
set_option maxHeartbeats 4000000 in
theorem kl_mergeOf {c m : Nat} (hc : c < 12) (hm : N 6 0 c = nI m) (hm2 : m < 2) : Cl 29 [.ref (4), .int (nI c)] (cpic b N J P) nx = some ((cpic b N J P, nx, 0, 0), .inl (some (.ref (12 + 3 * (6 + m))))) := by
  refine Cl_of (x := mnI_X3_mergeOf) rfl ?_
  show Ev 29 0 [some (.ref (4)), some (.int (nI c))] [] _ _
  simp (disch := first | omega | (simp only [cat_i, cat_r, ri_r, ri_0, tkv_r, sgv_r, cdv_r]; done)) only [eX3_mergeOf_0, eX3_mergeOf_1, eX3_mergeOf_4, eX3_mergeOf_5, eX3_mergeOf_8, eX3_mergeOf_9, eX3_mergeOf_10, eX3_mergeOf_11, eX3_mergeOf_11n, eX3_mergeOf_11t, eX3_mergeOf_11s, eX3_mergeOf_11c, ↓reduceIte, Evk_some, Evh_some, Evn_some, Evr_v, Evr_n, mk_i, mk_r, mk_0, mk_n, mk_l, mc0, mc1, mc2, mc3, mc4, mi_obj, Bool.and_self, Bool.true_and, Nat.add_zero, Nat.zero_add, nI_add, pk_mul, pk_sub, Nat.add_sub_cancel, eq_self, if_true, if_false, n10, bI_t, bI_f, bI_0, Nat.reduceAdd, Nat.reduceMul, Nat.reduceSub, nI_eq, nI_ltI, nI_leI, Nat.reduceEqDiff, Nat.reduceLT, Nat.reduceDiv, Nat.reduceMod, Nat.reduceLeDiff, ci_Code, ci_Frame, ci_Task, ci_Segment, ci_Main, ci_Program, ci_Checker, ci_World, tkv_s, sgv_s, cdv_s, tkv_n, sgv_n, cdv_n, tkv_k, sgv_k, cdv_k, cg_Program_merges, cg_Program_mergeNumbers, ca_mergeNumbers, hm, cq_merges]
/-- may every cell be brought, in the class -/
def gdC (N : cN) (nm c : Nat) : Bool := !decide (N 5 0 c = nI 3) || decide (N 6 0 c < nI nm)
set_option maxHeartbeats 4000000 in
theorem kv_lacks {nm : Nat} (h2 : N 1 0 0 = nI nm) : ∀ (j k : Nat), k + j = 12 → Ev 30 2 [some (.ref 4), some (.int (nI k))] [] (cpic b N J P, nx, 0, 0) ((cpic b N J P, nx, 0, 0), .inl (some (.int (bI (!(List.range' k j).all (gdC N nm)))))) := by
  intro j
  induction j with
  | zero =>
    intro k hk
    have hk : k = 12 := by omega
    subst hk
    refine eX3_lacksMerge_2.mpr ?_
    simp (disch := first | omega | (simp only [cat_i, cat_r, ri_r, ri_0, tkv_r, sgv_r, cdv_r]; done)) only [eX3_lacksMerge_3, eX3_lacksMerge_5, eX3_lacksMerge_8, eX3_lacksMerge_9, eX3_lacksMerge_12, eX3_lacksMerge_13, eX3_lacksMerge_14, eX3_lacksMerge_15, eX3_lacksMerge_18, eX3_lacksMerge_19, eX3_lacksMerge_22, eX3_lacksMerge_23, eX3_lacksMerge_24, eX3_lacksMerge_25, eX3_lacksMerge_28, eX3_lacksMerge_31, eX3_lacksMerge_32, eX3_lacksMerge_33, eX3_lacksMerge_36, eX3_lacksMerge_39, ↓reduceIte, Evk_some, Evh_some, Evn_some, Evr_v, Evr_n, mk_i, mk_r, mk_0, mk_n, mk_l, mc0, mc1, mc2, mc3, mc4, mi_obj, Bool.and_self, Bool.true_and, Nat.add_zero, Nat.zero_add, nI_add, pk_mul, pk_sub, Nat.add_sub_cancel, eq_self, if_true, if_false, n10, bI_t, bI_f, bI_0, Nat.reduceAdd, Nat.reduceMul, Nat.reduceSub, nI_eq, nI_ltI, nI_leI, Nat.reduceEqDiff, Nat.reduceLT, Nat.reduceDiv, Nat.reduceMod, Nat.reduceLeDiff, ci_Code, ci_Frame, ci_Task, ci_Segment, ci_Main, ci_Program, ci_Checker, ci_World, tkv_s, sgv_s, cdv_s, tkv_n, sgv_n, cdv_n, tkv_k, sgv_k, cdv_k, List.range'_zero, List.all_nil, Bool.not_true]
    exact (eX3_lacksMerge_40 n0_z).mpr rfl
  | succ j ih =>
    intro k hk
    have hq : ¬ 12 ≤ k := by omega
    rw [List.range'_succ, List.all_cons]
    refine eX3_lacksMerge_2.mpr ?_
    have i := ih (k + 1) (by omega)
    by_cases h3 : N 5 0 k = nI 3
    · by_cases h4 : N 6 0 k < nI nm
      · have hg : gdC N nm k = true := by unfold gdC; simp [h4]
        rw [hg, Bool.true_and]
        simp (disch := first | omega | (simp only [cat_i, cat_r, ri_r, ri_0, tkv_r, sgv_r, cdv_r]; done)) only [eX3_lacksMerge_3, eX3_lacksMerge_5, eX3_lacksMerge_8, eX3_lacksMerge_9, eX3_lacksMerge_12, eX3_lacksMerge_13, eX3_lacksMerge_14, eX3_lacksMerge_15, eX3_lacksMerge_18, eX3_lacksMerge_19, eX3_lacksMerge_22, eX3_lacksMerge_23, eX3_lacksMerge_24, eX3_lacksMerge_25, eX3_lacksMerge_28, eX3_lacksMerge_31, eX3_lacksMerge_32, eX3_lacksMerge_33, eX3_lacksMerge_36, ↓reduceIte, Evk_some, Evh_some, Evn_some, Evr_v, Evr_n, mk_i, mk_r, mk_0, mk_n, mk_l, mc0, mc1, mc2, mc3, mc4, mi_obj, Bool.and_self, Bool.true_and, Nat.add_zero, Nat.zero_add, nI_add, pk_mul, pk_sub, Nat.add_sub_cancel, eq_self, if_true, if_false, n10, bI_t, bI_f, bI_0, Nat.reduceAdd, Nat.reduceMul, Nat.reduceSub, nI_eq, nI_ltI, nI_leI, Nat.reduceEqDiff, Nat.reduceLT, Nat.reduceDiv, Nat.reduceMod, Nat.reduceLeDiff, ci_Code, ci_Frame, ci_Task, ci_Segment, ci_Main, ci_Program, ci_Checker, ci_World, tkv_s, sgv_s, cdv_s, tkv_n, sgv_n, cdv_n, tkv_k, sgv_k, cdv_k, hq, cg_Program_kinds, ca_kinds, cg_Program_mergeNumbers, ca_mergeNumbers, cg_Program_mergeCount, h2, h3, h4]
        exact i
      · have hg : gdC N nm k = false := by unfold gdC; simp [h3, h4]
        rw [hg, Bool.false_and]
        simp (disch := first | omega | (simp only [cat_i, cat_r, ri_r, ri_0, tkv_r, sgv_r, cdv_r]; done)) only [eX3_lacksMerge_3, eX3_lacksMerge_5, eX3_lacksMerge_8, eX3_lacksMerge_9, eX3_lacksMerge_12, eX3_lacksMerge_13, eX3_lacksMerge_14, eX3_lacksMerge_15, eX3_lacksMerge_18, eX3_lacksMerge_19, eX3_lacksMerge_22, eX3_lacksMerge_23, eX3_lacksMerge_24, eX3_lacksMerge_25, eX3_lacksMerge_28, eX3_lacksMerge_31, ↓reduceIte, Evk_some, Evh_some, Evn_some, Evr_v, Evr_n, mk_i, mk_r, mk_0, mk_n, mk_l, mc0, mc1, mc2, mc3, mc4, mi_obj, Bool.and_self, Bool.true_and, Nat.add_zero, Nat.zero_add, nI_add, pk_mul, pk_sub, Nat.add_sub_cancel, eq_self, if_true, if_false, n10, bI_t, bI_f, bI_0, Nat.reduceAdd, Nat.reduceMul, Nat.reduceSub, nI_eq, nI_ltI, nI_leI, Nat.reduceEqDiff, Nat.reduceLT, Nat.reduceDiv, Nat.reduceMod, Nat.reduceLeDiff, ci_Code, ci_Frame, ci_Task, ci_Segment, ci_Main, ci_Program, ci_Checker, ci_World, tkv_s, sgv_s, cdv_s, tkv_n, sgv_n, cdv_n, tkv_k, sgv_k, cdv_k, hq, cg_Program_kinds, ca_kinds, cg_Program_mergeNumbers, ca_mergeNumbers, cg_Program_mergeCount, h2, h3, h4, Bool.not_false]
        exact (eX3_lacksMerge_32 n1_z).mpr rfl
    · have hg : gdC N nm k = true := by unfold gdC; simp [h3]
      rw [hg, Bool.true_and]
      simp (disch := first | omega | (simp only [cat_i, cat_r, ri_r, ri_0, tkv_r, sgv_r, cdv_r]; done)) only [eX3_lacksMerge_3, eX3_lacksMerge_5, eX3_lacksMerge_8, eX3_lacksMerge_9, eX3_lacksMerge_12, eX3_lacksMerge_13, eX3_lacksMerge_14, eX3_lacksMerge_15, eX3_lacksMerge_18, eX3_lacksMerge_19, eX3_lacksMerge_22, eX3_lacksMerge_23, eX3_lacksMerge_24, eX3_lacksMerge_25, eX3_lacksMerge_28, eX3_lacksMerge_31, eX3_lacksMerge_32, eX3_lacksMerge_33, eX3_lacksMerge_36, ↓reduceIte, Evk_some, Evh_some, Evn_some, Evr_v, Evr_n, mk_i, mk_r, mk_0, mk_n, mk_l, mc0, mc1, mc2, mc3, mc4, mi_obj, Bool.and_self, Bool.true_and, Nat.add_zero, Nat.zero_add, nI_add, pk_mul, pk_sub, Nat.add_sub_cancel, eq_self, if_true, if_false, n10, bI_t, bI_f, bI_0, Nat.reduceAdd, Nat.reduceMul, Nat.reduceSub, nI_eq, nI_ltI, nI_leI, Nat.reduceEqDiff, Nat.reduceLT, Nat.reduceDiv, Nat.reduceMod, Nat.reduceLeDiff, ci_Code, ci_Frame, ci_Task, ci_Segment, ci_Main, ci_Program, ci_Checker, ci_World, tkv_s, sgv_s, cdv_s, tkv_n, sgv_n, cdv_n, tkv_k, sgv_k, cdv_k, hq, cg_Program_kinds, ca_kinds, h3]
      exact i
set_option maxHeartbeats 4000000 in
theorem kl_lacksMerge {nm : Nat} (h2 : N 1 0 0 = nI nm) : Cl 30 [.ref (4)] (cpic b N J P) nx = some ((cpic b N J P, nx, 0, 0), .inl (some (.int (bI (!(List.range' 0 12).all (gdC N nm)))))) := by
  refine Cl_of (x := mnI_X3_lacksMerge) rfl ?_
  show Ev 30 0 [some (.ref (4)), none] [] _ _
  rw [eX3_lacksMerge_0, eX3_lacksMerge_1]
  exact kv_lacks h2 12 0 (by omega)
-- the mask of a way down
set_option maxHeartbeats 4000000 in
theorem kv_above {w : Nat → Nat} {s0 e : Nat} : ∀ (l : List Nat) (q : Option Nat) (m : Nat), pth (P 6) q l (some e) → (∀ s ∈ l, s < 23 ∧ N 21 s 0 = nI (w s) ∧ w s < 4096) → m < 4096 → Ev 38 4 [some (.ref s0), some (.ref (103 + 2 * e)), some (.int (nI m)), some (sgv q)] [] (cpic b N J P, nx, 0, 0) ((cpic b N J P, nx, 0, 0), .inl (some (.int (nI (orL w l m))))) := by
  intro l
  induction l with
  | nil =>
    intro q m hp _ hm
    have hp : q = some e := hp
    subst hp
    simp (disch := first | omega | (simp only [cat_i, cat_r, ri_r, ri_0, tkv_r, sgv_r, cdv_r]; done)) only [eX4_writtenAbove_0, eX4_writtenAbove_1, eX4_writtenAbove_2, eX4_writtenAbove_3, eX4_writtenAbove_3n, eX4_writtenAbove_3t, eX4_writtenAbove_3s, eX4_writtenAbove_3c, eX4_writtenAbove_4, eX4_writtenAbove_4n, eX4_writtenAbove_4t, eX4_writtenAbove_4s, eX4_writtenAbove_4c, eX4_writtenAbove_5, eX4_writtenAbove_5r, eX4_writtenAbove_5n, eX4_writtenAbove_8, eX4_writtenAbove_8n, eX4_writtenAbove_8t, eX4_writtenAbove_8s, eX4_writtenAbove_8c, eX4_writtenAbove_9, eX4_writtenAbove_9n, eX4_writtenAbove_9t, eX4_writtenAbove_9s, eX4_writtenAbove_9c, eX4_writtenAbove_10, eX4_writtenAbove_10n, eX4_writtenAbove_13, eX4_writtenAbove_14, eX4_writtenAbove_14n, eX4_writtenAbove_14t, eX4_writtenAbove_14s, eX4_writtenAbove_14c, eX4_writtenAbove_15, eX4_writtenAbove_18, eX4_writtenAbove_19, eX4_writtenAbove_20, eX4_writtenAbove_20n, eX4_writtenAbove_20t, eX4_writtenAbove_20s, eX4_writtenAbove_20c, eX4_writtenAbove_21, eX4_writtenAbove_24, eX4_writtenAbove_24n, eX4_writtenAbove_24t, eX4_writtenAbove_24s, eX4_writtenAbove_24c, eX4_writtenAbove_25, eX4_writtenAbove_28, eX4_writtenAbove_29, ↓reduceIte, Evk_some, Evh_some, Evn_some, Evr_v, Evr_n, mk_i, mk_r, mk_0, mk_n, mk_l, mc0, mc1, mc2, mc3, mc4, mi_obj, Bool.and_self, Bool.true_and, Nat.add_zero, Nat.zero_add, nI_add, pk_mul, pk_sub, Nat.add_sub_cancel, eq_self, if_true, if_false, n10, bI_t, bI_f, bI_0, Nat.reduceAdd, Nat.reduceMul, Nat.reduceSub, nI_eq, nI_ltI, nI_leI, Nat.reduceEqDiff, Nat.reduceLT, Nat.reduceDiv, Nat.reduceMod, Nat.reduceLeDiff, ci_Code, ci_Frame, ci_Task, ci_Segment, ci_Main, ci_Program, ci_Checker, ci_World, tkv_s, sgv_s, cdv_s, tkv_n, sgv_n, cdv_n, tkv_k, sgv_k, cdv_k, orL]
  | cons s l ih =>
    intro q m hp hl hm
    obtain ⟨rfl, hne, hp⟩ := hp
    obtain ⟨s1, s2, s3⟩ := hl s List.mem_cons_self
    obtain ⟨o1, o2⟩ := orN hm s3
    have i := ih (P 6 s) (m ||| w s) hp (fun x hx => hl x (List.mem_cons_of_mem _ hx)) o2
    unfold orL
    have hss : ¬ 103 + 2 * s = 103 + 2 * e := fun z => hne (by rw [show s = e by omega])
    rw [sgv_s]
    refine eX4_writtenAbove_4.mpr ?_
    simp (disch := first | omega | (simp only [cat_i, cat_r, ri_r, ri_0, tkv_r, sgv_r, cdv_r]; done)) only [eX4_writtenAbove_0, eX4_writtenAbove_1, eX4_writtenAbove_2, eX4_writtenAbove_3, eX4_writtenAbove_3n, eX4_writtenAbove_3t, eX4_writtenAbove_3s, eX4_writtenAbove_3c, eX4_writtenAbove_5, eX4_writtenAbove_5r, eX4_writtenAbove_5n, eX4_writtenAbove_8, eX4_writtenAbove_8n, eX4_writtenAbove_8t, eX4_writtenAbove_8s, eX4_writtenAbove_8c, eX4_writtenAbove_9, eX4_writtenAbove_9n, eX4_writtenAbove_9t, eX4_writtenAbove_9s, eX4_writtenAbove_9c, eX4_writtenAbove_10, eX4_writtenAbove_10n, eX4_writtenAbove_13, eX4_writtenAbove_14, eX4_writtenAbove_14n, eX4_writtenAbove_14t, eX4_writtenAbove_14s, eX4_writtenAbove_14c, eX4_writtenAbove_15, eX4_writtenAbove_18, eX4_writtenAbove_19, eX4_writtenAbove_20, eX4_writtenAbove_20n, eX4_writtenAbove_20t, eX4_writtenAbove_20s, eX4_writtenAbove_20c, eX4_writtenAbove_21, eX4_writtenAbove_24, eX4_writtenAbove_24n, eX4_writtenAbove_24t, eX4_writtenAbove_24s, eX4_writtenAbove_24c, eX4_writtenAbove_25, eX4_writtenAbove_28, eX4_writtenAbove_29, ↓reduceIte, Evk_some, Evh_some, Evn_some, Evr_v, Evr_n, mk_i, mk_r, mk_0, mk_n, mk_l, mc0, mc1, mc2, mc3, mc4, mi_obj, Bool.and_self, Bool.true_and, Nat.add_zero, Nat.zero_add, nI_add, pk_mul, pk_sub, Nat.add_sub_cancel, eq_self, if_true, if_false, n10, bI_t, bI_f, bI_0, Nat.reduceAdd, Nat.reduceMul, Nat.reduceSub, nI_eq, nI_ltI, nI_leI, Nat.reduceEqDiff, Nat.reduceLT, Nat.reduceDiv, Nat.reduceMod, Nat.reduceLeDiff, ci_Code, ci_Frame, ci_Task, ci_Segment, ci_Main, ci_Program, ci_Checker, ci_World, tkv_s, sgv_s, cdv_s, tkv_n, sgv_n, cdv_n, tkv_k, sgv_k, cdv_k, hss, cg_Segment_written, cg_Segment_below, s2, o1]
    exact i
set_option maxHeartbeats 4000000 in
theorem kl_writtenAbove {w : Nat → Nat} {s e : Nat} {l : List Nat} (hp : pth (P 6) (some s) l (some e)) (hl : ∀ s ∈ l, s < 23 ∧ N 21 s 0 = nI (w s) ∧ w s < 4096) : Cl 38 [.ref (103 + 2 * s), .ref (103 + 2 * e)] (cpic b N J P) nx = some ((cpic b N J P, nx, 0, 0), .inl (some (.int (nI (orL w l 0))))) := by
  refine Cl_of (x := mnI_X4_writtenAbove) rfl ?_
  show Ev 38 0 [some (.ref (103 + 2 * s)), some (.ref (103 + 2 * e)), none, none] [] _ _
  have i := kv_above (b := b) (N := N) (J := J) (nx := nx) (s0 := 103 + 2 * s) l _ 0 hp hl (by decide)
  rw [sgv_s] at i
  simp (disch := first | omega | (simp only [cat_i, cat_r, ri_r, ri_0, tkv_r, sgv_r, cdv_r]; done)) only [eX4_writtenAbove_0, eX4_writtenAbove_1, eX4_writtenAbove_2, eX4_writtenAbove_3, eX4_writtenAbove_3n, eX4_writtenAbove_3t, eX4_writtenAbove_3s, eX4_writtenAbove_3c, ↓reduceIte, Evk_some, Evh_some, Evn_some, Evr_v, Evr_n, mk_i, mk_r, mk_0, mk_n, mk_l, mc0, mc1, mc2, mc3, mc4, mi_obj, Bool.and_self, Bool.true_and, Nat.add_zero, Nat.zero_add, nI_add, pk_mul, pk_sub, Nat.add_sub_cancel, eq_self, if_true, if_false, n10, bI_t, bI_f, bI_0, Nat.reduceAdd, Nat.reduceMul, Nat.reduceSub, nI_eq, nI_ltI, nI_leI, Nat.reduceEqDiff, Nat.reduceLT, Nat.reduceDiv, Nat.reduceMod, Nat.reduceLeDiff, ci_Code, ci_Frame, ci_Task, ci_Segment, ci_Main, ci_Program, ci_Checker, ci_World, tkv_s, sgv_s, cdv_s, tkv_n, sgv_n, cdv_n, tkv_k, sgv_k, cdv_k]
  exact i
def pc1 (x : Int32) : Int32 := x - ((x.toUInt32 >>> ((nI 1).toUInt32 &&& Int32.toUInt32 31)).toInt32 &&& nI 1431655765)
def pc2 (x : Int32) : Int32 := (x &&& nI 858993459) + ((x.toUInt32 >>> ((nI 2).toUInt32 &&& Int32.toUInt32 31)).toInt32 &&& nI 858993459)
def pc3 (x : Int32) : Int32 := (x + (x.toUInt32 >>> ((nI 4).toUInt32 &&& Int32.toUInt32 31)).toInt32) &&& nI 252645135
def pc4 (x : Int32) : Int32 := x + (x.toUInt32 >>> ((nI 8).toUInt32 &&& Int32.toUInt32 31)).toInt32
def pc5 (x : Int32) : Int32 := x + (x.toUInt32 >>> ((nI 16).toUInt32 &&& Int32.toUInt32 31)).toInt32
set_option maxHeartbeats 4000000 in
theorem kl_bitCount {p : Nat → Option va_E} {x : Int32} : Cl 135 [.int x] p nx = some ((p, nx, 0, 0), .inl (some (.int (pc5 (pc4 (pc3 (pc2 (pc1 x)))) &&& nI 63)))) := by
  refine Cl_of (x := mnI_J6_bitCount_0f7a4) rfl ?_
  show Ev 135 0 [some (.int x)] [] _ _
  simp only [eJ6_bitCount_0f7a4_0, eJ6_bitCount_0f7a4_1, eJ6_bitCount_0f7a4_2, eJ6_bitCount_0f7a4_3, eJ6_bitCount_0f7a4_4, eJ6_bitCount_0f7a4_7, eJ6_bitCount_0f7a4_8, eJ6_bitCount_0f7a4_9, eJ6_bitCount_0f7a4_10, eJ6_bitCount_0f7a4_11, eJ6_bitCount_0f7a4_14, eJ6_bitCount_0f7a4_15, eJ6_bitCount_0f7a4_16, eJ6_bitCount_0f7a4_17, eJ6_bitCount_0f7a4_18, eJ6_bitCount_0f7a4_21, eJ6_bitCount_0f7a4_22, eJ6_bitCount_0f7a4_23, eJ6_bitCount_0f7a4_24, eJ6_bitCount_0f7a4_25, eJ6_bitCount_0f7a4_26, eJ6_bitCount_0f7a4_27, eJ6_bitCount_0f7a4_28, eJ6_bitCount_0f7a4_29, eJ6_bitCount_0f7a4_32, eJ6_bitCount_0f7a4_33, eJ6_bitCount_0f7a4_34, eJ6_bitCount_0f7a4_35, eJ6_bitCount_0f7a4_36, eJ6_bitCount_0f7a4_38, eJ6_bitCount_0f7a4_39, eJ6_bitCount_0f7a4_40, eJ6_bitCount_0f7a4_41, eJ6_bitCount_0f7a4_42, eJ6_bitCount_0f7a4_43, eJ6_bitCount_0f7a4_45, eJ6_bitCount_0f7a4_46, eJ6_bitCount_0f7a4_47, eJ6_bitCount_0f7a4_48, eJ6_bitCount_0f7a4_49, eJ6_bitCount_0f7a4_51, eJ6_bitCount_0f7a4_52, pc1, pc2, pc3, pc4, pc5]
set_option maxRecDepth 100000 in
theorem pc_all : ∀ w, w < 4096 → pc5 (pc4 (pc3 (pc2 (pc1 (nI w))))) &&& nI 63 = nI (cntB w 12) := by decide +kernel
set_option maxHeartbeats 4000000 in
theorem kl_writtenCount {s w : Nat} (hs : s < 23) (hw : N 21 s 0 = nI w) (hw2 : w < 4096) : Cl 37 [.ref (103 + 2 * s)] (cpic b N J P) nx = some ((cpic b N J P, nx, 0, 0), .inl (some (.int (nI (cntB w 12))))) := by
  refine Cl_of (x := mnI_X4_writtenCount) rfl ?_
  show Ev 37 0 [some (.ref (103 + 2 * s))] [] _ _
  simp (disch := first | omega | (simp only [cat_i, cat_r, ri_r, ri_0, tkv_r, sgv_r, cdv_r]; done)) only [eX4_writtenCount_0, eX4_writtenCount_1, eX4_writtenCount_4, eX4_writtenCount_7, ↓reduceIte, Evk_some, Evh_some, Evn_some, Evr_v, Evr_n, mk_i, mk_r, mk_0, mk_n, mk_l, mc0, mc1, mc2, mc3, mc4, mi_obj, Bool.and_self, Bool.true_and, Nat.add_zero, Nat.zero_add, nI_add, pk_mul, pk_sub, Nat.add_sub_cancel, eq_self, if_true, if_false, n10, bI_t, bI_f, bI_0, Nat.reduceAdd, Nat.reduceMul, Nat.reduceSub, nI_eq, nI_ltI, nI_leI, Nat.reduceEqDiff, Nat.reduceLT, Nat.reduceDiv, Nat.reduceMod, Nat.reduceLeDiff, ci_Code, ci_Frame, ci_Task, ci_Segment, ci_Main, ci_Program, ci_Checker, ci_World, tkv_s, sgv_s, cdv_s, tkv_n, sgv_n, cdv_n, tkv_k, sgv_k, cdv_k, cg_Segment_written, hw, kl_bitCount, pc_all w hw2]
-- one segment takes in another: up to cell c
set_option maxHeartbeats 4000000 in
theorem kv_takeIn {s a ws : Nat} (hs : s < 23) (ha : a < 23) (hsa : a ≠ s) (hws : ws < 4096) : ∀ (j c : Nat), c + j = 12 → ∀ (N : cN) (J : cJ) (wa : Nat), N 21 s 0 = nI ws → N 21 a 0 = nI wa → wa < 4096 →
    ∃ N' J' wa', (∀ k i, ¬ (k = 21 ∧ i = a) → N' k i = N k i) ∧ N' 21 a 0 = nI wa' ∧ wa' < 4096 ∧ (∀ d, wa'.testBit d = (wa.testBit d || (decide (c ≤ d) && (decide (d < 12) && ws.testBit d)))) ∧ (∀ k i, ¬ (k = 4 ∧ i = a) → J' k i = J k i) ∧
      (∀ d, d < 12 → J' 4 a d = if c ≤ d ∧ ws.testBit d = true ∧ wa.testBit d = false then J 4 s d else J 4 a d) ∧
      (∀ r : mn_Res, Ev 39 2 [some (.ref (103 + 2 * a)), some (.ref (103 + 2 * s)), some (.int (nI c))] [] (cpic b N J P, nx, 0, 0) r ↔ Ev 39 54 [some (.ref (103 + 2 * a)), some (.ref (103 + 2 * s)), some (.int (nI 12))] [] (cpic b N' J' P, nx, 0, 0) r) := by
  intro j
  induction j with
  | zero =>
    intro c hc N J wa hs31 ha31 hwa
    have hc : c = 12 := by omega
    subst hc
    refine ⟨N, J, wa, fun _ _ _ => rfl, ha31, hwa, fun d => ?_, fun _ _ _ => rfl, fun d hd => ?_, fun r => ?_⟩
    · by_cases h : 12 ≤ d
      · have : ¬ d < 12 := by omega
        simp [this]
      · simp [h]
    · rw [if_neg (by omega)]
    · refine eX4_takeIn_2.trans ?_
      simp (disch := first | omega | (simp only [cat_i, cat_r, ri_r, ri_0, tkv_r, sgv_r, cdv_r]; done)) only [eX4_takeIn_3, eX4_takeIn_5, ↓reduceIte, Evk_some, Evh_some, Evn_some, Evr_v, Evr_n, mk_i, mk_r, mk_0, mk_n, mk_l, mc0, mc1, mc2, mc3, mc4, mi_obj, Bool.and_self, Bool.true_and, Nat.add_zero, Nat.zero_add, nI_add, pk_mul, pk_sub, Nat.add_sub_cancel, eq_self, if_true, if_false, n10, bI_t, bI_f, bI_0, Nat.reduceAdd, Nat.reduceMul, Nat.reduceSub, nI_eq, nI_ltI, nI_leI, Nat.reduceEqDiff, Nat.reduceLT, Nat.reduceDiv, Nat.reduceMod, Nat.reduceLeDiff, ci_Code, ci_Frame, ci_Task, ci_Segment, ci_Main, ci_Program, ci_Checker, ci_World, tkv_s, sgv_s, cdv_s, tkv_n, sgv_n, cdv_n, tkv_k, sgv_k, cdv_k]
  | succ j ih =>
    intro c hc N J wa hs31 ha31 hwa
    have h12 : ¬ 12 ≤ c := by omega
    have b1 : bt (nI ws) c = ws.testBit c := bt_nI (by omega) (by omega)
    have b2 : bt (nI wa) c = wa.testBit c := bt_nI (by omega) (by omega)
    have k1 := kl_hasWritten (b := b) (N := N) (J := J) (P := P) (nx := nx) (c := c) hs
    have k2 := kl_hasWritten (b := b) (N := N) (J := J) (P := P) (nx := nx) (c := c) ha
    rw [hs31, b1] at k1
    rw [ha31, b2] at k2
    by_cases hq : ws.testBit c = true ∧ wa.testBit c = false
    · obtain ⟨q1, q2⟩ := hq
      have hw2 : wa ||| 2 ^ c < 4096 := Nat.or_lt_two_pow (n := 12) hwa (Nat.pow_lt_pow_right (by decide) (by omega))
      obtain ⟨N', J', wa', i1, i3, i4, i5, i6, i8, i9⟩ := ih (c + 1) (by omega) (up3 N 21 a 0 (nI (wa ||| 2 ^ c))) (up3 J 4 a c (J 4 s c)) (wa ||| 2 ^ c) (by rw [up3_n (Ne.symm hsa)]; exact hs31) up3_s hw2
      refine ⟨N', J', wa', fun k i hk => (i1 k i hk).trans (up3_q hk), i3, i4, fun d => ?_, fun k i hk => (i6 k i hk).trans (up3_q hk), fun d hd => ?_, fun r => ?_⟩
      · rw [i5, Nat.testBit_or, Nat.testBit_two_pow]
        by_cases hcd : c = d
        · subst hcd
          simp [q1]
          omega
        · by_cases hd : c + 1 ≤ d
          · have : c ≤ d := by omega
            simp [hd, this, hcd]
          · have : ¬ c ≤ d := by omega
            simp [hd, this, hcd]
      · rw [i8 d hd]
        by_cases hcd : d = c
        · subst hcd
          rw [if_neg (by omega), if_pos ⟨Nat.le_refl _, q1, q2⟩, up3_s]
        · rw [up3_p hcd, up3_n (Ne.symm hsa), Nat.testBit_or, Nat.testBit_two_pow]
          have : decide (c = d) = false := by simp; omega
          rw [this, Bool.or_false]
          by_cases hd2 : c + 1 ≤ d
          · have : c ≤ d := by omega
            simp only [hd2, this]
          · rw [if_neg (fun z => hd2 z.1), if_neg (fun z => hd2 (by omega))]
      · refine Iff.trans ?_ (i9 r)
        refine eX4_takeIn_2.trans ?_
        rw [q1] at k1
        rw [q2] at k2
        simp (disch := first | omega | (simp only [cat_i, cat_r, ri_r, ri_0, tkv_r, sgv_r, cdv_r]; done)) only [eX4_takeIn_3, eX4_takeIn_5, eX4_takeIn_8, eX4_takeIn_8n, eX4_takeIn_8t, eX4_takeIn_8s, eX4_takeIn_8c, eX4_takeIn_9, eX4_takeIn_10, eX4_takeIn_13, eX4_takeIn_16, eX4_takeIn_17, eX4_takeIn_18, eX4_takeIn_21, eX4_takeIn_24, eX4_takeIn_25, eX4_takeIn_28, eX4_takeIn_29, eX4_takeIn_29n, eX4_takeIn_29t, eX4_takeIn_29s, eX4_takeIn_29c, eX4_takeIn_30, eX4_takeIn_33, eX4_takeIn_34, eX4_takeIn_35, eX4_takeIn_36, eX4_takeIn_37, eX4_takeIn_38, eX4_takeIn_41, eX4_takeIn_42, eX4_takeIn_43, eX4_takeIn_44, eX4_takeIn_45, eX4_takeIn_48, eX4_takeIn_51, ↓reduceIte, Evk_some, Evh_some, Evn_some, Evr_v, Evr_n, mk_i, mk_r, mk_0, mk_n, mk_l, mc0, mc1, mc2, mc3, mc4, mi_obj, Bool.and_self, Bool.true_and, Nat.add_zero, Nat.zero_add, nI_add, pk_mul, pk_sub, Nat.add_sub_cancel, eq_self, if_true, if_false, n10, bI_t, bI_f, bI_0, Nat.reduceAdd, Nat.reduceMul, Nat.reduceSub, nI_eq, nI_ltI, nI_leI, Nat.reduceEqDiff, Nat.reduceLT, Nat.reduceDiv, Nat.reduceMod, Nat.reduceLeDiff, ci_Code, ci_Frame, ci_Task, ci_Segment, ci_Main, ci_Program, ci_Checker, ci_World, tkv_s, sgv_s, cdv_s, tkv_n, sgv_n, cdv_n, tkv_k, sgv_k, cdv_k, h12, k1, k2, Bool.true_eq_false, cg_Segment_values, ca_values, cs_values, cg_Segment_written, cp_Segment_written, ha31, or_nI]
    · obtain ⟨N', J', wa', i1, i3, i4, i5, i6, i8, i9⟩ := ih (c + 1) (by omega) N J wa hs31 ha31 hwa
      refine ⟨N', J', wa', i1, i3, i4, fun d => ?_, i6, fun d hd => ?_, fun r => ?_⟩
      · rw [i5]
        by_cases hcd : c = d
        · subst hcd
          have h1 : ¬ c + 1 ≤ c := by omega
          have h2 : c < 12 := by omega
          simp only [h1, h2, decide_false, Bool.false_and, Nat.le_refl, decide_true, Bool.true_and, Bool.or_false]
          cases e1 : ws.testBit c with
          | false => simp
          | true =>
            cases e2 : wa.testBit c with
            | false => exact absurd ⟨e1, e2⟩ hq
            | true => rfl
        · by_cases hd : c + 1 ≤ d
          · have : c ≤ d := by omega
            simp [hd, this]
          · have : ¬ c ≤ d := by omega
            simp [hd, this]
      · rw [i8 d hd]
        by_cases hcd : d = c
        · subst hcd
          rw [if_neg (by omega), if_neg (fun z => hq z.2)]
        · by_cases hd2 : c + 1 ≤ d
          · have : c ≤ d := by omega
            simp only [hd2, this]
          · rw [if_neg (fun z => hd2 z.1), if_neg (fun z => hd2 (by omega))]
      · refine Iff.trans ?_ (i9 r)
        refine eX4_takeIn_2.trans ?_
        cases e1 : ws.testBit c with
        | false =>
          rw [e1] at k1
          simp (disch := first | omega | (simp only [cat_i, cat_r, ri_r, ri_0, tkv_r, sgv_r, cdv_r]; done)) only [eX4_takeIn_3, eX4_takeIn_5, eX4_takeIn_8, eX4_takeIn_8n, eX4_takeIn_8t, eX4_takeIn_8s, eX4_takeIn_8c, eX4_takeIn_9, eX4_takeIn_10, eX4_takeIn_13, eX4_takeIn_16, eX4_takeIn_17, eX4_takeIn_18, eX4_takeIn_21, eX4_takeIn_24, eX4_takeIn_25, eX4_takeIn_28, eX4_takeIn_29, eX4_takeIn_29n, eX4_takeIn_29t, eX4_takeIn_29s, eX4_takeIn_29c, eX4_takeIn_30, eX4_takeIn_33, eX4_takeIn_34, eX4_takeIn_35, eX4_takeIn_36, eX4_takeIn_37, eX4_takeIn_38, eX4_takeIn_41, eX4_takeIn_42, eX4_takeIn_43, eX4_takeIn_44, eX4_takeIn_45, eX4_takeIn_48, eX4_takeIn_51, ↓reduceIte, Evk_some, Evh_some, Evn_some, Evr_v, Evr_n, mk_i, mk_r, mk_0, mk_n, mk_l, mc0, mc1, mc2, mc3, mc4, mi_obj, Bool.and_self, Bool.true_and, Nat.add_zero, Nat.zero_add, nI_add, pk_mul, pk_sub, Nat.add_sub_cancel, eq_self, if_true, if_false, n10, bI_t, bI_f, bI_0, Nat.reduceAdd, Nat.reduceMul, Nat.reduceSub, nI_eq, nI_ltI, nI_leI, Nat.reduceEqDiff, Nat.reduceLT, Nat.reduceDiv, Nat.reduceMod, Nat.reduceLeDiff, ci_Code, ci_Frame, ci_Task, ci_Segment, ci_Main, ci_Program, ci_Checker, ci_World, tkv_s, sgv_s, cdv_s, tkv_n, sgv_n, cdv_n, tkv_k, sgv_k, cdv_k, h12, k1]
        | true =>
          have e2 : wa.testBit c = true := by
            cases e2 : wa.testBit c with
            | false => exact absurd ⟨e1, e2⟩ hq
            | true => rfl
          rw [e1] at k1
          rw [e2] at k2
          simp (disch := first | omega | (simp only [cat_i, cat_r, ri_r, ri_0, tkv_r, sgv_r, cdv_r]; done)) only [eX4_takeIn_3, eX4_takeIn_5, eX4_takeIn_8, eX4_takeIn_8n, eX4_takeIn_8t, eX4_takeIn_8s, eX4_takeIn_8c, eX4_takeIn_9, eX4_takeIn_10, eX4_takeIn_13, eX4_takeIn_16, eX4_takeIn_17, eX4_takeIn_18, eX4_takeIn_21, eX4_takeIn_24, eX4_takeIn_25, eX4_takeIn_28, eX4_takeIn_29, eX4_takeIn_29n, eX4_takeIn_29t, eX4_takeIn_29s, eX4_takeIn_29c, eX4_takeIn_30, eX4_takeIn_33, eX4_takeIn_34, eX4_takeIn_35, eX4_takeIn_36, eX4_takeIn_37, eX4_takeIn_38, eX4_takeIn_41, eX4_takeIn_42, eX4_takeIn_43, eX4_takeIn_44, eX4_takeIn_45, eX4_takeIn_48, eX4_takeIn_51, ↓reduceIte, Evk_some, Evh_some, Evn_some, Evr_v, Evr_n, mk_i, mk_r, mk_0, mk_n, mk_l, mc0, mc1, mc2, mc3, mc4, mi_obj, Bool.and_self, Bool.true_and, Nat.add_zero, Nat.zero_add, nI_add, pk_mul, pk_sub, Nat.add_sub_cancel, eq_self, if_true, if_false, n10, bI_t, bI_f, bI_0, Nat.reduceAdd, Nat.reduceMul, Nat.reduceSub, nI_eq, nI_ltI, nI_leI, Nat.reduceEqDiff, Nat.reduceLT, Nat.reduceDiv, Nat.reduceMod, Nat.reduceLeDiff, ci_Code, ci_Frame, ci_Task, ci_Segment, ci_Main, ci_Program, ci_Checker, ci_World, tkv_s, sgv_s, cdv_s, tkv_n, sgv_n, cdv_n, tkv_k, sgv_k, cdv_k, h12, k1, k2, Bool.true_eq_false]
theorem kl_takeIn {s a ws wa : Nat} (hs : s < 23) (ha : a < 23) (hsa : a ≠ s) (hws : ws < 4096) (h1 : N 21 s 0 = nI ws) (h2 : N 21 a 0 = nI wa) (hwa : wa < 4096) :
    ∃ N' J' wa', (∀ k i, ¬ (k = 21 ∧ i = a) → N' k i = N k i) ∧ N' 21 a 0 = nI wa' ∧ wa' < 4096 ∧ (∀ d, wa'.testBit d = (wa.testBit d || (decide (0 ≤ d) && (decide (d < 12) && ws.testBit d)))) ∧ (∀ k i, ¬ (k = 4 ∧ i = a) → J' k i = J k i) ∧
      (∀ d, d < 12 → J' 4 a d = if 0 ≤ d ∧ ws.testBit d = true ∧ wa.testBit d = false then J 4 s d else J 4 a d) ∧
      Cl 39 [.ref (103 + 2 * a), .ref (103 + 2 * s)] (cpic b N J P) nx = some ((cpic b (up3 N' 22 s 0 (nI 0)) J' (upP P 6 a (P 6 s)), nx, 0, 0), .inl none) := by
  obtain ⟨N', J', wa', i1, i3, i4, i5, i6, i8, i9⟩ := kv_takeIn (b := b) (P := P) (nx := nx) hs ha hsa hws 12 0 (by omega) N J wa h1 h2 hwa
  refine ⟨N', J', wa', i1, i3, i4, i5, i6, i8, Cl_of (x := mnI_X4_takeIn) rfl ?_⟩
  show Ev 39 0 [some (.ref (103 + 2 * a)), some (.ref (103 + 2 * s)), none] [] _ _
  rw [eX4_takeIn_0, eX4_takeIn_1]
  simp only [mk_r]
  refine (i9 _).mpr ?_
  simp (disch := first | omega | (simp only [cat_i, cat_r, ri_r, ri_0, tkv_r, sgv_r, cdv_r]; done)) only [eX4_takeIn_54, eX4_takeIn_55, eX4_takeIn_55n, eX4_takeIn_55t, eX4_takeIn_55s, eX4_takeIn_55c, eX4_takeIn_56, eX4_takeIn_59, eX4_takeIn_62, eX4_takeIn_62n, eX4_takeIn_62t, eX4_takeIn_62s, eX4_takeIn_62c, eX4_takeIn_63, eX4_takeIn_64, eX4_takeIn_67, ↓reduceIte, Evk_some, Evh_some, Evn_some, Evr_v, Evr_n, mk_i, mk_r, mk_0, mk_n, mk_l, mc0, mc1, mc2, mc3, mc4, mi_obj, Bool.and_self, Bool.true_and, Nat.add_zero, Nat.zero_add, nI_add, pk_mul, pk_sub, Nat.add_sub_cancel, eq_self, if_true, if_false, n10, bI_t, bI_f, bI_0, Nat.reduceAdd, Nat.reduceMul, Nat.reduceSub, nI_eq, nI_ltI, nI_leI, Nat.reduceEqDiff, Nat.reduceLT, Nat.reduceDiv, Nat.reduceMod, Nat.reduceLeDiff, ci_Code, ci_Frame, ci_Task, ci_Segment, ci_Main, ci_Program, ci_Checker, ci_World, tkv_s, sgv_s, cdv_s, tkv_n, sgv_n, cdv_n, tkv_k, sgv_k, cdv_k, cg_Segment_below, cp_Segment_below, cp_Segment_isLive0]
end KD
