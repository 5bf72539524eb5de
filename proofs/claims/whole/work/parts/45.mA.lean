/-! the reference: contracts of the leaves -/
section MA
variable {b : Nat → Option va_E} {F : Nat → Int32} {A : Nat → Nat → Int32} {L : Nat → Nat → Int64} {nx : Option Nat} {r : mn_Res}
set_option maxHeartbeats 4000000 in
theorem cl_in {p : Nat → Option va_E} {v : Int64} {lo hi : Int32} : Cl 86 [.long v, .int lo, .int hi] p nx = some ((p, nx, 0, 0), .inl (some (.int (bI (decide (lo.toInt64 ≤ v) && decide (v ≤ hi.toInt64)))))) := by
  refine Cl_of (x := mnI_X8_in) rfl ?_
  show Ev 86 0 [some (.long v), none, some (.int lo), some (.int hi)] [] _ _
  by_cases h1 : v < lo.toInt64
  · have h2 : ¬ lo.toInt64 ≤ v := Int64.not_le.mpr h1
    simp only [eX8_in_0, eX8_in_1, eX8_in_2, eX8_in_3, eX8_in_4, eX8_in_7, eX8_in_8, eX8_in_9, eX8_in_10, eX8_in_11, eX8_in_14, eX8_in_15, eX8_in_18, Evk_some, Evh_some, Evn_some, Evr_v, Evr_n, mk_i, mk_r, mk_0, mk_n, mk_l, mc0, mc1, mc2, mc3, mc4, mi_obj, Bool.and_self, Bool.true_and, Nat.add_zero, Nat.zero_add, nI_add, pk_mul, pk_sub, Nat.add_sub_cancel, eq_self, if_true, if_false, n10, bI_t, bI_f, bI_0, Nat.reduceAdd, Nat.reduceMul, Nat.reduceSub, nI_eq, nI_ltI, nI_leI, Nat.reduceEqDiff, Nat.reduceLT, Nat.reduceDiv, Nat.reduceMod, Nat.reduceLeDiff, lc_lt, lc_gt, h1, h2, decide_false, Bool.false_and]
    exact (eX8_in_19 n0_z).mpr rfl
  · have h2 : lo.toInt64 ≤ v := Int64.not_lt.mp h1
    by_cases h3 : hi.toInt64 < v
    · have h4 : ¬ v ≤ hi.toInt64 := Int64.not_le.mpr h3
      simp only [eX8_in_0, eX8_in_1, eX8_in_2, eX8_in_3, eX8_in_4, eX8_in_7, eX8_in_8, eX8_in_9, eX8_in_10, eX8_in_11, eX8_in_14, eX8_in_15, eX8_in_18, Evk_some, Evh_some, Evn_some, Evr_v, Evr_n, mk_i, mk_r, mk_0, mk_n, mk_l, mc0, mc1, mc2, mc3, mc4, mi_obj, Bool.and_self, Bool.true_and, Nat.add_zero, Nat.zero_add, nI_add, pk_mul, pk_sub, Nat.add_sub_cancel, eq_self, if_true, if_false, n10, bI_t, bI_f, bI_0, Nat.reduceAdd, Nat.reduceMul, Nat.reduceSub, nI_eq, nI_ltI, nI_leI, Nat.reduceEqDiff, Nat.reduceLT, Nat.reduceDiv, Nat.reduceMod, Nat.reduceLeDiff, lc_lt, lc_gt, h1, h2, h3, h4, decide_false, decide_true, Bool.and_false]
      exact (eX8_in_19 n0_z).mpr rfl
    · have h4 : v ≤ hi.toInt64 := Int64.not_lt.mp h3
      simp only [eX8_in_0, eX8_in_1, eX8_in_2, eX8_in_3, eX8_in_4, eX8_in_7, eX8_in_8, eX8_in_9, eX8_in_10, eX8_in_11, eX8_in_14, eX8_in_15, eX8_in_18, Evk_some, Evh_some, Evn_some, Evr_v, Evr_n, mk_i, mk_r, mk_0, mk_n, mk_l, mc0, mc1, mc2, mc3, mc4, mi_obj, Bool.and_self, Bool.true_and, Nat.add_zero, Nat.zero_add, nI_add, pk_mul, pk_sub, Nat.add_sub_cancel, eq_self, if_true, if_false, n10, bI_t, bI_f, bI_0, Nat.reduceAdd, Nat.reduceMul, Nat.reduceSub, nI_eq, nI_ltI, nI_leI, Nat.reduceEqDiff, Nat.reduceLT, Nat.reduceDiv, Nat.reduceMod, Nat.reduceLeDiff, lc_lt, lc_gt, h1, h2, h3, h4, decide_true]
      exact (eX8_in_19 n1_z).mpr rfl
set_option maxHeartbeats 4000000 in
theorem cl_thrown  : Cl 85 [.ref 149] (mpic b F A L) nx = some ((mpic b F A L, nx, 0, 0), .inl (some (.int (F 0)))) := by
  refine Cl_of (x := mnI_X8_thrown) rfl ?_
  show Ev 85 0 [some (.ref 149)] [] _ _
  simp only [eX8_thrown_0, eX8_thrown_1, eX8_thrown_4, Evk_some, Evh_some, Evn_some, Evr_v, Evr_n, mk_i, mk_r, mk_0, mk_n, mk_l, mc0, mc1, mc2, mc3, mc4, mi_obj, Bool.and_self, Bool.true_and, Nat.add_zero, Nat.zero_add, nI_add, pk_mul, pk_sub, Nat.add_sub_cancel, eq_self, if_true, if_false, n10, bI_t, bI_f, bI_0, Nat.reduceAdd, Nat.reduceMul, Nat.reduceSub, nI_eq, nI_ltI, nI_leI, Nat.reduceEqDiff, Nat.reduceLT, Nat.reduceDiv, Nat.reduceMod, Nat.reduceLeDiff, mg_code]
set_option maxHeartbeats 4000000 in
theorem cl_beginPart_ok {k : Nat} (hk : k < 8) (hr : F 9 = nI 0) : Cl 87 [.ref 149, .int (nI 1), .int (nI k)] (mpic b F A L) nx = some ((mpic b (up1 (up1 F 0 (nI 0)) 3 (nI k)) (up2 A 4 k (nI 0)) L, nx, 0, 0), .inl (some (.int (nI k)))) := by
  refine Cl_of (x := mnI_X8_beginPart) rfl ?_
  show Ev 87 0 [some (.ref 149), some (.int (nI 1)), some (.int (nI k))] [] _ _
  have h0 : up1 F 0 (nI 0) 0 = nI 0 := rfl
  simp (disch := first | omega | (simp only [cat_i, cat_r, ri_r, ri_0]; done)) only [eX8_beginPart_0, eX8_beginPart_1, eX8_beginPart_2, eX8_beginPart_5, eX8_beginPart_6, eX8_beginPart_9, eX8_beginPart_12, eX8_beginPart_13, eX8_beginPart_16, eX8_beginPart_17, eX8_beginPart_20, eX8_beginPart_21, eX8_beginPart_24, eX8_beginPart_27, eX8_beginPart_28, eX8_beginPart_29, eX8_beginPart_30, eX8_beginPart_31, eX8_beginPart_34, eX8_beginPart_35, eX8_beginPart_38, eX8_beginPart_39, eX8_beginPart_40, eX8_beginPart_41, eX8_beginPart_42, Evk_some, Evh_some, Evn_some, Evr_v, Evr_n, mk_i, mk_r, mk_0, mk_n, mk_l, mc0, mc1, mc2, mc3, mc4, mi_obj, Bool.and_self, Bool.true_and, Nat.add_zero, Nat.zero_add, nI_add, pk_mul, pk_sub, Nat.add_sub_cancel, eq_self, if_true, if_false, n10, bI_t, bI_f, bI_0, Nat.reduceAdd, Nat.reduceMul, Nat.reduceSub, nI_eq, nI_ltI, nI_leI, Nat.reduceEqDiff, Nat.reduceLT, Nat.reduceDiv, Nat.reduceMod, Nat.reduceLeDiff, mg_runs, mg_code, mg_size, mp_code, mp_latest, ms_size, hr, h0, nI_leI, Nat.le_refl]
set_option maxHeartbeats 4000000 in
theorem cl_beginPart_no {k : Nat} {m : Bool} (hr : m = false ∨ F 9 = nI 1) : Cl 87 [.ref 149, .int (bI m), .int (nI k)] (mpic b F A L) nx = some ((mpic b (up1 F 0 (nI 1)) A L, nx, 0, 0), .inl (some (.int (nI 0)))) := by
  refine Cl_of (x := mnI_X8_beginPart) rfl ?_
  show Ev 87 0 [some (.ref 149), some (.int (bI m)), some (.int (nI k))] [] _ _
  have h0 : up1 F 0 (nI 1) 0 = nI 1 := rfl
  have h1 : ¬ nI 1 ≤ nI 0 := by decide
  cases m with
  | false => simp (disch := first | omega | (simp only [cat_i, cat_r, ri_r, ri_0]; done)) only [eX8_beginPart_0, eX8_beginPart_1, eX8_beginPart_2, eX8_beginPart_5, eX8_beginPart_6, eX8_beginPart_9, eX8_beginPart_12, eX8_beginPart_13, eX8_beginPart_16, eX8_beginPart_17, eX8_beginPart_20, eX8_beginPart_21, eX8_beginPart_24, eX8_beginPart_27, eX8_beginPart_28, eX8_beginPart_29, eX8_beginPart_30, eX8_beginPart_31, eX8_beginPart_34, eX8_beginPart_35, eX8_beginPart_38, eX8_beginPart_39, eX8_beginPart_40, eX8_beginPart_41, eX8_beginPart_42, Evk_some, Evh_some, Evn_some, Evr_v, Evr_n, mk_i, mk_r, mk_0, mk_n, mk_l, mc0, mc1, mc2, mc3, mc4, mi_obj, Bool.and_self, Bool.true_and, Nat.add_zero, Nat.zero_add, nI_add, pk_mul, pk_sub, Nat.add_sub_cancel, eq_self, if_true, if_false, n10, bI_t, bI_f, bI_0, Nat.reduceAdd, Nat.reduceMul, Nat.reduceSub, nI_eq, nI_ltI, nI_leI, Nat.reduceEqDiff, Nat.reduceLT, Nat.reduceDiv, Nat.reduceMod, Nat.reduceLeDiff, mg_runs, mg_code, mp_code, h0, h1]
  | true =>
    have hr := hr.resolve_left (by simp)
    simp (disch := first | omega | (simp only [cat_i, cat_r, ri_r, ri_0]; done)) only [eX8_beginPart_0, eX8_beginPart_1, eX8_beginPart_2, eX8_beginPart_5, eX8_beginPart_6, eX8_beginPart_9, eX8_beginPart_12, eX8_beginPart_13, eX8_beginPart_16, eX8_beginPart_17, eX8_beginPart_20, eX8_beginPart_21, eX8_beginPart_24, eX8_beginPart_27, eX8_beginPart_28, eX8_beginPart_29, eX8_beginPart_30, eX8_beginPart_31, eX8_beginPart_34, eX8_beginPart_35, eX8_beginPart_38, eX8_beginPart_39, eX8_beginPart_40, eX8_beginPart_41, eX8_beginPart_42, Evk_some, Evh_some, Evn_some, Evr_v, Evr_n, mk_i, mk_r, mk_0, mk_n, mk_l, mc0, mc1, mc2, mc3, mc4, mi_obj, Bool.and_self, Bool.true_and, Nat.add_zero, Nat.zero_add, nI_add, pk_mul, pk_sub, Nat.add_sub_cancel, eq_self, if_true, if_false, n10, bI_t, bI_f, bI_0, Nat.reduceAdd, Nat.reduceMul, Nat.reduceSub, nI_eq, nI_ltI, nI_leI, Nat.reduceEqDiff, Nat.reduceLT, Nat.reduceDiv, Nat.reduceMod, Nat.reduceLeDiff, mg_runs, mg_code, mp_code, hr, h0, h1]
set_option maxHeartbeats 4000000 in
theorem cl_fail {t : Nat} (ht : t < 12) {y : Int32} : Cl 109 [.ref 149, .int (nI t), .int (y)] (mpic b F A L) nx = some ((mpic b F (up2 (up2 A 16 t (nI 2)) 17 t y) L, nx, 0, 0), .inl (none)) := by
  refine Cl_of (x := mnI_X8_fail) rfl ?_
  show Ev 109 0 [some (.ref 149), some (.int (nI t)), some (.int (y))] [] _ _
  simp (disch := first | omega | (simp only [cat_i, cat_r, ri_r, ri_0]; done)) only [eX8_fail_0, eX8_fail_1, eX8_fail_4, eX8_fail_5, eX8_fail_6, eX8_fail_7, eX8_fail_8, eX8_fail_11, eX8_fail_12, eX8_fail_13, eX8_fail_14, Evk_some, Evh_some, Evn_some, Evr_v, Evr_n, mk_i, mk_r, mk_0, mk_n, mk_l, mc0, mc1, mc2, mc3, mc4, mi_obj, Bool.and_self, Bool.true_and, Nat.add_zero, Nat.zero_add, nI_add, pk_mul, pk_sub, Nat.add_sub_cancel, eq_self, if_true, if_false, n10, bI_t, bI_f, bI_0, Nat.reduceAdd, Nat.reduceMul, Nat.reduceSub, nI_eq, nI_ltI, nI_leI, Nat.reduceEqDiff, Nat.reduceLT, Nat.reduceDiv, Nat.reduceMod, Nat.reduceLeDiff, mg_state, mg_failure, ms_state, ms_failure]
set_option maxHeartbeats 4000000 in
theorem cl_top {t d : Nat} (ht : t < 12) (hd : d < 8) (hA : A 21 t = nI (d + 1)) : Cl 110 [.ref 149, .int (nI t)] (mpic b F A L) nx = some ((mpic b F A L, nx, 0, 0), .inl (some (.long (L 22 (8 * t + d))))) := by
  refine Cl_of (x := mnI_X8_top) rfl ?_
  show Ev 110 0 [some (.ref 149), some (.int (nI t))] [] _ _
  have e2 : 8 * t + (d + 1) - 1 = 8 * t + d := by omega
  simp (disch := first | omega | (simp only [cat_i, cat_r, ri_r, ri_0]; done)) only [eX8_top_0, eX8_top_1, eX8_top_4, eX8_top_6, eX8_top_7, eX8_top_8, eX8_top_9, eX8_top_12, eX8_top_13, eX8_top_14, eX8_top_15, eX8_top_16, eX8_top_17, eX8_top_18, Evk_some, Evh_some, Evn_some, Evr_v, Evr_n, mk_i, mk_r, mk_0, mk_n, mk_l, mc0, mc1, mc2, mc3, mc4, mi_obj, Bool.and_self, Bool.true_and, Nat.add_zero, Nat.zero_add, nI_add, pk_mul, pk_sub, Nat.add_sub_cancel, eq_self, if_true, if_false, n10, bI_t, bI_f, bI_0, Nat.reduceAdd, Nat.reduceMul, Nat.reduceSub, nI_eq, nI_ltI, nI_leI, Nat.reduceEqDiff, Nat.reduceLT, Nat.reduceDiv, Nat.reduceMod, Nat.reduceLeDiff, mg_stack, mg_depth, ml_depth, hA, ml_stack, e2]
set_option maxHeartbeats 4000000 in
theorem cl_pop {t d : Nat} (ht : t < 12) (hd : d < 8) (hA : A 21 t = nI (d + 1)) : Cl 111 [.ref 149, .int (nI t)] (mpic b F A L) nx = some ((mpic b F (up2 A 21 t (nI d)) L, nx, 0, 0), .inl (some (.long (L 22 (8 * t + d))))) := by
  refine Cl_of (x := mnI_X8_pop) rfl ?_
  show Ev 111 0 [some (.ref 149), some (.int (nI t))] [] _ _
  have e2 : up2 A 21 t (nI d) 21 t = nI d := by simp [up2, upd]
  simp (disch := first | omega | (simp only [cat_i, cat_r, ri_r, ri_0]; done)) only [eX8_pop_0, eX8_pop_1, eX8_pop_4, eX8_pop_5, eX8_pop_6, eX8_pop_7, eX8_pop_8, eX8_pop_9, eX8_pop_10, eX8_pop_11, eX8_pop_14, eX8_pop_16, eX8_pop_17, eX8_pop_18, eX8_pop_19, eX8_pop_22, eX8_pop_23, eX8_pop_24, eX8_pop_25, eX8_pop_26, Evk_some, Evh_some, Evn_some, Evr_v, Evr_n, mk_i, mk_r, mk_0, mk_n, mk_l, mc0, mc1, mc2, mc3, mc4, mi_obj, Bool.and_self, Bool.true_and, Nat.add_zero, Nat.zero_add, nI_add, pk_mul, pk_sub, Nat.add_sub_cancel, eq_self, if_true, if_false, n10, bI_t, bI_f, bI_0, Nat.reduceAdd, Nat.reduceMul, Nat.reduceSub, nI_eq, nI_ltI, nI_leI, Nat.reduceEqDiff, Nat.reduceLT, Nat.reduceDiv, Nat.reduceMod, Nat.reduceLeDiff, mg_stack, mg_depth, ml_depth, ms_depth, hA, ml_stack, e2]
set_option maxHeartbeats 4000000 in
theorem cl_push {t d : Nat} (ht : t < 12) (hd : d < 8) (hA : A 21 t = nI d) {v : Int64} : Cl 112 [.ref 149, .int (nI t), .long (v)] (mpic b F A L) nx = some ((mpic b F (up2 A 21 t (nI (d + 1))) (upL L 22 (8 * t + d) v), nx, 0, 0), .inl (none)) := by
  refine Cl_of (x := mnI_X8_push) rfl ?_
  show Ev 112 0 [some (.ref 149), some (.int (nI t)), some (.long (v)), none] [] _ _
  simp (disch := first | omega | (simp only [cat_i, cat_r, ri_r, ri_0]; done)) only [eX8_push_0, eX8_push_1, eX8_push_4, eX8_push_6, eX8_push_7, eX8_push_8, eX8_push_9, eX8_push_12, eX8_push_13, eX8_push_14, eX8_push_15, eX8_push_16, eX8_push_17, eX8_push_18, eX8_push_21, eX8_push_22, eX8_push_23, eX8_push_24, eX8_push_25, eX8_push_26, eX8_push_27, Evk_some, Evh_some, Evn_some, Evr_v, Evr_n, mk_i, mk_r, mk_0, mk_n, mk_l, mc0, mc1, mc2, mc3, mc4, mi_obj, Bool.and_self, Bool.true_and, Nat.add_zero, Nat.zero_add, nI_add, pk_mul, pk_sub, Nat.add_sub_cancel, eq_self, if_true, if_false, n10, bI_t, bI_f, bI_0, Nat.reduceAdd, Nat.reduceMul, Nat.reduceSub, nI_eq, nI_ltI, nI_leI, Nat.reduceEqDiff, Nat.reduceLT, Nat.reduceDiv, Nat.reduceMod, Nat.reduceLeDiff, mg_stack, mg_depth, ml_depth, ms_depth, hA, ms_stack]
set_option maxHeartbeats 4000000 in
theorem cl_isJoin {t k p : Nat} (ht : t < 12) (hk : k < 8) (hp : p < 24) (h1 : A 14 t = nI k) (h2 : A 15 t = nI p) : Cl 115 [.ref 149, .int (nI t)] (mpic b F A L) nx = some ((mpic b F A L, nx, 0, 0), .inl (some (.int (bI (decide (A 5 (24 * k + p) = nI 14)))))) := by
  refine Cl_of (x := mnI_X8_isJoin) rfl ?_
  show Ev 115 0 [some (.ref 149), some (.int (nI t))] [] _ _
  by_cases hj : A 5 (24 * k + p) = nI 14
  · simp (disch := first | omega | (simp only [cat_i, cat_r, ri_r, ri_0]; done)) only [eX8_isJoin_0, eX8_isJoin_1, eX8_isJoin_4, eX8_isJoin_6, eX8_isJoin_7, eX8_isJoin_10, eX8_isJoin_11, eX8_isJoin_12, eX8_isJoin_13, eX8_isJoin_14, eX8_isJoin_17, eX8_isJoin_18, eX8_isJoin_19, eX8_isJoin_20, eX8_isJoin_21, eX8_isJoin_23, eX8_isJoin_26, eX8_isJoin_27, eX8_isJoin_30, Evk_some, Evh_some, Evn_some, Evr_v, Evr_n, mk_i, mk_r, mk_0, mk_n, mk_l, mc0, mc1, mc2, mc3, mc4, mi_obj, Bool.and_self, Bool.true_and, Nat.add_zero, Nat.zero_add, nI_add, pk_mul, pk_sub, Nat.add_sub_cancel, eq_self, if_true, if_false, n10, bI_t, bI_f, bI_0, Nat.reduceAdd, Nat.reduceMul, Nat.reduceSub, nI_eq, nI_ltI, nI_leI, Nat.reduceEqDiff, Nat.reduceLT, Nat.reduceDiv, Nat.reduceMod, Nat.reduceLeDiff, mg_operation, mg_block, mg_at, ml_block, ml_at, ml_operation, h1, h2, hj, decide_true]
    exact (eX8_isJoin_31 n1_z).mpr rfl
  · simp (disch := first | omega | (simp only [cat_i, cat_r, ri_r, ri_0]; done)) only [eX8_isJoin_0, eX8_isJoin_1, eX8_isJoin_4, eX8_isJoin_6, eX8_isJoin_7, eX8_isJoin_10, eX8_isJoin_11, eX8_isJoin_12, eX8_isJoin_13, eX8_isJoin_14, eX8_isJoin_17, eX8_isJoin_18, eX8_isJoin_19, eX8_isJoin_20, eX8_isJoin_21, eX8_isJoin_23, eX8_isJoin_26, eX8_isJoin_27, eX8_isJoin_30, Evk_some, Evh_some, Evn_some, Evr_v, Evr_n, mk_i, mk_r, mk_0, mk_n, mk_l, mc0, mc1, mc2, mc3, mc4, mi_obj, Bool.and_self, Bool.true_and, Nat.add_zero, Nat.zero_add, nI_add, pk_mul, pk_sub, Nat.add_sub_cancel, eq_self, if_true, if_false, n10, bI_t, bI_f, bI_0, Nat.reduceAdd, Nat.reduceMul, Nat.reduceSub, nI_eq, nI_ltI, nI_leI, Nat.reduceEqDiff, Nat.reduceLT, Nat.reduceDiv, Nat.reduceMod, Nat.reduceLeDiff, mg_operation, mg_block, mg_at, ml_block, ml_at, ml_operation, h1, h2, hj, decide_false]
    exact (eX8_isJoin_31 n0_z).mpr rfl
set_option maxHeartbeats 4000000 in
theorem cl_writeAt {s c : Nat} (hs : s < 40) (hc : c < 12) {w : Nat} (hw : w < 4096) (hA : A 31 s = nI w) {v : Int64} : Cl 105 [.ref 149, .int (nI s), .int (nI c), .long (v)] (mpic b F A L) nx = some ((mpic b F (up2 A 31 s (nI (w ||| 2 ^ c))) (upL L 32 (12 * s + c) v), nx, 0, 0), .inl (none)) := by
  refine Cl_of (x := mnI_X8_writeAt) rfl ?_
  show Ev 105 0 [some (.ref 149), some (.int (nI s)), some (.int (nI c)), some (.long (v)), none] [] _ _
  simp (disch := first | omega | (simp only [cat_i, cat_r, ri_r, ri_0]; done)) only [eX8_writeAt_0, eX8_writeAt_1, eX8_writeAt_4, eX8_writeAt_5, eX8_writeAt_6, eX8_writeAt_7, eX8_writeAt_8, eX8_writeAt_9, eX8_writeAt_10, eX8_writeAt_11, eX8_writeAt_12, eX8_writeAt_13, eX8_writeAt_16, eX8_writeAt_18, eX8_writeAt_19, eX8_writeAt_20, eX8_writeAt_21, eX8_writeAt_22, eX8_writeAt_23, eX8_writeAt_24, Evk_some, Evh_some, Evn_some, Evr_v, Evr_n, mk_i, mk_r, mk_0, mk_n, mk_l, mc0, mc1, mc2, mc3, mc4, mi_obj, Bool.and_self, Bool.true_and, Nat.add_zero, Nat.zero_add, nI_add, pk_mul, pk_sub, Nat.add_sub_cancel, eq_self, if_true, if_false, n10, bI_t, bI_f, bI_0, Nat.reduceAdd, Nat.reduceMul, Nat.reduceSub, nI_eq, nI_ltI, nI_leI, Nat.reduceEqDiff, Nat.reduceLT, Nat.reduceDiv, Nat.reduceMod, Nat.reduceLeDiff, mg_written, mg_value, ml_written, ms_written, ms_value, hA, or_nI]
theorem ev_open {s : Nat} (hs : s < 40) (h0 : A 29 s = nI 0) (h1 : ∀ i, i < s → A 29 i = nI 1) {u : Int32} : ∀ j k, k + j = s → (Ev 103 2 [some (.ref 149), some (.int u), some (.int (nI k))] [] (mpic b F A L, nx, 0, 0) r ↔ Ev 103 17 [some (.ref 149), some (.int u), some (.int (nI s))] [] (mpic b F A L, nx, 0, 0) r) := by
  intro j
  induction j with
  | zero =>
    intro k hk
    have hk : k = s := by omega
    subst hk
    refine eX8_open_2.trans ?_
    simp (disch := first | omega | (simp only [cat_i, cat_r, ri_r, ri_0]; done)) only [eX8_open_3, eX8_open_6, eX8_open_7, eX8_open_8, eX8_open_11, eX8_open_14, Evk_some, Evh_some, Evn_some, Evr_v, Evr_n, mk_i, mk_r, mk_0, mk_n, mk_l, mc0, mc1, mc2, mc3, mc4, mi_obj, Bool.and_self, Bool.true_and, Nat.add_zero, Nat.zero_add, nI_add, pk_mul, pk_sub, Nat.add_sub_cancel, eq_self, if_true, if_false, n10, bI_t, bI_f, bI_0, Nat.reduceAdd, Nat.reduceMul, Nat.reduceSub, nI_eq, nI_ltI, nI_leI, Nat.reduceEqDiff, Nat.reduceLT, Nat.reduceDiv, Nat.reduceMod, Nat.reduceLeDiff, mg_used, ml_used, h0]
  | succ j ih =>
    intro k hk
    have hk1 := h1 k (by omega)
    refine eX8_open_2.trans ?_
    simp (disch := first | omega | (simp only [cat_i, cat_r, ri_r, ri_0]; done)) only [eX8_open_3, eX8_open_6, eX8_open_7, eX8_open_8, eX8_open_11, eX8_open_14, Evk_some, Evh_some, Evn_some, Evr_v, Evr_n, mk_i, mk_r, mk_0, mk_n, mk_l, mc0, mc1, mc2, mc3, mc4, mi_obj, Bool.and_self, Bool.true_and, Nat.add_zero, Nat.zero_add, nI_add, pk_mul, pk_sub, Nat.add_sub_cancel, eq_self, if_true, if_false, n10, bI_t, bI_f, bI_0, Nat.reduceAdd, Nat.reduceMul, Nat.reduceSub, nI_eq, nI_ltI, nI_leI, Nat.reduceEqDiff, Nat.reduceLT, Nat.reduceDiv, Nat.reduceMod, Nat.reduceLeDiff, mg_used, ml_used, hk1]
    exact ih (k + 1) (by omega)
set_option maxHeartbeats 4000000 in
theorem cl_open {s : Nat} (hs : s < 40) (h0 : A 29 s = nI 0) (h1 : ∀ i, i < s → A 29 i = nI 1) {u : Int32} : Cl 103 [.ref 149, .int (u)] (mpic b F A L) nx = some ((mpic b F (up2 (up2 (up2 A 29 s (nI 1)) 30 s u) 31 s (nI 0)) L, nx, 0, 0), .inl (some (.int (nI s)))) := by
  refine Cl_of (x := mnI_X8_open) rfl ?_
  show Ev 103 0 [some (.ref 149), some (.int (u)), none] [] _ _
  rw [eX8_open_0, eX8_open_1]
  simp only [mk_i]
  rw [ev_open hs h0 h1 s 0 (by omega)]
  simp (disch := first | omega | (simp only [cat_i, cat_r, ri_r, ri_0]; done)) only [eX8_open_17, eX8_open_18, eX8_open_21, eX8_open_22, eX8_open_23, eX8_open_24, eX8_open_25, eX8_open_28, eX8_open_29, eX8_open_30, eX8_open_31, eX8_open_32, eX8_open_35, eX8_open_36, eX8_open_37, eX8_open_38, eX8_open_39, Evk_some, Evh_some, Evn_some, Evr_v, Evr_n, mk_i, mk_r, mk_0, mk_n, mk_l, mc0, mc1, mc2, mc3, mc4, mi_obj, Bool.and_self, Bool.true_and, Nat.add_zero, Nat.zero_add, nI_add, pk_mul, pk_sub, Nat.add_sub_cancel, eq_self, if_true, if_false, n10, bI_t, bI_f, bI_0, Nat.reduceAdd, Nat.reduceMul, Nat.reduceSub, nI_eq, nI_ltI, nI_leI, Nat.reduceEqDiff, Nat.reduceLT, Nat.reduceDiv, Nat.reduceMod, Nat.reduceLeDiff, mg_used, mg_below, mg_written, ms_used1, ms_below, ms_written]
end MA
