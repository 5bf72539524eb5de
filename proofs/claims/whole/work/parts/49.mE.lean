/-! the reference: waiting, questions, merges -/
section ME
variable {b : Nat → Option va_E} {F : Nat → Int32} {A : Nat → Nat → Int32} {L : Nat → Nat → Int64} {nx : Option Nat} {r : mn_Res}
set_option maxHeartbeats 4000000 in
theorem cl_waits_no {t k p : Nat} (ht : t < 12) (hk : k < 8) (hp : p < 24) (h1 : A 14 t = nI k) (h2 : A 15 t = nI p) (h3 : A 5 (24 * k + p) ≠ nI 14) : Cl 116 [.ref 149, .int (nI t)] (mpic b F A L) nx = some ((mpic b F A L, nx, 0, 0), .inl (some (.int (nI 0)))) := by
  refine Cl_of (x := mnI_X8_waits) rfl ?_
  show Ev 116 0 [some (.ref 149), some (.int (nI t)), none, none] [] _ _
  simp (disch := first | omega | (simp only [cat_i, cat_r, ri_r, ri_0]; done)) only [eX8_waits_0, eX8_waits_1, eX8_waits_2, eX8_waits_5, eX8_waits_8, eX8_waits_10, eX8_waits_11, eX8_waits_12, eX8_waits_15, eX8_waits_16, eX8_waits_17, eX8_waits_18, eX8_waits_19, eX8_waits_22, eX8_waits_23, eX8_waits_24, eX8_waits_27, eX8_waits_30, eX8_waits_31, eX8_waits_32, eX8_waits_33, eX8_waits_36, eX8_waits_37, eX8_waits_40, eX8_waits_41, eX8_waits_44, eX8_waits_45, eX8_waits_46, eX8_waits_47, eX8_waits_50, eX8_waits_51, eX8_waits_54, eX8_waits_55, Evk_some, Evh_some, Evn_some, Evr_v, Evr_n, mk_i, mk_r, mk_0, mk_n, mk_l, mc0, mc1, mc2, mc3, mc4, mi_obj, Bool.and_self, Bool.true_and, Nat.add_zero, Nat.zero_add, nI_add, pk_mul, pk_sub, Nat.add_sub_cancel, eq_self, if_true, if_false, n10, bI_t, bI_f, bI_0, Nat.reduceAdd, Nat.reduceMul, Nat.reduceSub, nI_eq, nI_ltI, nI_leI, Nat.reduceEqDiff, Nat.reduceLT, Nat.reduceDiv, Nat.reduceMod, Nat.reduceLeDiff, cl_isJoin ht hk hp h1 h2, h3, decide_false]
  exact (eX8_waits_9 n0_z).mpr rfl
/-- is a long the number of one of the first n tasks -/
abbrev isT (n : Nat) (v : Int64) : Bool := decide ((nI 0).toInt64 ≤ v) && decide (v ≤ (nI (n - 1)).toInt64)
theorem isT_lN {n x : Nat} (hx : x < n) (hn : n ≤ 12) : isT n (lN x) = true := by
  simp only [isT, nI_l (show 0 < 2 ^ 31 by omega), nI_l (show n - 1 < 2 ^ 31 by omega), lN_le (show 0 < 2 ^ 31 by omega) (show x < 2 ^ 31 by omega), lN_le (show x < 2 ^ 31 by omega) (show n - 1 < 2 ^ 31 by omega)]
  simp; omega
theorem isT_of {n : Nat} {v : Int64} (h : isT n v = true) (h0 : 0 < n) (hn : n ≤ 12) : ∃ x, x < n ∧ v = lN x := by
  simp only [isT, Bool.and_eq_true, decide_eq_true_eq, nI_l (show 0 < 2 ^ 31 by omega), nI_l (show n - 1 < 2 ^ 31 by omega)] at h
  obtain ⟨k, hk, rfl⟩ := pk_lOf (x := v) (by
    have := h.1
    rw [Int64.not_lt]
    exact this)
  have h2 := h.2
  rw [pk_lLE (by omega) (by omega)] at h2
  exact ⟨k, by omega, rfl⟩
set_option maxHeartbeats 4000000 in
theorem cl_waits_out {t k p d n : Nat} (ht : t < 12) (hk : k < 8) (hp : p < 24) (h1 : A 14 t = nI k) (h2 : A 15 t = nI p) (h3 : A 5 (24 * k + p) = nI 14) (hd : d < 8) (hA : A 21 t = nI (d + 1)) (hF : F 11 = nI n) (hn : n ≤ 12) (h0 : 0 < n) (hv : isT n (L 22 (8 * t + d)) = false) : Cl 116 [.ref 149, .int (nI t)] (mpic b F A L) nx = some ((mpic b F A L, nx, 0, 0), .inl (some (.int (nI 0)))) := by
  refine Cl_of (x := mnI_X8_waits) rfl ?_
  show Ev 116 0 [some (.ref 149), some (.int (nI t)), none, none] [] _ _
  simp (disch := first | omega | (simp only [cat_i, cat_r, ri_r, ri_0]; done)) only [eX8_waits_0, eX8_waits_1, eX8_waits_2, eX8_waits_5, eX8_waits_8, eX8_waits_9, eX8_waits_10, eX8_waits_11, eX8_waits_12, eX8_waits_15, eX8_waits_16, eX8_waits_17, eX8_waits_18, eX8_waits_19, eX8_waits_22, eX8_waits_23, eX8_waits_24, eX8_waits_27, eX8_waits_30, eX8_waits_31, eX8_waits_32, eX8_waits_33, eX8_waits_36, eX8_waits_37, eX8_waits_40, eX8_waits_41, eX8_waits_44, eX8_waits_45, eX8_waits_46, eX8_waits_47, eX8_waits_50, eX8_waits_51, eX8_waits_54, Evk_some, Evh_some, Evn_some, Evr_v, Evr_n, mk_i, mk_r, mk_0, mk_n, mk_l, mc0, mc1, mc2, mc3, mc4, mi_obj, Bool.and_self, Bool.true_and, Nat.add_zero, Nat.zero_add, nI_add, pk_mul, pk_sub, Nat.add_sub_cancel, eq_self, if_true, if_false, n10, bI_t, bI_f, bI_0, Nat.reduceAdd, Nat.reduceMul, Nat.reduceSub, nI_eq, nI_ltI, nI_leI, Nat.reduceEqDiff, Nat.reduceLT, Nat.reduceDiv, Nat.reduceMod, Nat.reduceLeDiff, cl_isJoin ht hk hp h1 h2, h3, decide_true, Bool.true_eq_false, cl_top ht hd hA, mg_tasks, hF, cl_in, hv]
  exact (eX8_waits_55 n0_z).mpr rfl
set_option maxHeartbeats 4000000 in
theorem cl_waits_in {t k p d n x : Nat} {o e : Option Nat} {l : List Nat} (ht : t < 12) (hk : k < 8) (hp : p < 24) (h1 : A 14 t = nI k) (h2 : A 15 t = nI p) (h3 : A 5 (24 * k + p) = nI 14) (hd : d < 8) (hA : A 21 t = nI (d + 1)) (hF : F 11 = nI n) (hn : n ≤ 12) (hx : x < n) (hv : L 22 (8 * t + d) = lN x) (hf : A 18 x = oI o) (ho : jch A o l e) (he : ∀ h, e = some h → h < 12) : Cl 116 [.ref 149, .int (nI t)] (mpic b F A L) nx = some ((mpic b F A L, nx, 0, 0), .inl (some (.int (bI (decide (e = some t) && decide (A 16 x = nI 0)))))) := by
  refine Cl_of (x := mnI_X8_waits) rfl ?_
  show Ev 116 0 [some (.ref 149), some (.int (nI t)), none, none] [] _ _
  have e1 := isT_lN hx hn
  have e2 : (oI e = nI t) ↔ e = some t := oI_inj (o' := some t) (fun h q => by have := he h q; omega) (fun h q => by cases q; omega)
  have hx12 : x < 12 := by omega
  by_cases h4 : e = some t
  · by_cases h5 : A 16 x = nI 0
    · simp (disch := first | omega | (simp only [cat_i, cat_r, ri_r, ri_0]; done)) only [eX8_waits_0, eX8_waits_1, eX8_waits_2, eX8_waits_5, eX8_waits_8, eX8_waits_9, eX8_waits_10, eX8_waits_11, eX8_waits_12, eX8_waits_15, eX8_waits_16, eX8_waits_17, eX8_waits_18, eX8_waits_19, eX8_waits_22, eX8_waits_23, eX8_waits_24, eX8_waits_27, eX8_waits_30, eX8_waits_31, eX8_waits_32, eX8_waits_33, eX8_waits_36, eX8_waits_37, eX8_waits_40, eX8_waits_41, eX8_waits_44, eX8_waits_45, eX8_waits_46, eX8_waits_47, eX8_waits_50, eX8_waits_51, eX8_waits_54, Evk_some, Evh_some, Evn_some, Evr_v, Evr_n, mk_i, mk_r, mk_0, mk_n, mk_l, mc0, mc1, mc2, mc3, mc4, mi_obj, Bool.and_self, Bool.true_and, Nat.add_zero, Nat.zero_add, nI_add, pk_mul, pk_sub, Nat.add_sub_cancel, eq_self, if_true, if_false, n10, bI_t, bI_f, bI_0, Nat.reduceAdd, Nat.reduceMul, Nat.reduceSub, nI_eq, nI_ltI, nI_leI, Nat.reduceEqDiff, Nat.reduceLT, Nat.reduceDiv, Nat.reduceMod, Nat.reduceLeDiff, cl_isJoin ht hk hp h1 h2, h3, decide_true, Bool.true_eq_false, cl_top ht hd hA, mg_tasks, hF, cl_in, hv, e1, lN_i, cl_holder hx12 hf ho, h4, oI_s, mg_state, ml_state, h5]
      exact (eX8_waits_55 n1_z).mpr rfl
    · simp (disch := first | omega | (simp only [cat_i, cat_r, ri_r, ri_0]; done)) only [eX8_waits_0, eX8_waits_1, eX8_waits_2, eX8_waits_5, eX8_waits_8, eX8_waits_9, eX8_waits_10, eX8_waits_11, eX8_waits_12, eX8_waits_15, eX8_waits_16, eX8_waits_17, eX8_waits_18, eX8_waits_19, eX8_waits_22, eX8_waits_23, eX8_waits_24, eX8_waits_27, eX8_waits_30, eX8_waits_31, eX8_waits_32, eX8_waits_33, eX8_waits_36, eX8_waits_37, eX8_waits_40, eX8_waits_41, eX8_waits_44, eX8_waits_45, eX8_waits_46, eX8_waits_47, eX8_waits_50, eX8_waits_51, eX8_waits_54, Evk_some, Evh_some, Evn_some, Evr_v, Evr_n, mk_i, mk_r, mk_0, mk_n, mk_l, mc0, mc1, mc2, mc3, mc4, mi_obj, Bool.and_self, Bool.true_and, Nat.add_zero, Nat.zero_add, nI_add, pk_mul, pk_sub, Nat.add_sub_cancel, eq_self, if_true, if_false, n10, bI_t, bI_f, bI_0, Nat.reduceAdd, Nat.reduceMul, Nat.reduceSub, nI_eq, nI_ltI, nI_leI, Nat.reduceEqDiff, Nat.reduceLT, Nat.reduceDiv, Nat.reduceMod, Nat.reduceLeDiff, cl_isJoin ht hk hp h1 h2, h3, decide_true, Bool.true_eq_false, cl_top ht hd hA, mg_tasks, hF, cl_in, hv, e1, lN_i, cl_holder hx12 hf ho, h4, oI_s, mg_state, ml_state, h5, decide_false, Bool.and_false]
      exact (eX8_waits_55 n0_z).mpr rfl
  · simp (disch := first | omega | (simp only [cat_i, cat_r, ri_r, ri_0]; done)) only [eX8_waits_0, eX8_waits_1, eX8_waits_2, eX8_waits_5, eX8_waits_8, eX8_waits_9, eX8_waits_10, eX8_waits_11, eX8_waits_12, eX8_waits_15, eX8_waits_16, eX8_waits_17, eX8_waits_18, eX8_waits_19, eX8_waits_22, eX8_waits_23, eX8_waits_24, eX8_waits_27, eX8_waits_30, eX8_waits_31, eX8_waits_32, eX8_waits_33, eX8_waits_36, eX8_waits_37, eX8_waits_40, eX8_waits_41, eX8_waits_44, eX8_waits_45, eX8_waits_46, eX8_waits_47, eX8_waits_50, eX8_waits_51, eX8_waits_54, Evk_some, Evh_some, Evn_some, Evr_v, Evr_n, mk_i, mk_r, mk_0, mk_n, mk_l, mc0, mc1, mc2, mc3, mc4, mi_obj, Bool.and_self, Bool.true_and, Nat.add_zero, Nat.zero_add, nI_add, pk_mul, pk_sub, Nat.add_sub_cancel, eq_self, if_true, if_false, n10, bI_t, bI_f, bI_0, Nat.reduceAdd, Nat.reduceMul, Nat.reduceSub, nI_eq, nI_ltI, nI_leI, Nat.reduceEqDiff, Nat.reduceLT, Nat.reduceDiv, Nat.reduceMod, Nat.reduceLeDiff, cl_isJoin ht hk hp h1 h2, h3, decide_true, Bool.true_eq_false, cl_top ht hd hA, mg_tasks, hF, cl_in, hv, e1, lN_i, cl_holder hx12 hf ho, e2, h4, decide_false, Bool.false_and]
    exact (eX8_waits_55 n0_z).mpr rfl
set_option maxHeartbeats 4000000 in
theorem cl_canGoOn {t : Nat} {w : Bool} (ht : t < 12) (hw : A 16 t = nI 0 → Cl 116 [.ref 149, .int (nI t)] (mpic b F A L) nx = some ((mpic b F A L, nx, 0, 0), .inl (some (.int (bI w))))) : Cl 126 [.ref 149, .int (nI t)] (mpic b F A L) nx = some ((mpic b F A L, nx, 0, 0), .inl (some (.int (bI (decide (A 16 t = nI 0) && !w))))) := by
  refine Cl_of (x := mnI_X8_canGoOn) rfl ?_
  show Ev 126 0 [some (.ref 149), some (.int (nI t))] [] _ _
  by_cases h : A 16 t = nI 0
  · have hw := hw h
    cases w with
    | true =>
      simp (disch := first | omega | (simp only [cat_i, cat_r, ri_r, ri_0]; done)) only [eX8_canGoOn_0, eX8_canGoOn_1, eX8_canGoOn_4, eX8_canGoOn_5, eX8_canGoOn_6, eX8_canGoOn_9, eX8_canGoOn_10, eX8_canGoOn_11, eX8_canGoOn_14, eX8_canGoOn_17, eX8_canGoOn_18, eX8_canGoOn_21, Evk_some, Evh_some, Evn_some, Evr_v, Evr_n, mk_i, mk_r, mk_0, mk_n, mk_l, mc0, mc1, mc2, mc3, mc4, mi_obj, Bool.and_self, Bool.true_and, Nat.add_zero, Nat.zero_add, nI_add, pk_mul, pk_sub, Nat.add_sub_cancel, eq_self, if_true, if_false, n10, bI_t, bI_f, bI_0, Nat.reduceAdd, Nat.reduceMul, Nat.reduceSub, nI_eq, nI_ltI, nI_leI, Nat.reduceEqDiff, Nat.reduceLT, Nat.reduceDiv, Nat.reduceMod, Nat.reduceLeDiff, mg_state, ml_state, h, hw, Bool.true_eq_false, decide_true, Bool.not_true, Bool.and_false]
      exact (eX8_canGoOn_22 n0_z).mpr rfl
    | false =>
      simp (disch := first | omega | (simp only [cat_i, cat_r, ri_r, ri_0]; done)) only [eX8_canGoOn_0, eX8_canGoOn_1, eX8_canGoOn_4, eX8_canGoOn_5, eX8_canGoOn_6, eX8_canGoOn_9, eX8_canGoOn_10, eX8_canGoOn_11, eX8_canGoOn_14, eX8_canGoOn_17, eX8_canGoOn_18, eX8_canGoOn_21, Evk_some, Evh_some, Evn_some, Evr_v, Evr_n, mk_i, mk_r, mk_0, mk_n, mk_l, mc0, mc1, mc2, mc3, mc4, mi_obj, Bool.and_self, Bool.true_and, Nat.add_zero, Nat.zero_add, nI_add, pk_mul, pk_sub, Nat.add_sub_cancel, eq_self, if_true, if_false, n10, bI_t, bI_f, bI_0, Nat.reduceAdd, Nat.reduceMul, Nat.reduceSub, nI_eq, nI_ltI, nI_leI, Nat.reduceEqDiff, Nat.reduceLT, Nat.reduceDiv, Nat.reduceMod, Nat.reduceLeDiff, mg_state, ml_state, h, hw, decide_true, Bool.not_false]
      exact (eX8_canGoOn_22 n1_z).mpr rfl
  · simp (disch := first | omega | (simp only [cat_i, cat_r, ri_r, ri_0]; done)) only [eX8_canGoOn_0, eX8_canGoOn_1, eX8_canGoOn_4, eX8_canGoOn_5, eX8_canGoOn_6, eX8_canGoOn_9, eX8_canGoOn_10, eX8_canGoOn_11, eX8_canGoOn_14, eX8_canGoOn_17, eX8_canGoOn_18, eX8_canGoOn_21, Evk_some, Evh_some, Evn_some, Evr_v, Evr_n, mk_i, mk_r, mk_0, mk_n, mk_l, mc0, mc1, mc2, mc3, mc4, mi_obj, Bool.and_self, Bool.true_and, Nat.add_zero, Nat.zero_add, nI_add, pk_mul, pk_sub, Nat.add_sub_cancel, eq_self, if_true, if_false, n10, bI_t, bI_f, bI_0, Nat.reduceAdd, Nat.reduceMul, Nat.reduceSub, nI_eq, nI_ltI, nI_leI, Nat.reduceEqDiff, Nat.reduceLT, Nat.reduceDiv, Nat.reduceMod, Nat.reduceLeDiff, mg_state, ml_state, h, decide_false, Bool.false_and]
    exact (eX8_canGoOn_22 n0_z).mpr rfl
set_option maxHeartbeats 4000000 in
theorem cl_task_no {n : Nat} (hF : F 11 = nI n) (hn : n ≤ 12) (h9 : F 9 = bI (decide (0 < n))) {x y : Int32} (hx : (decide (nI 0 ≤ x) && decide (x < nI n)) = false) : Cl 130 [.ref 149, .int (x), .int (y)] (mpic b F A L) nx = some ((mpic b (up1 F 0 (nI 1)) A L, nx, 0, 0), .inl (some (.int (nI 0)))) := by
  refine Cl_of (x := mnI_X8_task) rfl ?_
  show Ev 130 0 [some (.ref 149), some (.int (x)), some (.int (y))] [] _ _
  have h0 : ¬ nI 1 ≤ nI 0 := by decide
  have c1 : up1 F 0 (nI 1) 0 = nI 1 := rfl
  simp (disch := first | omega | (simp only [cat_i, cat_r, ri_r, ri_0]; done)) only [eX8_task_0, eX8_task_1, eX8_task_2, eX8_task_3, eX8_task_6, eX8_task_9, eX8_task_10, eX8_task_13, eX8_task_14, eX8_task_15, eX8_task_16, eX8_task_17, eX8_task_20, eX8_task_23, eX8_task_24, eX8_task_27, eX8_task_28, eX8_task_31, eX8_task_32, eX8_task_35, eX8_task_38, eX8_task_39, eX8_task_40, eX8_task_41, eX8_task_44, eX8_task_45, eX8_task_48, eX8_task_49, eX8_task_50, eX8_task_53, eX8_task_54, eX8_task_55, eX8_task_58, eX8_task_59, eX8_task_62, eX8_task_63, eX8_task_64, eX8_task_67, eX8_task_68, eX8_task_69, eX8_task_72, eX8_task_73, eX8_task_76, eX8_task_77, eX8_task_78, eX8_task_81, eX8_task_82, eX8_task_83, eX8_task_86, eX8_task_87, eX8_task_90, eX8_task_91, eX8_task_92, eX8_task_95, eX8_task_96, eX8_task_99, eX8_task_100, eX8_task_101, Evk_some, Evh_some, Evn_some, Evr_v, Evr_n, mk_i, mk_r, mk_0, mk_n, mk_l, mc0, mc1, mc2, mc3, mc4, mi_obj, Bool.and_self, Bool.true_and, Nat.add_zero, Nat.zero_add, nI_add, pk_mul, pk_sub, Nat.add_sub_cancel, eq_self, if_true, if_false, n10, bI_t, bI_f, bI_0, Nat.reduceAdd, Nat.reduceMul, Nat.reduceSub, nI_eq, Nat.reduceEqDiff, Nat.reduceLT, Nat.reduceDiv, Nat.reduceMod, Nat.reduceLeDiff, cl_isTask hF hn h9, hx, mp_code, mg_code, c1, h0]
theorem tIn {n t : Nat} (ht : t < n) (hn : n ≤ 12) : (decide (nI 0 ≤ nI t) && decide (nI t < nI n)) = true := by
  simp [nI_leI (show 0 < 2 ^ 31 by omega) (show t < 2 ^ 31 by omega), nI_ltI (show t < 2 ^ 31 by omega) (show n < 2 ^ 31 by omega), ht]
set_option maxHeartbeats 4000000 in
theorem cl_task_bad {n t : Nat} (hF : F 11 = nI n) (hn : n ≤ 12) (h9 : F 9 = bI (decide (0 < n))) {y : Int32} (ht : t < n) (hy : (decide (nI 0 ≤ y) && decide (y ≤ nI 4)) = false) : Cl 130 [.ref 149, .int (nI t), .int (y)] (mpic b F A L) nx = some ((mpic b (up1 F 0 (nI 2)) A L, nx, 0, 0), .inl (some (.int (nI 0)))) := by
  refine Cl_of (x := mnI_X8_task) rfl ?_
  show Ev 130 0 [some (.ref 149), some (.int (nI t)), some (.int (y))] [] _ _
  have h0 : ¬ nI 2 ≤ nI 0 := by decide
  have c1 : up1 F 0 (nI 2) 0 = nI 2 := rfl
  simp (disch := first | omega | (simp only [cat_i, cat_r, ri_r, ri_0]; done)) only [eX8_task_0, eX8_task_1, eX8_task_2, eX8_task_3, eX8_task_6, eX8_task_9, eX8_task_10, eX8_task_13, eX8_task_14, eX8_task_15, eX8_task_16, eX8_task_17, eX8_task_20, eX8_task_23, eX8_task_24, eX8_task_27, eX8_task_28, eX8_task_31, eX8_task_32, eX8_task_35, eX8_task_38, eX8_task_39, eX8_task_40, eX8_task_41, eX8_task_44, eX8_task_45, eX8_task_48, eX8_task_49, eX8_task_50, eX8_task_53, eX8_task_54, eX8_task_55, eX8_task_58, eX8_task_59, eX8_task_62, eX8_task_63, eX8_task_64, eX8_task_67, eX8_task_68, eX8_task_69, eX8_task_72, eX8_task_73, eX8_task_76, eX8_task_77, eX8_task_78, eX8_task_81, eX8_task_82, eX8_task_83, eX8_task_86, eX8_task_87, eX8_task_90, eX8_task_91, eX8_task_92, eX8_task_95, eX8_task_96, eX8_task_99, eX8_task_100, eX8_task_101, Evk_some, Evh_some, Evn_some, Evr_v, Evr_n, mk_i, mk_r, mk_0, mk_n, mk_l, mc0, mc1, mc2, mc3, mc4, mi_obj, Bool.and_self, Bool.true_and, Nat.add_zero, Nat.zero_add, nI_add, pk_mul, pk_sub, Nat.add_sub_cancel, eq_self, if_true, if_false, n10, bI_t, bI_f, bI_0, Nat.reduceAdd, Nat.reduceMul, Nat.reduceSub, nI_eq, Nat.reduceEqDiff, Nat.reduceLT, Nat.reduceDiv, Nat.reduceMod, Nat.reduceLeDiff, cl_isTask hF hn h9, tIn ht hn, cl_in, toL_le, hy, Bool.true_eq_false, mp_code, mg_code, c1, h0]
set_option maxHeartbeats 4000000 in
theorem cl_task_ok {n t w : Nat} (hF : F 11 = nI n) (hn : n ≤ 12) (h9 : F 9 = bI (decide (0 < n))) (ht : t < n) (hw : w < 5) : Cl 130 [.ref 149, .int (nI t), .int (nI w)] (mpic b F A L) nx = some ((mpic b (up1 F 0 (nI 0)) A L, nx, 0, 0), .inl (some (.int (A ([16, 17, 18, 20, 24].getD w 0) t)))) := by
  refine Cl_of (x := mnI_X8_task) rfl ?_
  show Ev 130 0 [some (.ref 149), some (.int (nI t)), some (.int (nI w))] [] _ _
  have h0 : nI 0 ≤ nI 0 := by decide
  have c1 : up1 F 0 (nI 0) 0 = nI 0 := rfl
  have hy := in0 (show w ≤ 4 by omega) (by omega)
  have g0 : [16, 17, 18, 20, 24].getD 0 0 = 16 := rfl
  have g1 : [16, 17, 18, 20, 24].getD 1 0 = 17 := rfl
  have g2 : [16, 17, 18, 20, 24].getD 2 0 = 18 := rfl
  have g3 : [16, 17, 18, 20, 24].getD 3 0 = 20 := rfl
  have g4 : [16, 17, 18, 20, 24].getD 4 0 = 24 := rfl
  have hz : (decide True && decide (nI 0 ≤ nI 4)) = true := by decide
  rcases (show w = 0 ∨ w = 1 ∨ w = 2 ∨ w = 3 ∨ w = 4 by omega) with rfl | rfl | rfl | rfl | rfl <;> simp (disch := first | omega | (simp only [cat_i, cat_r, ri_r, ri_0]; done)) only [eX8_task_0, eX8_task_1, eX8_task_2, eX8_task_3, eX8_task_6, eX8_task_9, eX8_task_10, eX8_task_13, eX8_task_14, eX8_task_15, eX8_task_16, eX8_task_17, eX8_task_20, eX8_task_23, eX8_task_24, eX8_task_27, eX8_task_28, eX8_task_31, eX8_task_32, eX8_task_35, eX8_task_38, eX8_task_39, eX8_task_40, eX8_task_41, eX8_task_44, eX8_task_45, eX8_task_48, eX8_task_49, eX8_task_50, eX8_task_53, eX8_task_54, eX8_task_55, eX8_task_58, eX8_task_59, eX8_task_62, eX8_task_63, eX8_task_64, eX8_task_67, eX8_task_68, eX8_task_69, eX8_task_72, eX8_task_73, eX8_task_76, eX8_task_77, eX8_task_78, eX8_task_81, eX8_task_82, eX8_task_83, eX8_task_86, eX8_task_87, eX8_task_90, eX8_task_91, eX8_task_92, eX8_task_95, eX8_task_96, eX8_task_99, eX8_task_100, eX8_task_101, Evk_some, Evh_some, Evn_some, Evr_v, Evr_n, mk_i, mk_r, mk_0, mk_n, mk_l, mc0, mc1, mc2, mc3, mc4, mi_obj, Bool.and_self, Bool.true_and, Nat.add_zero, Nat.zero_add, nI_add, pk_mul, pk_sub, Nat.add_sub_cancel, eq_self, if_true, if_false, n10, bI_t, bI_f, bI_0, Nat.reduceAdd, Nat.reduceMul, Nat.reduceSub, nI_eq, Nat.reduceEqDiff, Nat.reduceLT, Nat.reduceDiv, Nat.reduceMod, Nat.reduceLeDiff, cl_isTask hF hn h9, tIn ht hn, cl_in, toL_le, hy, Bool.true_eq_false, mp_code, mg_code, c1, h0, mg_state, ml_state, mg_failure, ml_failure, mg_forker, ml_forker, mg_did, ml_did, mg_prints, ml_prints, g0, g1, g2, g3, g4, hz]
set_option maxHeartbeats 4000000 in
theorem cl_read_no {n : Nat} (hF : F 11 = nI n) (hn : n ≤ 12) (h9 : F 9 = bI (decide (0 < n))) {x y : Int32} (hx : (decide (nI 0 ≤ x) && decide (x < nI n)) = false) : Cl 132 [.ref 149, .int (x), .int (y)] (mpic b F A L) nx = some ((mpic b (up1 F 0 (nI 1)) A L, nx, 0, 0), .inl (some (.long (0)))) := by
  refine Cl_of (x := mnI_X8_read) rfl ?_
  show Ev 132 0 [some (.ref 149), some (.int (x)), some (.int (y)), none] [] _ _
  have h0 : ¬ nI 1 ≤ nI 0 := by decide
  have c1 : up1 F 0 (nI 1) 0 = nI 1 := rfl
  simp (disch := first | omega | (simp only [cat_i, cat_r, ri_r, ri_0]; done)) only [eX8_read_0, eX8_read_1, eX8_read_2, eX8_read_5, eX8_read_6, eX8_read_7, eX8_read_10, eX8_read_11, eX8_read_14, eX8_read_15, eX8_read_16, eX8_read_17, eX8_read_20, eX8_read_21, eX8_read_24, eX8_read_25, eX8_read_26, eX8_read_27, eX8_read_28, eX8_read_31, eX8_read_32, eX8_read_35, eX8_read_36, eX8_read_37, eX8_read_38, eX8_read_40, eX8_read_43, eX8_read_46, eX8_read_47, eX8_read_50, eX8_read_51, eX8_read_54, eX8_read_55, eX8_read_58, eX8_read_61, eX8_read_62, eX8_read_65, eX8_read_66, eX8_read_67, eX8_read_70, eX8_read_71, eX8_read_72, eX8_read_73, eX8_read_76, Evk_some, Evh_some, Evn_some, Evr_v, Evr_n, mk_i, mk_r, mk_0, mk_n, mk_l, mc0, mc1, mc2, mc3, mc4, mi_obj, Bool.and_self, Bool.true_and, Nat.add_zero, Nat.zero_add, nI_add, pk_mul, pk_sub, Nat.add_sub_cancel, eq_self, if_true, if_false, n10, bI_t, bI_f, bI_0, Nat.reduceAdd, Nat.reduceMul, Nat.reduceSub, nI_eq, Nat.reduceEqDiff, Nat.reduceLT, Nat.reduceDiv, Nat.reduceMod, Nat.reduceLeDiff, cl_isTask hF hn h9, hx, mp_code, mg_code, c1, h0]
set_option maxHeartbeats 4000000 in
theorem cl_read_joined {n t : Nat} (hF : F 11 = nI n) (hn : n ≤ 12) (h9 : F 9 = bI (decide (0 < n))) {y : Int32} (ht : t < n) (hs : A 16 t = nI 3) : Cl 132 [.ref 149, .int (nI t), .int (y)] (mpic b F A L) nx = some ((mpic b (up1 F 0 (nI 1)) A L, nx, 0, 0), .inl (some (.long (0)))) := by
  refine Cl_of (x := mnI_X8_read) rfl ?_
  show Ev 132 0 [some (.ref 149), some (.int (nI t)), some (.int (y)), none] [] _ _
  have h0 : ¬ nI 1 ≤ nI 0 := by decide
  have c1 : up1 F 0 (nI 1) 0 = nI 1 := rfl
  simp (disch := first | omega | (simp only [cat_i, cat_r, ri_r, ri_0]; done)) only [eX8_read_0, eX8_read_1, eX8_read_2, eX8_read_5, eX8_read_6, eX8_read_7, eX8_read_10, eX8_read_11, eX8_read_14, eX8_read_15, eX8_read_16, eX8_read_17, eX8_read_20, eX8_read_21, eX8_read_24, eX8_read_25, eX8_read_26, eX8_read_27, eX8_read_28, eX8_read_31, eX8_read_32, eX8_read_35, eX8_read_36, eX8_read_37, eX8_read_38, eX8_read_40, eX8_read_43, eX8_read_46, eX8_read_47, eX8_read_50, eX8_read_51, eX8_read_54, eX8_read_55, eX8_read_58, eX8_read_61, eX8_read_62, eX8_read_65, eX8_read_66, eX8_read_67, eX8_read_70, eX8_read_71, eX8_read_72, eX8_read_73, eX8_read_76, Evk_some, Evh_some, Evn_some, Evr_v, Evr_n, mk_i, mk_r, mk_0, mk_n, mk_l, mc0, mc1, mc2, mc3, mc4, mi_obj, Bool.and_self, Bool.true_and, Nat.add_zero, Nat.zero_add, nI_add, pk_mul, pk_sub, Nat.add_sub_cancel, eq_self, if_true, if_false, n10, bI_t, bI_f, bI_0, Nat.reduceAdd, Nat.reduceMul, Nat.reduceSub, nI_eq, Nat.reduceEqDiff, Nat.reduceLT, Nat.reduceDiv, Nat.reduceMod, Nat.reduceLeDiff, cl_isTask hF hn h9, tIn ht hn, Bool.true_eq_false, mg_state, ml_state, hs, mp_code, mg_code, c1, h0]
set_option maxHeartbeats 4000000 in
theorem cl_read_bad {n t : Nat} (hF : F 11 = nI n) (hn : n ≤ 12) (h9 : F 9 = bI (decide (0 < n))) {y : Int32} (ht : t < n) (hs : A 16 t ≠ nI 3) (hy : (decide (nI 0 ≤ y) && decide (y ≤ nI 11)) = false) : Cl 132 [.ref 149, .int (nI t), .int (y)] (mpic b F A L) nx = some ((mpic b (up1 F 0 (nI 2)) A L, nx, 0, 0), .inl (some (.long (0)))) := by
  refine Cl_of (x := mnI_X8_read) rfl ?_
  show Ev 132 0 [some (.ref 149), some (.int (nI t)), some (.int (y)), none] [] _ _
  have h0 : ¬ nI 2 ≤ nI 0 := by decide
  have c1 : up1 F 0 (nI 2) 0 = nI 2 := rfl
  simp (disch := first | omega | (simp only [cat_i, cat_r, ri_r, ri_0]; done)) only [eX8_read_0, eX8_read_1, eX8_read_2, eX8_read_5, eX8_read_6, eX8_read_7, eX8_read_10, eX8_read_11, eX8_read_14, eX8_read_15, eX8_read_16, eX8_read_17, eX8_read_20, eX8_read_21, eX8_read_24, eX8_read_25, eX8_read_26, eX8_read_27, eX8_read_28, eX8_read_31, eX8_read_32, eX8_read_35, eX8_read_36, eX8_read_37, eX8_read_38, eX8_read_40, eX8_read_43, eX8_read_46, eX8_read_47, eX8_read_50, eX8_read_51, eX8_read_54, eX8_read_55, eX8_read_58, eX8_read_61, eX8_read_62, eX8_read_65, eX8_read_66, eX8_read_67, eX8_read_70, eX8_read_71, eX8_read_72, eX8_read_73, eX8_read_76, Evk_some, Evh_some, Evn_some, Evr_v, Evr_n, mk_i, mk_r, mk_0, mk_n, mk_l, mc0, mc1, mc2, mc3, mc4, mi_obj, Bool.and_self, Bool.true_and, Nat.add_zero, Nat.zero_add, nI_add, pk_mul, pk_sub, Nat.add_sub_cancel, eq_self, if_true, if_false, n10, bI_t, bI_f, bI_0, Nat.reduceAdd, Nat.reduceMul, Nat.reduceSub, nI_eq, Nat.reduceEqDiff, Nat.reduceLT, Nat.reduceDiv, Nat.reduceMod, Nat.reduceLeDiff, cl_isTask hF hn h9, tIn ht hn, Bool.true_eq_false, mg_state, ml_state, hs, cl_in, toL_le, hy, mp_code, mg_code, c1, h0]
set_option maxHeartbeats 4000000 in
theorem cl_read_ok {n t c : Nat} (hF : F 11 = nI n) (hn : n ≤ 12) (h9 : F 9 = bI (decide (0 < n))) (ht : t < n) (hs : A 16 t ≠ nI 3) (hc : c < 12) {B : Nat → Option Nat} {o : Option Nat} {l : List Nat} (hg : A 27 t = oI o) (ho : chn B o l) (hl : ∀ s ∈ l, s < 40 ∧ A 30 s = oI (B s)) : Cl 132 [.ref 149, .int (nI t), .int (nI c)] (mpic b F A L) nx = some ((mpic b (up1 F 0 (nI 0)) A L, nx, 0, 0), .inl (some (.long (rdL (A 31) (L 32) c l)))) := by
  refine Cl_of (x := mnI_X8_read) rfl ?_
  show Ev 132 0 [some (.ref 149), some (.int (nI t)), some (.int (nI c)), none] [] _ _
  have h0 : nI 0 ≤ nI 0 := by decide
  have c1 : up1 F 0 (nI 0) 0 = nI 0 := rfl
  have hy := in0 (show c ≤ 11 by omega) (by omega)
  simp (disch := first | omega | (simp only [cat_i, cat_r, ri_r, ri_0]; done)) only [eX8_read_0, eX8_read_1, eX8_read_2, eX8_read_5, eX8_read_6, eX8_read_7, eX8_read_10, eX8_read_11, eX8_read_14, eX8_read_15, eX8_read_16, eX8_read_17, eX8_read_20, eX8_read_21, eX8_read_24, eX8_read_25, eX8_read_26, eX8_read_27, eX8_read_28, eX8_read_31, eX8_read_32, eX8_read_35, eX8_read_36, eX8_read_37, eX8_read_38, eX8_read_40, eX8_read_43, eX8_read_46, eX8_read_47, eX8_read_50, eX8_read_51, eX8_read_54, eX8_read_55, eX8_read_58, eX8_read_61, eX8_read_62, eX8_read_65, eX8_read_66, eX8_read_67, eX8_read_70, eX8_read_71, eX8_read_72, eX8_read_73, eX8_read_76, Evk_some, Evh_some, Evn_some, Evr_v, Evr_n, mk_i, mk_r, mk_0, mk_n, mk_l, mc0, mc1, mc2, mc3, mc4, mi_obj, Bool.and_self, Bool.true_and, Nat.add_zero, Nat.zero_add, nI_add, pk_mul, pk_sub, Nat.add_sub_cancel, eq_self, if_true, if_false, n10, bI_t, bI_f, bI_0, Nat.reduceAdd, Nat.reduceMul, Nat.reduceSub, nI_eq, Nat.reduceEqDiff, Nat.reduceLT, Nat.reduceDiv, Nat.reduceMod, Nat.reduceLeDiff, cl_isTask hF hn h9, tIn ht hn, Bool.true_eq_false, mg_state, ml_state, hs, cl_in, toL_le, hy, mp_code, mg_code, c1, h0, mg_segment, ml_segment, hg, cl_readAt hc ho hl]
set_option maxHeartbeats 4000000 in
theorem cl_print_no {n : Nat} (hF : F 11 = nI n) (hn : n ≤ 12) (h9 : F 9 = bI (decide (0 < n))) {x y : Int32} (hx : (decide (nI 0 ≤ x) && decide (x < nI n)) = false) : Cl 133 [.ref 149, .int (x), .int (y)] (mpic b F A L) nx = some ((mpic b (up1 F 0 (nI 1)) A L, nx, 0, 0), .inl (some (.long (0)))) := by
  refine Cl_of (x := mnI_X8_print) rfl ?_
  show Ev 133 0 [some (.ref 149), some (.int (x)), some (.int (y)), none] [] _ _
  have h0 : ¬ nI 1 ≤ nI 0 := by decide
  have c1 : up1 F 0 (nI 1) 0 = nI 1 := rfl
  simp (disch := first | omega | (simp only [cat_i, cat_r, ri_r, ri_0]; done)) only [eX8_print_0, eX8_print_1, eX8_print_2, eX8_print_5, eX8_print_6, eX8_print_7, eX8_print_10, eX8_print_11, eX8_print_14, eX8_print_15, eX8_print_16, eX8_print_17, eX8_print_20, eX8_print_21, eX8_print_22, eX8_print_25, eX8_print_26, eX8_print_29, eX8_print_30, eX8_print_31, eX8_print_32, eX8_print_35, eX8_print_38, eX8_print_39, eX8_print_40, eX8_print_41, eX8_print_42, eX8_print_45, eX8_print_46, eX8_print_47, eX8_print_48, eX8_print_49, eX8_print_52, eX8_print_55, eX8_print_56, eX8_print_59, eX8_print_60, eX8_print_61, eX8_print_62, eX8_print_63, eX8_print_66, eX8_print_67, eX8_print_70, eX8_print_71, eX8_print_74, eX8_print_75, eX8_print_78, eX8_print_81, eX8_print_82, eX8_print_85, eX8_print_86, eX8_print_87, eX8_print_90, eX8_print_91, eX8_print_94, eX8_print_95, eX8_print_96, eX8_print_99, eX8_print_100, eX8_print_103, eX8_print_105, eX8_print_106, eX8_print_107, eX8_print_108, eX8_print_109, eX8_print_110, Evk_some, Evh_some, Evn_some, Evr_v, Evr_n, mk_i, mk_r, mk_0, mk_n, mk_l, mc0, mc1, mc2, mc3, mc4, mi_obj, Bool.and_self, Bool.true_and, Nat.add_zero, Nat.zero_add, nI_add, pk_mul, pk_sub, Nat.add_sub_cancel, eq_self, if_true, if_false, n10, bI_t, bI_f, bI_0, Nat.reduceAdd, Nat.reduceMul, Nat.reduceSub, nI_eq, Nat.reduceEqDiff, Nat.reduceLT, Nat.reduceDiv, Nat.reduceMod, Nat.reduceLeDiff, cl_isTask hF hn h9, hx, mp_code, mg_code, c1, h0]
set_option maxHeartbeats 4000000 in
theorem cl_print_joined {n t : Nat} (hF : F 11 = nI n) (hn : n ≤ 12) (h9 : F 9 = bI (decide (0 < n))) {y : Int32} (ht : t < n) (hs : A 16 t = nI 3) : Cl 133 [.ref 149, .int (nI t), .int (y)] (mpic b F A L) nx = some ((mpic b (up1 F 0 (nI 1)) A L, nx, 0, 0), .inl (some (.long (0)))) := by
  refine Cl_of (x := mnI_X8_print) rfl ?_
  show Ev 133 0 [some (.ref 149), some (.int (nI t)), some (.int (y)), none] [] _ _
  have h0 : ¬ nI 1 ≤ nI 0 := by decide
  have c1 : up1 F 0 (nI 1) 0 = nI 1 := rfl
  simp (disch := first | omega | (simp only [cat_i, cat_r, ri_r, ri_0]; done)) only [eX8_print_0, eX8_print_1, eX8_print_2, eX8_print_5, eX8_print_6, eX8_print_7, eX8_print_10, eX8_print_11, eX8_print_14, eX8_print_15, eX8_print_16, eX8_print_17, eX8_print_20, eX8_print_21, eX8_print_22, eX8_print_25, eX8_print_26, eX8_print_29, eX8_print_30, eX8_print_31, eX8_print_32, eX8_print_35, eX8_print_38, eX8_print_39, eX8_print_40, eX8_print_41, eX8_print_42, eX8_print_45, eX8_print_46, eX8_print_47, eX8_print_48, eX8_print_49, eX8_print_52, eX8_print_55, eX8_print_56, eX8_print_59, eX8_print_60, eX8_print_61, eX8_print_62, eX8_print_63, eX8_print_66, eX8_print_67, eX8_print_70, eX8_print_71, eX8_print_74, eX8_print_75, eX8_print_78, eX8_print_81, eX8_print_82, eX8_print_85, eX8_print_86, eX8_print_87, eX8_print_90, eX8_print_91, eX8_print_94, eX8_print_95, eX8_print_96, eX8_print_99, eX8_print_100, eX8_print_103, eX8_print_105, eX8_print_106, eX8_print_107, eX8_print_108, eX8_print_109, eX8_print_110, Evk_some, Evh_some, Evn_some, Evr_v, Evr_n, mk_i, mk_r, mk_0, mk_n, mk_l, mc0, mc1, mc2, mc3, mc4, mi_obj, Bool.and_self, Bool.true_and, Nat.add_zero, Nat.zero_add, nI_add, pk_mul, pk_sub, Nat.add_sub_cancel, eq_self, if_true, if_false, n10, bI_t, bI_f, bI_0, Nat.reduceAdd, Nat.reduceMul, Nat.reduceSub, nI_eq, Nat.reduceEqDiff, Nat.reduceLT, Nat.reduceDiv, Nat.reduceMod, Nat.reduceLeDiff, cl_isTask hF hn h9, tIn ht hn, Bool.true_eq_false, mg_state, ml_state, hs, mp_code, mg_code, c1, h0]
set_option maxHeartbeats 4000000 in
theorem cl_print_res {n t : Nat} (hF : F 11 = nI n) (hn : n ≤ 12) (h9 : F 9 = bI (decide (0 < n))) (ht : t < n) (hs : A 16 t = nI 1) : Cl 133 [.ref 149, .int (nI t), .int (-1)] (mpic b F A L) nx = some ((mpic b (up1 F 0 (nI 0)) A L, nx, 0, 0), .inl (some (.long (L 26 t)))) := by
  refine Cl_of (x := mnI_X8_print) rfl ?_
  show Ev 133 0 [some (.ref 149), some (.int (nI t)), some (.int (-1)), none] [] _ _
  have h0 : nI 0 ≤ nI 0 := by decide
  have c1 : up1 F 0 (nI 0) 0 = nI 0 := rfl
  have h3 : ¬ nI 1 = nI 3 := by decide
  simp (disch := first | omega | (simp only [cat_i, cat_r, ri_r, ri_0]; done)) only [eX8_print_0, eX8_print_1, eX8_print_2, eX8_print_5, eX8_print_6, eX8_print_7, eX8_print_10, eX8_print_11, eX8_print_14, eX8_print_15, eX8_print_16, eX8_print_17, eX8_print_20, eX8_print_21, eX8_print_22, eX8_print_25, eX8_print_26, eX8_print_29, eX8_print_30, eX8_print_31, eX8_print_32, eX8_print_35, eX8_print_38, eX8_print_39, eX8_print_40, eX8_print_41, eX8_print_42, eX8_print_45, eX8_print_46, eX8_print_47, eX8_print_48, eX8_print_49, eX8_print_52, eX8_print_55, eX8_print_56, eX8_print_59, eX8_print_60, eX8_print_61, eX8_print_62, eX8_print_63, eX8_print_66, eX8_print_67, eX8_print_70, eX8_print_71, eX8_print_74, eX8_print_75, eX8_print_78, eX8_print_81, eX8_print_82, eX8_print_85, eX8_print_86, eX8_print_87, eX8_print_90, eX8_print_91, eX8_print_94, eX8_print_95, eX8_print_96, eX8_print_99, eX8_print_100, eX8_print_103, eX8_print_105, eX8_print_106, eX8_print_107, eX8_print_108, eX8_print_109, eX8_print_110, Evk_some, Evh_some, Evn_some, Evr_v, Evr_n, mk_i, mk_r, mk_0, mk_n, mk_l, mc0, mc1, mc2, mc3, mc4, mi_obj, Bool.and_self, Bool.true_and, Nat.add_zero, Nat.zero_add, nI_add, pk_mul, pk_sub, Nat.add_sub_cancel, eq_self, if_true, if_false, n10, bI_t, bI_f, bI_0, Nat.reduceAdd, Nat.reduceMul, Nat.reduceSub, Nat.reduceEqDiff, Nat.reduceLT, Nat.reduceDiv, Nat.reduceMod, Nat.reduceLeDiff, cl_isTask hF hn h9, tIn ht hn, Bool.true_eq_false, mg_state, ml_state, hs, h3, mp_code, mg_code, c1, h0, mg_result, ml_result]
set_option maxHeartbeats 4000000 in
theorem cl_print_nores {n t : Nat} (hF : F 11 = nI n) (hn : n ≤ 12) (h9 : F 9 = bI (decide (0 < n))) (ht : t < n) (hs : A 16 t ≠ nI 1) (hs3 : A 16 t ≠ nI 3) : Cl 133 [.ref 149, .int (nI t), .int (-1)] (mpic b F A L) nx = some ((mpic b (up1 F 0 (nI 1)) A L, nx, 0, 0), .inl (some (.long (0)))) := by
  refine Cl_of (x := mnI_X8_print) rfl ?_
  show Ev 133 0 [some (.ref 149), some (.int (nI t)), some (.int (-1)), none] [] _ _
  have h0 : ¬ nI 1 ≤ nI 0 := by decide
  have c1 : up1 F 0 (nI 1) 0 = nI 1 := rfl
  simp (disch := first | omega | (simp only [cat_i, cat_r, ri_r, ri_0]; done)) only [eX8_print_0, eX8_print_1, eX8_print_2, eX8_print_5, eX8_print_6, eX8_print_7, eX8_print_10, eX8_print_11, eX8_print_14, eX8_print_15, eX8_print_16, eX8_print_17, eX8_print_20, eX8_print_21, eX8_print_22, eX8_print_25, eX8_print_26, eX8_print_29, eX8_print_30, eX8_print_31, eX8_print_32, eX8_print_35, eX8_print_38, eX8_print_39, eX8_print_40, eX8_print_41, eX8_print_42, eX8_print_45, eX8_print_46, eX8_print_47, eX8_print_48, eX8_print_49, eX8_print_52, eX8_print_55, eX8_print_56, eX8_print_59, eX8_print_60, eX8_print_61, eX8_print_62, eX8_print_63, eX8_print_66, eX8_print_67, eX8_print_70, eX8_print_71, eX8_print_74, eX8_print_75, eX8_print_78, eX8_print_81, eX8_print_82, eX8_print_85, eX8_print_86, eX8_print_87, eX8_print_90, eX8_print_91, eX8_print_94, eX8_print_95, eX8_print_96, eX8_print_99, eX8_print_100, eX8_print_103, eX8_print_105, eX8_print_106, eX8_print_107, eX8_print_108, eX8_print_109, eX8_print_110, Evk_some, Evh_some, Evn_some, Evr_v, Evr_n, mk_i, mk_r, mk_0, mk_n, mk_l, mc0, mc1, mc2, mc3, mc4, mi_obj, Bool.and_self, Bool.true_and, Nat.add_zero, Nat.zero_add, nI_add, pk_mul, pk_sub, Nat.add_sub_cancel, eq_self, if_true, if_false, n10, bI_t, bI_f, bI_0, Nat.reduceAdd, Nat.reduceMul, Nat.reduceSub, Nat.reduceEqDiff, Nat.reduceLT, Nat.reduceDiv, Nat.reduceMod, Nat.reduceLeDiff, cl_isTask hF hn h9, tIn ht hn, Bool.true_eq_false, mg_state, ml_state, hs, hs3, mp_code, mg_code, c1, h0]
set_option maxHeartbeats 4000000 in
theorem cl_print_bad {n t m : Nat} (hF : F 11 = nI n) (hn : n ≤ 12) (h9 : F 9 = bI (decide (0 < n))) (ht : t < n) (hs3 : A 16 t ≠ nI 3) {y : Int32} (hy : y ≠ -1) (hm : A 24 t = nI m) (hm2 : m ≤ 30) (hb : (decide (nI 0 ≤ y) && decide (y < nI m)) = false) : Cl 133 [.ref 149, .int (nI t), .int (y)] (mpic b F A L) nx = some ((mpic b (up1 F 0 (nI 1)) A L, nx, 0, 0), .inl (some (.long (0)))) := by
  refine Cl_of (x := mnI_X8_print) rfl ?_
  show Ev 133 0 [some (.ref 149), some (.int (nI t)), some (.int (y)), none] [] _ _
  have h0 : ¬ nI 1 ≤ nI 0 := by decide
  have c1 : up1 F 0 (nI 1) 0 = nI 1 := rfl
  have hb2 : (decide (nI 0 ≤ y) && decide (y ≤ nI m - nI 1)) = false := by
    rw [← hb]
    congr 1
    rw [decide_eq_decide, Int32.le_iff_toInt_le, Int32.lt_iff_toInt_lt, pk_sub_toInt (by omega) (by omega), nI_toInt (by omega)]
    omega
  simp (disch := first | omega | (simp only [cat_i, cat_r, ri_r, ri_0]; done)) only [eX8_print_0, eX8_print_1, eX8_print_2, eX8_print_5, eX8_print_6, eX8_print_7, eX8_print_10, eX8_print_11, eX8_print_14, eX8_print_15, eX8_print_16, eX8_print_17, eX8_print_20, eX8_print_21, eX8_print_22, eX8_print_25, eX8_print_26, eX8_print_29, eX8_print_30, eX8_print_31, eX8_print_32, eX8_print_35, eX8_print_38, eX8_print_39, eX8_print_40, eX8_print_41, eX8_print_42, eX8_print_45, eX8_print_46, eX8_print_47, eX8_print_48, eX8_print_49, eX8_print_52, eX8_print_55, eX8_print_56, eX8_print_59, eX8_print_60, eX8_print_61, eX8_print_62, eX8_print_63, eX8_print_66, eX8_print_67, eX8_print_70, eX8_print_71, eX8_print_74, eX8_print_75, eX8_print_78, eX8_print_81, eX8_print_82, eX8_print_85, eX8_print_86, eX8_print_87, eX8_print_90, eX8_print_91, eX8_print_94, eX8_print_95, eX8_print_96, eX8_print_99, eX8_print_100, eX8_print_103, eX8_print_105, eX8_print_106, eX8_print_107, eX8_print_108, eX8_print_109, eX8_print_110, Evk_some, Evh_some, Evn_some, Evr_v, Evr_n, mk_i, mk_r, mk_0, mk_n, mk_l, mc0, mc1, mc2, mc3, mc4, mi_obj, Bool.and_self, Bool.true_and, Nat.add_zero, Nat.zero_add, nI_add, pk_mul, Nat.add_sub_cancel, eq_self, if_true, if_false, n10, bI_t, bI_f, bI_0, Nat.reduceAdd, Nat.reduceMul, Nat.reduceSub, Nat.reduceEqDiff, Nat.reduceLT, Nat.reduceDiv, Nat.reduceMod, Nat.reduceLeDiff, cl_isTask hF hn h9, tIn ht hn, Bool.true_eq_false, mg_state, ml_state, hs3, hy, mg_prints, ml_prints, hm, cl_in, toL_le, hb2, mp_code, mg_code, c1, h0]
set_option maxHeartbeats 4000000 in
theorem cl_print_ok {n t m y : Nat} (hF : F 11 = nI n) (hn : n ≤ 12) (h9 : F 9 = bI (decide (0 < n))) (ht : t < n) (hs3 : A 16 t ≠ nI 3) (hm : A 24 t = nI m) (hm2 : m ≤ 30) (hb : y < m) : Cl 133 [.ref 149, .int (nI t), .int (nI y)] (mpic b F A L) nx = some ((mpic b (up1 F 0 (nI 0)) A L, nx, 0, 0), .inl (some (.long (L 25 (30 * t + y))))) := by
  refine Cl_of (x := mnI_X8_print) rfl ?_
  show Ev 133 0 [some (.ref 149), some (.int (nI t)), some (.int (nI y)), none] [] _ _
  have h0 : nI 0 ≤ nI 0 := by decide
  have c1 : up1 F 0 (nI 0) 0 = nI 0 := rfl
  have hb2 := in0 (show y ≤ m - 1 by omega) (show m - 1 < 2 ^ 31 by omega)
  simp (disch := first | omega | (simp only [cat_i, cat_r, ri_r, ri_0]; done)) only [eX8_print_0, eX8_print_1, eX8_print_2, eX8_print_5, eX8_print_6, eX8_print_7, eX8_print_10, eX8_print_11, eX8_print_14, eX8_print_15, eX8_print_16, eX8_print_17, eX8_print_20, eX8_print_21, eX8_print_22, eX8_print_25, eX8_print_26, eX8_print_29, eX8_print_30, eX8_print_31, eX8_print_32, eX8_print_35, eX8_print_38, eX8_print_39, eX8_print_40, eX8_print_41, eX8_print_42, eX8_print_45, eX8_print_46, eX8_print_47, eX8_print_48, eX8_print_49, eX8_print_52, eX8_print_55, eX8_print_56, eX8_print_59, eX8_print_60, eX8_print_61, eX8_print_62, eX8_print_63, eX8_print_66, eX8_print_67, eX8_print_70, eX8_print_71, eX8_print_74, eX8_print_75, eX8_print_78, eX8_print_81, eX8_print_82, eX8_print_85, eX8_print_86, eX8_print_87, eX8_print_90, eX8_print_91, eX8_print_94, eX8_print_95, eX8_print_96, eX8_print_99, eX8_print_100, eX8_print_103, eX8_print_105, eX8_print_106, eX8_print_107, eX8_print_108, eX8_print_109, eX8_print_110, Evk_some, Evh_some, Evn_some, Evr_v, Evr_n, mk_i, mk_r, mk_0, mk_n, mk_l, mc0, mc1, mc2, mc3, mc4, mi_obj, Bool.and_self, Bool.true_and, Nat.add_zero, Nat.zero_add, nI_add, pk_mul, pk_sub, Nat.add_sub_cancel, eq_self, if_true, if_false, n10, bI_t, bI_f, bI_0, Nat.reduceAdd, Nat.reduceMul, Nat.reduceSub, Nat.reduceEqDiff, Nat.reduceLT, Nat.reduceDiv, Nat.reduceMod, Nat.reduceLeDiff, cl_isTask hF hn h9, tIn ht hn, Bool.true_eq_false, mg_state, ml_state, hs3, nI_m1, mg_prints, ml_prints, hm, cl_in, toL_le, hb2, mp_code, mg_code, c1, h0, mg_print, ml_print]
/-- what a merge gives: op and ar its instructions -/
def mrn (op : Nat → Int32) (ar : Nat → Int32) (x y z : Int64) : Nat → Nat → List Int64 → Option Int64
  | 0, _, _ => none
  | m + 1, pc, ls => if pc < 24 ∧ ls.length ≤ 6 then
      (if op pc = nI 16 then ls.head?
      else if op pc = nI 0 then mrn op ar x y z m (pc + 1) ((ar pc).toInt64 :: ls)
      else if op pc = nI 1 then mrn op ar x y z m (pc + 1) ((if ar pc = nI 0 then x else if ar pc = nI 1 then y else z) :: ls)
      else if nI 5 ≤ op pc ∧ op pc ≤ nI 10 then (match ls with
        | v :: u :: l => mrn op ar x y z m (pc + 1) (rk (op pc).toNatClampNeg u v :: l)
        | _ => none)
      else if op pc = nI 17 then (match ls with
        | v :: l => mrn op ar x y z m (pc + 1) (v :: v :: l)
        | _ => none)
      else if op pc = nI 18 then (match ls with
        | _ :: l => mrn op ar x y z m (pc + 1) l
        | _ => none)
      else if op pc = nI 12 then (match ls with
        | v :: l => if ar pc = nI (ar pc).toNatClampNeg then mrn op ar x y z m (if v = 0 then (ar pc).toNatClampNeg else pc + 1) l else none
        | _ => none)
      else none) else none
/-- a stack in a row: the top first -/
def stR (f : Nat → Int64) : List Int64 → Prop
  | [] => True
  | v :: l => f l.length = v ∧ stR f l
theorem stR_up {f : Nat → Int64} {x : Int64} : ∀ (l : List Int64) (i : Nat), l.length ≤ i → stR f l → stR (vp_updL f i x) l := by
  intro l
  induction l with
  | nil => intro i _ _; trivial
  | cons v l ih =>
    intro i hi h
    simp only [List.length_cons] at hi
    refine ⟨?_, ih i (by omega) h.2⟩
    rw [pk_uLn (by omega)]
    exact h.1
end ME
